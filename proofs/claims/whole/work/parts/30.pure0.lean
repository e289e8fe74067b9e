/-! pure rows: how the methods' values are computed -/
section PU0
variable {α β : Type}
theorem g_t {c : Prop} [Decidable c] {k : Option β} (h : c) : c_g c k = k := if_pos h
theorem i_t {c : Prop} [Decidable c] {a b : Option β} (h : c) : c_i c a b = a := if_pos h
theorem i_f {c : Prop} [Decidable c] {a b : Option β} (h : ¬ c) : c_i c a b = b := if_neg h
theorem n_s {o : Option Nat} {a : Nat} {k : Nat → Option β} (h : o = some a) : c_n o k = k a := by subst h; rfl
theorem c_s {x : Option (α × st_T)} {r : α} {S : st_T} {k : α → st_T → Option β} (h : x = some (r, S)) : c_c x k = k r S := by subst h; rfl
theorem l_e {x : α} {k : α → Option β} : c_l x k = k x := rfl
/-- a loop: from a, with an invariant and a measure, it comes to the value v -/
theorem w_run {body : (α → Option β) → α → Option β} (I : α → Prop) (μ : α → Nat) {v : Option β} (hs : ∀ a, I a → (∃ a', I a' ∧ μ a' < μ a ∧ ∀ rec, body rec a = rec a') ∨ (∀ rec, body rec a = v)) : ∀ (n : Nat) (a : α), I a → μ a < n → c_w body n a = v := by
  intro n
  induction n with
  | zero => intro a _ h; omega
  | succ n ih =>
    intro a hI hn
    show body (c_w body n) a = v
    rcases hs a hI with ⟨a', h1, h2, h3⟩ | h3
    · rw [h3]; exact ih a' h1 (by omega)
    · exact h3 _
/-- a loop whose value depends on where it began -/
theorem w_val {body : (α → Option β) → α → Option β} (I : α → Prop) (μ : α → Nat) (v : α → Option β) (hs : ∀ a, I a → (∃ a', I a' ∧ μ a' < μ a ∧ v a' = v a ∧ ∀ rec, body rec a = rec a') ∨ (∀ rec, body rec a = v a)) : ∀ (n : Nat) (a : α), I a → μ a < n → c_w body n a = v a := by
  intro n
  induction n with
  | zero => intro a _ h; omega
  | succ n ih =>
    intro a hI hn
    show body (c_w body n) a = v a
    rcases hs a hI with ⟨a', h1, h2, h4, h3⟩ | h3
    · rw [h3, ih a' h1 (by omega), h4]
    · exact h3 _
/-- a loop that comes to an end of which a relation tells -/
theorem w_rel {body : (α → Option β) → α → Option β} (I : α → Prop) (μ : α → Nat) (Q : Option β → Prop) (hs : ∀ a, I a → (∃ a', I a' ∧ μ a' < μ a ∧ ∀ rec, body rec a = rec a') ∨ (∃ v, Q v ∧ ∀ rec, body rec a = v)) : ∀ (n : Nat) (a : α), I a → μ a < n → Q (c_w body n a) := by
  intro n
  induction n with
  | zero => intro a _ h; omega
  | succ n ih =>
    intro a hI hn
    show Q (body (c_w body n) a)
    rcases hs a hI with ⟨a', h1, h2, h3⟩ | ⟨v, h4, h3⟩
    · rw [h3]; exact ih a' h1 (by omega)
    · rw [h3]; exact h4
end PU0
-- what a write leaves
section PU1
variable (S : st_T)
theorem K_pi (k a : Nat) (v : Int32) : st_K (st_pi S k a v) = st_K S := rfl
theorem K_pr (k a : Nat) (v : Option Nat) : st_K (st_pr S k a v) = st_K S := rfl
theorem K_wi (a j : Nat) (v : Int32) : st_K (st_wi S a j v) = st_K S := rfl
theorem K_wl (a j : Nat) (v : Int64) : st_K (st_wl S a j v) = st_K S := rfl
theorem K_wo (a j : Nat) (v : Option Nat) : st_K (st_wo S a j v) = st_K S := rfl
theorem K_xi (a : Nat) (f : Nat → Int32) : st_K (st_xi S a f) = st_K S := rfl
theorem K_xo (a : Nat) (f : Nat → Option Nat) : st_K (st_xo S a f) = st_K S := rfl
theorem K_no (c b : Nat) : st_K (st_no S c) b = if b = st_nx S then c + 1 else st_K S b := rfl
theorem K_na (z n b : Nat) : st_K (st_na S z n) b = if b = st_nx S then z else st_K S b := rfl
theorem K_sx (n : Nat) : st_K (st_sx S n) = st_K S := rfl
theorem fi_pi (k a : Nat) (v : Int32) (k' a' : Nat) : st_fi (st_pi S k a v) k' a' = if k' = k then (if a' = a then v else st_fi S k a') else st_fi S k' a' := by
  show va_up (st_fi S) k (va_up (st_fi S k) a v) k' a' = _
  unfold va_up
  split <;> rfl
theorem fi_pr (k a : Nat) (v : Option Nat) : st_fi (st_pr S k a v) = st_fi S := rfl
theorem fi_wi (a j : Nat) (v : Int32) : st_fi (st_wi S a j v) = st_fi S := rfl
theorem fi_wl (a j : Nat) (v : Int64) : st_fi (st_wl S a j v) = st_fi S := rfl
theorem fi_wo (a j : Nat) (v : Option Nat) : st_fi (st_wo S a j v) = st_fi S := rfl
theorem fi_xi (a : Nat) (f : Nat → Int32) : st_fi (st_xi S a f) = st_fi S := rfl
theorem fi_xo (a : Nat) (f : Nat → Option Nat) : st_fi (st_xo S a f) = st_fi S := rfl
theorem fi_no (c k b : Nat) : st_fi (st_no S c) k b = if b = st_nx S then 0 else st_fi S k b := rfl
theorem fi_na (z n : Nat) : st_fi (st_na S z n) = st_fi S := rfl
theorem fi_sx (n : Nat) : st_fi (st_sx S n) = st_fi S := rfl
theorem fr_pr' (k a : Nat) (v : Option Nat) (k' a' : Nat) : st_fr (st_pr S k a v) k' a' = if k' = k then (if a' = a then v else st_fr S k a') else st_fr S k' a' := by
  show va_up (st_fr S) k (va_up (st_fr S k) a v) k' a' = _
  unfold va_up
  split <;> rfl
theorem fr_pi' (k a : Nat) (v : Int32) : st_fr (st_pi S k a v) = st_fr S := rfl
theorem fr_wi' (a j : Nat) (v : Int32) : st_fr (st_wi S a j v) = st_fr S := rfl
theorem fr_wl' (a j : Nat) (v : Int64) : st_fr (st_wl S a j v) = st_fr S := rfl
theorem fr_wo' (a j : Nat) (v : Option Nat) : st_fr (st_wo S a j v) = st_fr S := rfl
theorem fr_xi' (a : Nat) (f : Nat → Int32) : st_fr (st_xi S a f) = st_fr S := rfl
theorem fr_xo' (a : Nat) (f : Nat → Option Nat) : st_fr (st_xo S a f) = st_fr S := rfl
theorem fr_no (c k b : Nat) : st_fr (st_no S c) k b = if b = st_nx S then none else st_fr S k b := rfl
theorem fr_na (z n : Nat) : st_fr (st_na S z n) = st_fr S := rfl
theorem fr_sx (n : Nat) : st_fr (st_sx S n) = st_fr S := rfl
theorem ln_pi (k a : Nat) (v : Int32) : st_ln (st_pi S k a v) = st_ln S := rfl
theorem ln_pr (k a : Nat) (v : Option Nat) : st_ln (st_pr S k a v) = st_ln S := rfl
theorem ln_wi (a j : Nat) (v : Int32) : st_ln (st_wi S a j v) = st_ln S := rfl
theorem ln_wl (a j : Nat) (v : Int64) : st_ln (st_wl S a j v) = st_ln S := rfl
theorem ln_wo (a j : Nat) (v : Option Nat) : st_ln (st_wo S a j v) = st_ln S := rfl
theorem ln_xi (a : Nat) (f : Nat → Int32) : st_ln (st_xi S a f) = st_ln S := rfl
theorem ln_xo (a : Nat) (f : Nat → Option Nat) : st_ln (st_xo S a f) = st_ln S := rfl
theorem ln_no (c : Nat) : st_ln (st_no S c) = st_ln S := rfl
theorem ln_na (z n b : Nat) : st_ln (st_na S z n) b = if b = st_nx S then n else st_ln S b := rfl
theorem ln_sx (n : Nat) : st_ln (st_sx S n) = st_ln S := rfl
theorem ri_pi (k a : Nat) (v : Int32) : st_ri (st_pi S k a v) = st_ri S := rfl
theorem ri_pr (k a : Nat) (v : Option Nat) : st_ri (st_pr S k a v) = st_ri S := rfl
theorem ri_wi (a j : Nat) (v : Int32) (a' j' : Nat) : st_ri (st_wi S a j v) a' j' = if a' = a then (if j' = j then v else st_ri S a j') else st_ri S a' j' := by
  show va_up (st_ri S) a (upd (st_ri S a) j v) a' j' = _
  unfold va_up upd
  split <;> rfl
theorem ri_wl (a j : Nat) (v : Int64) : st_ri (st_wl S a j v) = st_ri S := rfl
theorem ri_wo (a j : Nat) (v : Option Nat) : st_ri (st_wo S a j v) = st_ri S := rfl
theorem ri_xi (a : Nat) (f : Nat → Int32) (a' : Nat) : st_ri (st_xi S a f) a' = if a' = a then f else st_ri S a' := rfl
theorem ri_xo (a : Nat) (f : Nat → Option Nat) : st_ri (st_xo S a f) = st_ri S := rfl
theorem ri_no (c : Nat) : st_ri (st_no S c) = st_ri S := rfl
theorem ri_na (z n b : Nat) : st_ri (st_na S z n) b = if b = st_nx S then (fun _ => 0) else st_ri S b := rfl
theorem ri_sx (n : Nat) : st_ri (st_sx S n) = st_ri S := rfl
theorem rl_pi (k a : Nat) (v : Int32) : st_rl (st_pi S k a v) = st_rl S := rfl
theorem rl_pr (k a : Nat) (v : Option Nat) : st_rl (st_pr S k a v) = st_rl S := rfl
theorem rl_wi (a j : Nat) (v : Int32) : st_rl (st_wi S a j v) = st_rl S := rfl
theorem rl_wl (a j : Nat) (v : Int64) (a' j' : Nat) : st_rl (st_wl S a j v) a' j' = if a' = a then (if j' = j then v else st_rl S a j') else st_rl S a' j' := by
  show va_up (st_rl S) a (vp_updL (st_rl S a) j v) a' j' = _
  unfold va_up vp_updL
  split <;> rfl
theorem rl_wo (a j : Nat) (v : Option Nat) : st_rl (st_wo S a j v) = st_rl S := rfl
theorem rl_xi (a : Nat) (f : Nat → Int32) : st_rl (st_xi S a f) = st_rl S := rfl
theorem rl_xo (a : Nat) (f : Nat → Option Nat) : st_rl (st_xo S a f) = st_rl S := rfl
theorem rl_no (c : Nat) : st_rl (st_no S c) = st_rl S := rfl
theorem rl_na (z n b : Nat) : st_rl (st_na S z n) b = if b = st_nx S then (fun _ => 0) else st_rl S b := rfl
theorem rl_sx (n : Nat) : st_rl (st_sx S n) = st_rl S := rfl
theorem ro_pi (k a : Nat) (v : Int32) : st_ro (st_pi S k a v) = st_ro S := rfl
theorem ro_pr (k a : Nat) (v : Option Nat) : st_ro (st_pr S k a v) = st_ro S := rfl
theorem ro_wi (a j : Nat) (v : Int32) : st_ro (st_wi S a j v) = st_ro S := rfl
theorem ro_wl (a j : Nat) (v : Int64) : st_ro (st_wl S a j v) = st_ro S := rfl
theorem ro_wo (a j : Nat) (v : Option Nat) (a' j' : Nat) : st_ro (st_wo S a j v) a' j' = if a' = a then (if j' = j then v else st_ro S a j') else st_ro S a' j' := by
  show va_up (st_ro S) a (va_up (st_ro S a) j v) a' j' = _
  unfold va_up
  split <;> rfl
theorem ro_xi (a : Nat) (f : Nat → Int32) : st_ro (st_xi S a f) = st_ro S := rfl
theorem ro_xo (a : Nat) (f : Nat → Option Nat) (a' : Nat) : st_ro (st_xo S a f) a' = if a' = a then f else st_ro S a' := rfl
theorem ro_no (c : Nat) : st_ro (st_no S c) = st_ro S := rfl
theorem ro_na (z n b : Nat) : st_ro (st_na S z n) b = if b = st_nx S then (fun _ => none) else st_ro S b := rfl
theorem ro_sx (n : Nat) : st_ro (st_sx S n) = st_ro S := rfl
theorem nx_pi (k a : Nat) (v : Int32) : st_nx (st_pi S k a v) = st_nx S := rfl
theorem nx_pr (k a : Nat) (v : Option Nat) : st_nx (st_pr S k a v) = st_nx S := rfl
theorem nx_wi (a j : Nat) (v : Int32) : st_nx (st_wi S a j v) = st_nx S := rfl
theorem nx_wl (a j : Nat) (v : Int64) : st_nx (st_wl S a j v) = st_nx S := rfl
theorem nx_wo (a j : Nat) (v : Option Nat) : st_nx (st_wo S a j v) = st_nx S := rfl
theorem nx_xi (a : Nat) (f : Nat → Int32) : st_nx (st_xi S a f) = st_nx S := rfl
theorem nx_xo (a : Nat) (f : Nat → Option Nat) : st_nx (st_xo S a f) = st_nx S := rfl
theorem nx_no (c : Nat) : st_nx (st_no S c) = st_nx S + 1 := rfl
theorem nx_na (z n : Nat) : st_nx (st_na S z n) = st_nx S + 1 := rfl
theorem nx_sx (n : Nat) : st_nx (st_sx S n) = n := rfl
end PU1
