/-! how a method's value is run: roads, loops that count, numbers -/
section XB
variable {α β : Type}
theorem xg {c : Prop} [Decidable c] {k : Option β} : c_g c k = if c then k else none := id rfl
theorem xi {c : Prop} [Decidable c] {a b : Option β} : c_i c a b = if c then a else b := id rfl
theorem xl {x : α} {k : α → Option β} : c_l x k = k x := id rfl
theorem xn {a : Nat} {k : Nat → Option β} : c_n (some a) k = k a := id rfl
theorem xc {r : α} {S : st_T} {k : α → st_T → Option β} : c_c (some (r, S)) k = k r S := id rfl
theorem xon {a : Option β} {k : Nat → Option β} : c_o none a k = a := id rfl
theorem xos {q : Nat} {a : Option β} {k : Nat → Option β} : c_o (some q) a k = k q := id rfl
/-- a loop that counts: from i to n, with a way out ahead of n -/
theorem w_cnt {body : (α → Option β) → α → Option β} (n : Nat) (st : Nat → α) {v : Option β} (hs : ∀ i, i < n → (∀ rec, body rec (st i) = rec (st (i + 1))) ∨ (∀ rec, body rec (st i) = v)) (he : ∀ rec, body rec (st n) = v) : ∀ (N i : Nat), i ≤ n → n - i < N → c_w body N (st i) = v := by
  intro N
  induction N with
  | zero => intro i _ h; omega
  | succ N ih =>
    intro i hi hN
    show body (c_w body N) (st i) = v
    by_cases e : i = n
    · subst e; exact he _
    · rcases hs i (by omega) with h | h
      · rw [h]; exact ih (i + 1) (by omega) (by omega)
      · exact h _
theorem w_cnt0 {body : (α → Option β) → α → Option β} (n : Nat) (st : Nat → α) {v : Option β} (hs : ∀ i, i < n → ∀ rec, body rec (st i) = rec (st (i + 1))) (he : ∀ rec, body rec (st n) = v) (N i : Nat) (hi : i ≤ n) (hN : n - i < N) : c_w body N (st i) = v := w_cnt n st (fun i hi => Or.inl (hs i hi)) he N i hi hN
/-- the same, of states that a relation tells of -/
theorem ok_cnt {body : (α → Option (β × st_T)) → α → Option (β × st_T)} {Q : β → st_T → Prop} (n : Nat) (I : Nat → α → Prop) (hs : ∀ i a rec, i < n → I i a → (∀ a', I (i + 1) a' → ok (rec a') Q) → ok (body rec a) Q) (he : ∀ a rec, I n a → ok (body rec a) Q) : ∀ (N i : Nat) (a : α), i ≤ n → I i a → n - i < N → ok (c_w body N a) Q := by
  intro N
  induction N with
  | zero => intro i a _ _ h; omega
  | succ N ih =>
    intro i a hi hI hN
    show ok (body (c_w body N) a) Q
    by_cases e : i = n
    · subst e; exact he _ _ hI
    · exact hs i a _ (by omega) hI (fun a' h => ih (i + 1) a' (by omega) h (by omega))
theorem ok_cc {x : Option (α × st_T)} {k : α → st_T → Option (β × st_T)} {P : α → st_T → Prop} {Q : β → st_T → Prop} (h : ok x P) (hk : ∀ r S, P r S → ok (k r S) Q) : ok (c_c x k) Q := by
  obtain ⟨r, S, h1, h2⟩ := h
  rw [h1]
  exact hk r S h2
end XB
theorem N_big {a b : Nat} (h : a ≤ 5000) : a - b < c_N := by unfold c_N; omega
-- numbers
theorem in_t {p n : Nat} (h : p < n) (h2 : p < 2 ^ 31) : c_in (nI p) n = True := eq_true ((in_nI h2).mpr h)
theorem le_t {a b : Nat} (h : a ≤ b) (hb : b < 2 ^ 31) : (nI a ≤ nI b) = True := eq_true (nI_le h hb)
theorem le_f {a b : Nat} (h : b < a) (hb : a < 2 ^ 31) : (nI a ≤ nI b) = False := eq_false (nI_ge h hb)
theorem lt_t {a b : Nat} (h : a < b) (hb : b < 2 ^ 31) : (nI a < nI b) = True := eq_true (nI_lt h hb)
theorem lt_f {a b : Nat} (h : b ≤ a) (hb : a < 2 ^ 31) : (nI a < nI b) = False := eq_false (nI_nlt h hb)
theorem eq_t {a b : Nat} (h : a = b) : (nI a = nI b) = True := eq_true (by rw [h])
theorem eq_f {a b : Nat} (h : a ≠ b) (ha : a < 2 ^ 31) (hb : b < 2 ^ 31) : (nI a = nI b) = False := eq_false (fun q => h ((nI_eq ha hb).mp q))
/-- the constants below nought -/
def m1 : Int32 := -1
def m2 : Int32 := -2
def m3 : Int32 := -3
def m8 : Int32 := -8
theorem ln_1 : (-1 : Int32) = m1 := id rfl
theorem ln_2 : (-2 : Int32) = m2 := id rfl
theorem ln_3 : (-3 : Int32) = m3 := id rfl
theorem ln_8 : (-8 : Int32) = m8 := id rfl
theorem m1_I : m1.toInt = -1 := by decide
theorem m8_I : m8.toInt = -8 := by decide
theorem m1_ne {n : Nat} (h : n < 2 ^ 31) : (nI n = m1) = False := eq_false (nI_neg h)
theorem m1_ne' {n : Nat} (h : n < 2 ^ 31) : (m1 = nI n) = False := eq_false (fun q => nI_neg h q.symm)
theorem m1_lt {n : Nat} (h : n < 2 ^ 31) : (m1 < nI n) = True := eq_true (neg_lt h)
theorem m1_le {n : Nat} (h : n < 2 ^ 31) : (m1 ≤ nI n) = True := eq_true (by rw [Int32.le_iff_toInt_le, m1_I, nI_toInt h]; omega)
theorem m1_nlt {n : Nat} (h : n < 2 ^ 31) : (nI n < m1) = False := eq_false (by rw [Int32.lt_iff_toInt_lt, m1_I, nI_toInt h]; omega)
theorem m1_nle {n : Nat} (h : n < 2 ^ 31) : (nI n ≤ m1) = False := eq_false (by rw [Int32.le_iff_toInt_le, m1_I, nI_toInt h]; omega)
theorem m1_add {n : Nat} (h : 1 ≤ n) : nI n + m1 = nI (n - 1) := by
  have : nI n = nI (n - 1) + 1 := by rw [nI_1]; congr 1; omega
  rw [this, Int32.add_assoc]
  have : (1 : Int32) + m1 = 0 := by decide
  rw [this, Int32.add_zero]
theorem m8_add {n : Nat} (h : 8 ≤ n) : nI n + m8 = nI (n - 8) := by
  have : nI n = nI (n - 8) + nI 8 := by rw [nI_add]; congr 1; omega
  rw [this, Int32.add_assoc]
  have : nI 8 + m8 = 0 := by decide
  rw [this, Int32.add_zero]
theorem m1_neg : (m1 < nI 0) = True := eq_true (by decide)
theorem m8_neg : (nI 0 + m8 < nI 0) = True := eq_true (by decide)
/-- an int against two bounds -/
theorem rg (x : Int32) (lo hi : Nat) (h : lo ≤ hi + 1) (hh : hi < 2 ^ 31 - 1) : x < nI lo ∨ (¬ x < nI lo ∧ nI hi < x) ∨ ∃ n, lo ≤ n ∧ n ≤ hi ∧ x = nI n := by
  by_cases h1 : x < nI lo
  · exact Or.inl h1
  · by_cases h2 : nI hi < x
    · exact Or.inr (Or.inl ⟨h1, h2⟩)
    · right; right
      rw [Int32.lt_iff_toInt_lt, nI_toInt (by omega)] at h1 h2
      refine ⟨x.toInt.toNat, by omega, by omega, Int32.toInt_inj.mp ?_⟩
      rw [nI_toInt (by omega)]
      omega
theorem nI_sub' {a b : Nat} (h : b ≤ a) : nI a - nI b = nI (a - b) := nI_sub h
theorem z_sub : nI 0 - nI 1 = m1 := by decide

-- reading behind writes
section RB
variable (S : st_T)
theorem sa_pi (k a : Nat) (v : Int32) : st_sa (st_pi S k a v) = st_sa S := rfl
theorem sa_pr (k a : Nat) (v : Option Nat) : st_sa (st_pr S k a v) = st_sa S := rfl
theorem sa_wi (a j : Nat) (v : Int32) : st_sa (st_wi S a j v) = st_sa S := rfl
theorem sa_wl (a j : Nat) (v : Int64) : st_sa (st_wl S a j v) = st_sa S := rfl
theorem sa_wo (a j : Nat) (v : Option Nat) : st_sa (st_wo S a j v) = st_sa S := rfl
theorem fi_pi_at (k a : Nat) (v : Int32) : st_fi (st_pi S k a v) k a = v := by rw [fi_pi, if_pos rfl, if_pos rfl]
theorem fi_pi_nk (k a : Nat) (v : Int32) (k' a' : Nat) (h : k' ≠ k) : st_fi (st_pi S k a v) k' a' = st_fi S k' a' := by rw [fi_pi, if_neg h]
theorem fi_pi_na (k a : Nat) (v : Int32) (k' a' : Nat) (h : a' ≠ a) : st_fi (st_pi S k a v) k' a' = st_fi S k' a' := by
  rw [fi_pi, if_neg h]
  split
  · next e => rw [e]
  · rfl
theorem fr_pr_at (k a : Nat) (v : Option Nat) : st_fr (st_pr S k a v) k a = v := by rw [fr_pr', if_pos rfl, if_pos rfl]
theorem fr_pr_nk (k a : Nat) (v : Option Nat) (k' a' : Nat) (h : k' ≠ k) : st_fr (st_pr S k a v) k' a' = st_fr S k' a' := by rw [fr_pr', if_neg h]
theorem fr_pr_na (k a : Nat) (v : Option Nat) (k' a' : Nat) (h : a' ≠ a) : st_fr (st_pr S k a v) k' a' = st_fr S k' a' := by
  rw [fr_pr', if_neg h]
  split
  · next e => rw [e]
  · rfl
theorem ri_wi_at (a j : Nat) (v : Int32) : st_ri (st_wi S a j v) a j = v := by rw [ri_wi, if_pos rfl, if_pos rfl]
theorem ri_wi_ne (a j : Nat) (v : Int32) (a' : Nat) (h : a' ≠ a) : st_ri (st_wi S a j v) a' = st_ri S a' := by
  funext j'
  rw [ri_wi, if_neg h]
theorem ri_wi_nj (a j : Nat) (v : Int32) (a' j' : Nat) (h : j' ≠ j) : st_ri (st_wi S a j v) a' j' = st_ri S a' j' := by
  rw [ri_wi, if_neg h]
  split
  · next e => rw [e]
  · rfl
theorem ri_wi_j (a j : Nat) (v : Int32) (j' : Nat) : st_ri (st_wi S a j v) a j' = if j' = j then v else st_ri S a j' := by rw [ri_wi, if_pos rfl]
theorem rl_wl_at (a j : Nat) (v : Int64) : st_rl (st_wl S a j v) a j = v := by rw [rl_wl, if_pos rfl, if_pos rfl]
theorem rl_wl_ne (a j : Nat) (v : Int64) (a' : Nat) (h : a' ≠ a) : st_rl (st_wl S a j v) a' = st_rl S a' := by
  funext j'
  rw [rl_wl, if_neg h]
theorem rl_wl_nj (a j : Nat) (v : Int64) (a' j' : Nat) (h : j' ≠ j) : st_rl (st_wl S a j v) a' j' = st_rl S a' j' := by
  rw [rl_wl, if_neg h]
  split
  · next e => rw [e]
  · rfl
end RB
section CWn
variable {β : Type} {S : st_T}
/-- a call of isWithin -/
theorem cW {a lo hi : Int32} {k : Int32 → st_T → Option β} : c_c (f_X8_isWithin S a lo hi) k = if a < lo then k 0 S else if hi < a then k 0 S else k 1 S := by
  unfold f_X8_isWithin c_i
  split
  · rfl
  · split <;> rfl
theorem cSz {a n : Nat} {k : Int32 → st_T → Option β} (h1 : st_K S a = 1) (h2 : st_fi S 2 a = nI n) : c_c (f_Jx4a65c_size_8abf5 S a) k = k (nI n) S := by
  unfold f_Jx4a65c_size_8abf5 c_g
  rw [if_pos h1, h2]
  rfl
end CWn
theorem m1_i : (m1 < m1) = False := eq_false (by decide)
-- the same, as laws that are no rfl
theorem qK_pi (S : st_T) (k a : Nat) (v : Int32) : st_K (st_pi S k a v) = st_K S := id rfl
theorem qK_pr (S : st_T) (k a : Nat) (v : Option Nat) : st_K (st_pr S k a v) = st_K S := id rfl
theorem qK_wi (S : st_T) (a j : Nat) (v : Int32) : st_K (st_wi S a j v) = st_K S := id rfl
theorem qK_wl (S : st_T) (a j : Nat) (v : Int64) : st_K (st_wl S a j v) = st_K S := id rfl
theorem qK_wo (S : st_T) (a j : Nat) (v : Option Nat) : st_K (st_wo S a j v) = st_K S := id rfl
theorem qK_xi (S : st_T) (a : Nat) (f : Nat → Int32) : st_K (st_xi S a f) = st_K S := id rfl
theorem qK_xo (S : st_T) (a : Nat) (f : Nat → Option Nat) : st_K (st_xo S a f) = st_K S := id rfl
theorem qfr_pi' (S : st_T) (k a : Nat) (v : Int32) : st_fr (st_pi S k a v) = st_fr S := id rfl
theorem qfr_wi' (S : st_T) (a j : Nat) (v : Int32) : st_fr (st_wi S a j v) = st_fr S := id rfl
theorem qfr_wl' (S : st_T) (a j : Nat) (v : Int64) : st_fr (st_wl S a j v) = st_fr S := id rfl
theorem qfr_wo' (S : st_T) (a j : Nat) (v : Option Nat) : st_fr (st_wo S a j v) = st_fr S := id rfl
theorem qfr_xi' (S : st_T) (a : Nat) (f : Nat → Int32) : st_fr (st_xi S a f) = st_fr S := id rfl
theorem qfr_xo' (S : st_T) (a : Nat) (f : Nat → Option Nat) : st_fr (st_xo S a f) = st_fr S := id rfl
theorem qfi_pr (S : st_T) (k a : Nat) (v : Option Nat) : st_fi (st_pr S k a v) = st_fi S := id rfl
theorem qfi_wi (S : st_T) (a j : Nat) (v : Int32) : st_fi (st_wi S a j v) = st_fi S := id rfl
theorem qfi_wl (S : st_T) (a j : Nat) (v : Int64) : st_fi (st_wl S a j v) = st_fi S := id rfl
theorem qfi_wo (S : st_T) (a j : Nat) (v : Option Nat) : st_fi (st_wo S a j v) = st_fi S := id rfl
theorem qfi_xi (S : st_T) (a : Nat) (f : Nat → Int32) : st_fi (st_xi S a f) = st_fi S := id rfl
theorem qfi_xo (S : st_T) (a : Nat) (f : Nat → Option Nat) : st_fi (st_xo S a f) = st_fi S := id rfl
theorem qln_pi (S : st_T) (k a : Nat) (v : Int32) : st_ln (st_pi S k a v) = st_ln S := id rfl
theorem qln_pr (S : st_T) (k a : Nat) (v : Option Nat) : st_ln (st_pr S k a v) = st_ln S := id rfl
theorem qln_wi (S : st_T) (a j : Nat) (v : Int32) : st_ln (st_wi S a j v) = st_ln S := id rfl
theorem qln_wl (S : st_T) (a j : Nat) (v : Int64) : st_ln (st_wl S a j v) = st_ln S := id rfl
theorem qln_wo (S : st_T) (a j : Nat) (v : Option Nat) : st_ln (st_wo S a j v) = st_ln S := id rfl
theorem qln_xi (S : st_T) (a : Nat) (f : Nat → Int32) : st_ln (st_xi S a f) = st_ln S := id rfl
theorem qln_xo (S : st_T) (a : Nat) (f : Nat → Option Nat) : st_ln (st_xo S a f) = st_ln S := id rfl
theorem qri_pi (S : st_T) (k a : Nat) (v : Int32) : st_ri (st_pi S k a v) = st_ri S := id rfl
theorem qri_pr (S : st_T) (k a : Nat) (v : Option Nat) : st_ri (st_pr S k a v) = st_ri S := id rfl
theorem qri_wl (S : st_T) (a j : Nat) (v : Int64) : st_ri (st_wl S a j v) = st_ri S := id rfl
theorem qri_wo (S : st_T) (a j : Nat) (v : Option Nat) : st_ri (st_wo S a j v) = st_ri S := id rfl
theorem qri_xo (S : st_T) (a : Nat) (f : Nat → Option Nat) : st_ri (st_xo S a f) = st_ri S := id rfl
theorem qrl_pi (S : st_T) (k a : Nat) (v : Int32) : st_rl (st_pi S k a v) = st_rl S := id rfl
theorem qrl_pr (S : st_T) (k a : Nat) (v : Option Nat) : st_rl (st_pr S k a v) = st_rl S := id rfl
theorem qrl_wi (S : st_T) (a j : Nat) (v : Int32) : st_rl (st_wi S a j v) = st_rl S := id rfl
theorem qrl_wo (S : st_T) (a j : Nat) (v : Option Nat) : st_rl (st_wo S a j v) = st_rl S := id rfl
theorem qrl_xi (S : st_T) (a : Nat) (f : Nat → Int32) : st_rl (st_xi S a f) = st_rl S := id rfl
theorem qrl_xo (S : st_T) (a : Nat) (f : Nat → Option Nat) : st_rl (st_xo S a f) = st_rl S := id rfl
theorem qro_pi (S : st_T) (k a : Nat) (v : Int32) : st_ro (st_pi S k a v) = st_ro S := id rfl
theorem qro_pr (S : st_T) (k a : Nat) (v : Option Nat) : st_ro (st_pr S k a v) = st_ro S := id rfl
theorem qro_wi (S : st_T) (a j : Nat) (v : Int32) : st_ro (st_wi S a j v) = st_ro S := id rfl
theorem qro_wl (S : st_T) (a j : Nat) (v : Int64) : st_ro (st_wl S a j v) = st_ro S := id rfl
theorem qro_xi (S : st_T) (a : Nat) (f : Nat → Int32) : st_ro (st_xi S a f) = st_ro S := id rfl
theorem qnx_pi (S : st_T) (k a : Nat) (v : Int32) : st_nx (st_pi S k a v) = st_nx S := id rfl
theorem qnx_pr (S : st_T) (k a : Nat) (v : Option Nat) : st_nx (st_pr S k a v) = st_nx S := id rfl
theorem qnx_wi (S : st_T) (a j : Nat) (v : Int32) : st_nx (st_wi S a j v) = st_nx S := id rfl
theorem qnx_wl (S : st_T) (a j : Nat) (v : Int64) : st_nx (st_wl S a j v) = st_nx S := id rfl
theorem qnx_wo (S : st_T) (a j : Nat) (v : Option Nat) : st_nx (st_wo S a j v) = st_nx S := id rfl
theorem qnx_xi (S : st_T) (a : Nat) (f : Nat → Int32) : st_nx (st_xi S a f) = st_nx S := id rfl
theorem qnx_xo (S : st_T) (a : Nat) (f : Nat → Option Nat) : st_nx (st_xo S a f) = st_nx S := id rfl
theorem qsa_pi (S : st_T) (k a : Nat) (v : Int32) : st_sa (st_pi S k a v) = st_sa S := id rfl
theorem qsa_wi (S : st_T) (a j : Nat) (v : Int32) : st_sa (st_wi S a j v) = st_sa S := id rfl
theorem qsa_wl (S : st_T) (a j : Nat) (v : Int64) : st_sa (st_wl S a j v) = st_sa S := id rfl
theorem qsa_pr (S : st_T) (k a : Nat) (v : Option Nat) : st_sa (st_pr S k a v) = st_sa S := id rfl
theorem qsa_wo (S : st_T) (a j : Nat) (v : Option Nat) : st_sa (st_wo S a j v) = st_sa S := id rfl
theorem qli_0 : (0 : Int32) = nI 0 := id rfl
theorem qli_1 : (1 : Int32) = nI 1 := id rfl
theorem qli_2 : (2 : Int32) = nI 2 := id rfl
theorem qli_3 : (3 : Int32) = nI 3 := id rfl
theorem qli_4 : (4 : Int32) = nI 4 := id rfl
theorem qli_5 : (5 : Int32) = nI 5 := id rfl
theorem qli_6 : (6 : Int32) = nI 6 := id rfl
theorem qli_7 : (7 : Int32) = nI 7 := id rfl
theorem qli_8 : (8 : Int32) = nI 8 := id rfl
theorem qli_9 : (9 : Int32) = nI 9 := id rfl
theorem qli_10 : (10 : Int32) = nI 10 := id rfl
theorem qli_11 : (11 : Int32) = nI 11 := id rfl
theorem qli_12 : (12 : Int32) = nI 12 := id rfl
theorem qli_13 : (13 : Int32) = nI 13 := id rfl
theorem qli_14 : (14 : Int32) = nI 14 := id rfl
theorem qli_15 : (15 : Int32) = nI 15 := id rfl
theorem qli_16 : (16 : Int32) = nI 16 := id rfl
theorem qli_17 : (17 : Int32) = nI 17 := id rfl
theorem qli_18 : (18 : Int32) = nI 18 := id rfl
theorem qli_19 : (19 : Int32) = nI 19 := id rfl
theorem qli_20 : (20 : Int32) = nI 20 := id rfl
theorem qli_21 : (21 : Int32) = nI 21 := id rfl
theorem qli_22 : (22 : Int32) = nI 22 := id rfl
theorem qli_23 : (23 : Int32) = nI 23 := id rfl
theorem qli_24 : (24 : Int32) = nI 24 := id rfl
theorem qli_25 : (25 : Int32) = nI 25 := id rfl
theorem qli_26 : (26 : Int32) = nI 26 := id rfl
theorem qli_31 : (31 : Int32) = nI 31 := id rfl
theorem qli_32 : (32 : Int32) = nI 32 := id rfl
theorem qli_37 : (37 : Int32) = nI 37 := id rfl
theorem qli_39 : (39 : Int32) = nI 39 := id rfl
theorem qli_40 : (40 : Int32) = nI 40 := id rfl
theorem qli_41 : (41 : Int32) = nI 41 := id rfl
theorem qli_42 : (42 : Int32) = nI 42 := id rfl
theorem qli_43 : (43 : Int32) = nI 43 := id rfl
theorem qli_45 : (45 : Int32) = nI 45 := id rfl
theorem qli_47 : (47 : Int32) = nI 47 := id rfl
theorem qli_48 : (48 : Int32) = nI 48 := id rfl
theorem qli_49 : (49 : Int32) = nI 49 := id rfl
theorem qli_50 : (50 : Int32) = nI 50 := id rfl
theorem qli_56 : (56 : Int32) = nI 56 := id rfl
theorem qli_57 : (57 : Int32) = nI 57 := id rfl
theorem qli_59 : (59 : Int32) = nI 59 := id rfl
theorem qli_60 : (60 : Int32) = nI 60 := id rfl
theorem qli_61 : (61 : Int32) = nI 61 := id rfl
theorem qli_63 : (63 : Int32) = nI 63 := id rfl
theorem qli_64 : (64 : Int32) = nI 64 := id rfl
theorem qli_96 : (96 : Int32) = nI 96 := id rfl
theorem qli_97 : (97 : Int32) = nI 97 := id rfl
theorem qli_99 : (99 : Int32) = nI 99 := id rfl
theorem qli_100 : (100 : Int32) = nI 100 := id rfl
theorem qli_101 : (101 : Int32) = nI 101 := id rfl
theorem qli_122 : (122 : Int32) = nI 122 := id rfl
theorem qli_126 : (126 : Int32) = nI 126 := id rfl
theorem qli_143 : (143 : Int32) = nI 143 := id rfl
theorem qli_144 : (144 : Int32) = nI 144 := id rfl
theorem qli_192 : (192 : Int32) = nI 192 := id rfl
theorem qli_200 : (200 : Int32) = nI 200 := id rfl
theorem qli_201 : (201 : Int32) = nI 201 := id rfl
theorem qli_216 : (216 : Int32) = nI 216 := id rfl
theorem qli_255 : (255 : Int32) = nI 255 := id rfl
theorem qli_256 : (256 : Int32) = nI 256 := id rfl
theorem qli_780 : (780 : Int32) = nI 780 := id rfl
theorem qli_799 : (799 : Int32) = nI 799 := id rfl
theorem qli_800 : (800 : Int32) = nI 800 := id rfl
theorem qli_801 : (801 : Int32) = nI 801 := id rfl
theorem qli_802 : (802 : Int32) = nI 802 := id rfl
theorem qli_880 : (880 : Int32) = nI 880 := id rfl
theorem qli_1000 : (1000 : Int32) = nI 1000 := id rfl
theorem qli_5760 : (5760 : Int32) = nI 5760 := id rfl
theorem qli_7040 : (7040 : Int32) = nI 7040 := id rfl
theorem qli_7920 : (7920 : Int32) = nI 7920 := id rfl
theorem qli_1000000 : (1000000 : Int32) = nI 1000000 := id rfl
