/-! the constructors -/
section CO0
variable {β : Type} {B S T : st_T} {x N : Nat} {Kf Lf : Nat → Nat} {Ff : Nat → Nat → Option Nat} {If : Nat → Nat → Int32} {Rf : Nat → Nat → Int32} {Wf : Nat → Nat → Int64} {Q : β → st_T → Prop}
def u1 {α : Type} (f : Nat → α) (n : Nat) (v : α) : Nat → α := fun i => if i = n then v else f i
def uN {α : Type} (f : Nat → Nat → α) (n : Nat) (v : α) : Nat → Nat → α := fun k i => if i = n then v else f k i
def u2 {α : Type} (f : Nat → Nat → α) (k n : Nat) (v : α) : Nat → Nat → α := fun k' i => if k' = k then (if i = n then v else f k' i) else f k' i
/-- cells from x on, as far as they are built -/
def HB (B : st_T) (x N : Nat) (Kf Lf : Nat → Nat) (Ff : Nat → Nat → Option Nat) (If : Nat → Nat → Int32) (Rf : Nat → Nat → Int32) (Wf : Nat → Nat → Int64) (T : st_T) : Prop := st_nx T = x + N ∧ st_sa T = st_sa B ∧ og B T (fun b => b < x) ∧ ∀ i, i < N → st_K T (x + i) = Kf i ∧ (Kf i < 20 → (∀ k, st_fr T k (x + i) = Ff k i) ∧ ∀ k, st_fi T k (x + i) = If k i) ∧ (20 ≤ Kf i → st_ln T (x + i) = Lf i ∧ (∀ q, st_ri T (x + i) q = Rf i q) ∧ ∀ q, st_rl T (x + i) q = Wf i q)
theorem L_nx {k : Nat → Option (β × st_T)} (hb : HB B x N Kf Lf Ff If Rf Wf S) (h : ok (k (x + N)) Q) : ok (c_l (st_nx S) k) Q := by
  rw [ok_l, hb.1]
  exact h
theorem L_no {c : Nat} {k : st_T → Option (β × st_T)} (hb : HB B x N Kf Lf Ff If Rf Wf S) (hc : c + 1 < 20) (h : ∀ T, HB B x (N + 1) (u1 Kf N (c + 1)) Lf (uN Ff N none) (uN If N 0) Rf Wf T → ok (k T) Q) : ok (c_l (st_no S c) k) Q := by
  rw [ok_l]
  obtain ⟨h1, h2, h3, h4⟩ := hb
  refine h _ ⟨by rw [nx_no, h1]; rfl, h2, og_no h3 (by omega), fun i hi => ?_⟩
  by_cases e : i = N
  · subst e
    have a : st_nx S = x + i := h1
    have k1 : u1 Kf i (c + 1) i = c + 1 := if_pos rfl
    rw [k1]
    refine ⟨by rw [K_no, if_pos a.symm], fun _ => ⟨fun k => ?_, fun k => ?_⟩, fun z => by omega⟩
    · rw [fr_no, if_pos a.symm]; exact (if_pos rfl).symm
    · rw [fi_no, if_pos a.symm]; exact (if_pos rfl).symm
  · have a : ¬ x + i = st_nx S := by omega
    obtain ⟨q1, q2, q3⟩ := h4 i (by omega)
    have k1 : u1 Kf N (c + 1) i = Kf i := if_neg e
    rw [k1]
    refine ⟨by rw [K_no, if_neg a]; exact q1, fun z => ⟨fun k => ?_, fun k => ?_⟩, q3⟩
    · rw [fr_no, if_neg a, (q2 z).1]; exact (if_neg e).symm
    · rw [fi_no, if_neg a, (q2 z).2]; exact (if_neg e).symm
theorem L_na {z n : Nat} {k : st_T → Option (β × st_T)} (hb : HB B x N Kf Lf Ff If Rf Wf S) (hz : 20 ≤ z) (h : ∀ T, HB B x (N + 1) (u1 Kf N z) (u1 Lf N n) Ff If (u1 Rf N (fun _ => 0)) (u1 Wf N (fun _ => 0)) T → ok (k T) Q) : ok (c_l (st_na S z n) k) Q := by
  rw [ok_l]
  obtain ⟨h1, h2, h3, h4⟩ := hb
  refine h _ ⟨by rw [nx_na, h1]; rfl, h2, og_na h3 (by omega), fun i hi => ?_⟩
  by_cases e : i = N
  · subst e
    have a : st_nx S = x + i := h1
    have k1 : u1 Kf i z i = z := if_pos rfl
    have k2 : u1 Lf i n i = n := if_pos rfl
    have k3 : u1 Rf i (fun _ => (0 : Int32)) i = fun _ => 0 := if_pos rfl
    have k4 : u1 Wf i (fun _ => (0 : Int64)) i = fun _ => 0 := if_pos rfl
    rw [k1, k2, k3, k4]
    refine ⟨by rw [K_na, if_pos a.symm], fun q => by omega, fun _ => ⟨by rw [ln_na, if_pos a.symm], fun q => ?_, fun q => ?_⟩⟩
    · rw [ri_na, if_pos a.symm]
    · rw [rl_na, if_pos a.symm]
  · have a : ¬ x + i = st_nx S := by omega
    obtain ⟨q1, q2, q3⟩ := h4 i (by omega)
    have k1 : u1 Kf N z i = Kf i := if_neg e
    have k2 : u1 Lf N n i = Lf i := if_neg e
    have k3 : u1 Rf N (fun _ => (0 : Int32)) i = Rf i := if_neg e
    have k4 : u1 Wf N (fun _ => (0 : Int64)) i = Wf i := if_neg e
    rw [k1, k2, k3, k4]
    refine ⟨by rw [K_na, if_neg a]; exact q1, q2, fun y => ⟨by rw [ln_na, if_neg a]; exact (q3 y).1, fun q => ?_, fun q => ?_⟩⟩
    · rw [ri_na, if_neg a]; exact (q3 y).2.1 q
    · rw [rl_na, if_neg a]; exact (q3 y).2.2 q
theorem L_pr {f j : Nat} {v : Option Nat} {k : st_T → Option (β × st_T)} (hb : HB B x N Kf Lf Ff If Rf Wf S) (h : ∀ T, HB B x N Kf Lf (u2 Ff f j v) If Rf Wf T → ok (k T) Q) : ok (c_l (st_pr S f (x + j) v) k) Q := by
  rw [ok_l]
  obtain ⟨h1, h2, h3, h4⟩ := hb
  refine h _ ⟨h1, h2, og_pr h3 (by omega), fun i hi => ?_⟩
  obtain ⟨q1, q2, q3⟩ := h4 i hi
  refine ⟨q1, fun z => ⟨fun g => ?_, (q2 z).2⟩, q3⟩
  unfold u2
  by_cases e1 : g = f
  · rw [if_pos e1]
    by_cases e2 : i = j
    · rw [if_pos e2, e1, e2, fr_pr_at]
    · rw [if_neg e2, fr_pr_na _ _ _ _ _ _ (by omega)]; exact (q2 z).1 g
  · rw [if_neg e1, fr_pr_nk _ _ _ _ _ _ e1]; exact (q2 z).1 g
theorem L_pi {f j : Nat} {v : Int32} {k : st_T → Option (β × st_T)} (hb : HB B x N Kf Lf Ff If Rf Wf S) (h : ∀ T, HB B x N Kf Lf Ff (u2 If f j v) Rf Wf T → ok (k T) Q) : ok (c_l (st_pi S f (x + j) v) k) Q := by
  rw [ok_l]
  obtain ⟨h1, h2, h3, h4⟩ := hb
  refine h _ ⟨h1, h2, og_pi h3 (by omega), fun i hi => ?_⟩
  obtain ⟨q1, q2, q3⟩ := h4 i hi
  refine ⟨q1, fun z => ⟨(q2 z).1, fun g => ?_⟩, q3⟩
  unfold u2
  by_cases e1 : g = f
  · rw [if_pos e1]
    by_cases e2 : i = j
    · rw [if_pos e2, e1, e2, fi_pi_at]
    · rw [if_neg e2, fi_pi_na _ _ _ _ _ _ (by omega)]; exact (q2 z).2 g
  · rw [if_neg e1, fi_pi_nk _ _ _ _ _ _ e1]; exact (q2 z).2 g
theorem L_wi {j p : Nat} {v : Int32} {k : st_T → Option (β × st_T)} (hb : HB B x N Kf Lf Ff If Rf Wf S) (h : ∀ T, HB B x N Kf Lf Ff If (u2 Rf j p v) Wf T → ok (k T) Q) : ok (c_l (st_wi S (x + j) p v) k) Q := by
  rw [ok_l]
  obtain ⟨h1, h2, h3, h4⟩ := hb
  refine h _ ⟨h1, h2, og_wi h3 (by omega), fun i hi => ?_⟩
  obtain ⟨q1, q2, q3⟩ := h4 i hi
  refine ⟨q1, q2, fun z => ⟨(q3 z).1, fun g => ?_, (q3 z).2.2⟩⟩
  unfold u2
  by_cases e1 : i = j
  · rw [if_pos e1]
    by_cases e2 : g = p
    · rw [if_pos e2, e1, e2, ri_wi_at]
    · rw [if_neg e2, ri_wi_nj _ _ _ _ _ _ e2]; exact (q3 z).2.1 g
  · rw [if_neg e1, ri_wi_ne _ _ _ _ _ (by omega)]; exact (q3 z).2.1 g
theorem og_wl {P : Nat → Prop} {S' : st_T} {a j : Nat} {u : Int64} (h : og S S' P) (ha : ¬ P a) : og S (st_wl S' a j u) P := og_tr h (fun b hb => ⟨rfl, rfl, rfl, rl_wl_ne _ _ _ _ _ (fun z => ha (z ▸ hb)), rfl, fun _ => rfl, fun _ => rfl⟩)
theorem L_wl {j p : Nat} {v : Int64} {k : st_T → Option (β × st_T)} (hb : HB B x N Kf Lf Ff If Rf Wf S) (h : ∀ T, HB B x N Kf Lf Ff If Rf (u2 Wf j p v) T → ok (k T) Q) : ok (c_l (st_wl S (x + j) p v) k) Q := by
  rw [ok_l]
  obtain ⟨h1, h2, h3, h4⟩ := hb
  refine h _ ⟨h1, h2, og_wl h3 (by omega), fun i hi => ?_⟩
  obtain ⟨q1, q2, q3⟩ := h4 i hi
  refine ⟨q1, q2, fun z => ⟨(q3 z).1, (q3 z).2.1, fun g => ?_⟩⟩
  unfold u2
  by_cases e1 : i = j
  · rw [if_pos e1]
    by_cases e2 : g = p
    · rw [if_pos e2, e1, e2, rl_wl_at]
    · rw [if_neg e2, rl_wl_nj _ _ _ _ _ _ e2]; exact (q3 z).2.2 g
  · rw [if_neg e1, rl_wl_ne _ _ _ _ _ (by omega)]; exact (q3 z).2.2 g
theorem L_gk {j c : Nat} {k : Option (β × st_T)} (hb : HB B x N Kf Lf Ff If Rf Wf S) (hj : j < N) (hk : Kf j = c) (h : ok k Q) : ok (c_g (st_K S (x + j) = c) k) Q := ok_gt ((hb.2.2.2 j hj).1.trans hk) h
theorem L_gi {j : Nat} {y : Int32} {k : Option (β × st_T)} (hb : HB B x N Kf Lf Ff If Rf Wf S) (hj : j < N) (hk : 20 ≤ Kf j) (hi : c_in y (Lf j)) (h : ok k Q) : ok (c_g (c_in y (st_ln S (x + j))) k) Q := ok_gt (by rw [((hb.2.2.2 j hj).2.2 hk).1]; exact hi) h
theorem L_n {f j a : Nat} {k : Nat → Option (β × st_T)} (hb : HB B x N Kf Lf Ff If Rf Wf S) (hj : j < N) (hk : Kf j < 20) (hf : Ff f j = some a) (h : ok (k a) Q) : ok (c_n (st_fr S f (x + j)) k) Q := ok_nn (by rw [((hb.2.2.2 j hj).2.1 hk).1]; exact hf) h
theorem L_c {α : Type} {y : Option (α × st_T)} {k : α → st_T → Option (β × st_T)} (h : ok y (fun r S => ok (k r S) Q)) : ok (c_c y k) Q := by rw [ok_c]; exact h
theorem L_s {r : β} (h : Q r S) : ok (some (r, S)) Q := ok_of rfl h
theorem L_ps {f j : Nat} {k : st_T → Option (β × st_T)} (hb : HB B x N Kf Lf Ff If Rf Wf S) (h : ∀ T, HB B x N Kf Lf (u2 Ff f j (some (st_sa B 100))) If Rf Wf T → ok (k T) Q) : ok (c_l (st_pr S f (x + j) (some (st_sa S 100))) k) Q := by
  refine L_pr hb (fun T q => h T ?_)
  rw [hb.2.1] at q
  exact q
/-- the class's cells, newly made -/
def C0 (B : st_T) (x : Nat) (T : st_T) : Prop := CS T x ∧ (∀ w, st_ri T (x + 2) w = nI 0) ∧ (st_fr T 1 (x + 3) = some (st_sa B 100) ∧ st_fi T 2 (x + 3) = nI 0) ∧ (st_fr T 1 (x + 4) = some (st_sa B 100) ∧ st_fi T 2 (x + 4) = nI 0) ∧ st_fi T 501 (x + 10) = nI 0 ∧ (∀ s, s < 5 → st_ri T (x + 23) s = nI 1) ∧ st_fi T 908 x = m1 ∧ st_fi T 909 x = nI 0 ∧ st_fi T 604 (x + 5) = nI 0 ∧ st_nx T = x + 24 ∧ st_sa T = st_sa B ∧ og B T (fun b => b < x)
set_option maxRecDepth 20000 in
theorem c_init1 (hb : HB B x 1 (u1 (fun _ => 0) 0 10) (fun _ => 0) (uN (fun _ _ => none) 0 none) (uN (fun _ _ => 0) 0 0) (fun _ _ => 0) (fun _ _ => 0) T) : ok (f_X8_init T (x + 0)) (fun _ T => C0 B x T) := by
  unfold f_X8_init f_X7_init f_Jx4a65c_init_da8c8 f_Jxc12de_init_da8c8 f_Jxa1e45_init_da8c8 f_X5_init f_X4_init f_X3_init f_X6_init f_X0_init
  repeat
    first
      | refine L_nx hb ?_
      | refine L_no hb (by decide) (fun T hb => ?_)
      | refine L_na hb (by decide) (fun T hb => ?_)
      | refine L_ps hb (fun T hb => ?_)
      | refine L_pr hb (fun T hb => ?_)
      | refine L_pi hb (fun T hb => ?_)
      | refine L_wi hb (fun T hb => ?_)
      | refine L_wl hb (fun T hb => ?_)
      | refine L_gk hb (by decide) (by decide) ?_
      | refine L_gi hb (by decide) (by decide) (by decide) ?_
      | refine L_n hb (by decide) (by decide) rfl ?_
      | refine L_c ?_
      | refine L_s ?_
      | refine ok_gt (by decide) ?_
  refine ⟨⟨(hb.2.2.2 0 (by decide)).1, (hb.2.2.2 1 (by decide)).1, (hb.2.2.2 2 (by decide)).1, (hb.2.2.2 3 (by decide)).1, (hb.2.2.2 4 (by decide)).1, (hb.2.2.2 5 (by decide)).1, (hb.2.2.2 6 (by decide)).1, (hb.2.2.2 7 (by decide)).1, (hb.2.2.2 8 (by decide)).1, (hb.2.2.2 9 (by decide)).1, (hb.2.2.2 10 (by decide)).1, (hb.2.2.2 11 (by decide)).1, (hb.2.2.2 12 (by decide)).1, (hb.2.2.2 13 (by decide)).1, (hb.2.2.2 14 (by decide)).1, (hb.2.2.2 15 (by decide)).1, (hb.2.2.2 16 (by decide)).1, (hb.2.2.2 17 (by decide)).1, (hb.2.2.2 18 (by decide)).1, (hb.2.2.2 19 (by decide)).1, (hb.2.2.2 20 (by decide)).1, (hb.2.2.2 21 (by decide)).1, (hb.2.2.2 22 (by decide)).1, (hb.2.2.2 23 (by decide)).1, ((hb.2.2.2 0 (by decide)).2.1 (by decide)).1 900, ((hb.2.2.2 1 (by decide)).2.1 (by decide)).1 800, ((hb.2.2.2 0 (by decide)).2.1 (by decide)).1 901, ((hb.2.2.2 0 (by decide)).2.1 (by decide)).1 902, ((hb.2.2.2 0 (by decide)).2.1 (by decide)).1 903, ((hb.2.2.2 5 (by decide)).2.1 (by decide)).1 600, ((hb.2.2.2 5 (by decide)).2.1 (by decide)).1 601, ((hb.2.2.2 5 (by decide)).2.1 (by decide)).1 602, ((hb.2.2.2 5 (by decide)).2.1 (by decide)).1 603, ((hb.2.2.2 0 (by decide)).2.1 (by decide)).1 904, ((hb.2.2.2 10 (by decide)).2.1 (by decide)).1 500, ((hb.2.2.2 0 (by decide)).2.1 (by decide)).1 905, ((hb.2.2.2 12 (by decide)).2.1 (by decide)).1 400, ((hb.2.2.2 13 (by decide)).2.1 (by decide)).1 700, ((hb.2.2.2 13 (by decide)).2.1 (by decide)).1 701, ((hb.2.2.2 13 (by decide)).2.1 (by decide)).1 702, ((hb.2.2.2 12 (by decide)).2.1 (by decide)).1 401, ((hb.2.2.2 12 (by decide)).2.1 (by decide)).1 402, ((hb.2.2.2 12 (by decide)).2.1 (by decide)).1 403, ((hb.2.2.2 12 (by decide)).2.1 (by decide)).1 404, ((hb.2.2.2 0 (by decide)).2.1 (by decide)).1 906, ((hb.2.2.2 21 (by decide)).2.1 (by decide)).1 100, ((hb.2.2.2 21 (by decide)).2.1 (by decide)).1 101, ((hb.2.2.2 0 (by decide)).2.1 (by decide)).1 907, ((hb.2.2.2 2 (by decide)).2.2 (by decide)).1, ((hb.2.2.2 6 (by decide)).2.2 (by decide)).1, ((hb.2.2.2 7 (by decide)).2.2 (by decide)).1, ((hb.2.2.2 8 (by decide)).2.2 (by decide)).1, ((hb.2.2.2 9 (by decide)).2.2 (by decide)).1, ((hb.2.2.2 11 (by decide)).2.2 (by decide)).1, ((hb.2.2.2 14 (by decide)).2.2 (by decide)).1, ((hb.2.2.2 15 (by decide)).2.2 (by decide)).1, ((hb.2.2.2 16 (by decide)).2.2 (by decide)).1, ((hb.2.2.2 17 (by decide)).2.2 (by decide)).1, ((hb.2.2.2 18 (by decide)).2.2 (by decide)).1, ((hb.2.2.2 19 (by decide)).2.2 (by decide)).1, ((hb.2.2.2 20 (by decide)).2.2 (by decide)).1, ((hb.2.2.2 22 (by decide)).2.2 (by decide)).1, ((hb.2.2.2 23 (by decide)).2.2 (by decide)).1⟩, ?_, ⟨?_, ?_⟩, ⟨?_, ?_⟩, ?_, ?_, ?_, ?_, ?_, hb.1, hb.2.1, hb.2.2.1⟩
  · intro w
    exact ((hb.2.2.2 2 (by decide)).2.2 (by decide)).2.1 w
  · exact ((hb.2.2.2 3 (by decide)).2.1 (by decide)).1 1
  · exact ((hb.2.2.2 3 (by decide)).2.1 (by decide)).2 2
  · exact ((hb.2.2.2 4 (by decide)).2.1 (by decide)).1 1
  · exact ((hb.2.2.2 4 (by decide)).2.1 (by decide)).2 2
  · exact ((hb.2.2.2 10 (by decide)).2.1 (by decide)).2 501
  · intro s hs
    rw [((hb.2.2.2 23 (by decide)).2.2 (by decide)).2.1 s]
    have key : s = 0 ∨ s = 1 ∨ s = 2 ∨ s = 3 ∨ s = 4 := by omega
    rcases key with z | z | z | z | z <;> subst z <;> rfl
  · exact ((hb.2.2.2 0 (by decide)).2.1 (by decide)).2 908
  · exact ((hb.2.2.2 0 (by decide)).2.1 (by decide)).2 909
  · exact ((hb.2.2.2 5 (by decide)).2.1 (by decide)).2 604
theorem HB_1 {c : Nat} (hx : st_nx B = x) (hc : c + 1 < 20) : HB B x 1 (u1 (fun _ => 0) 0 (c + 1)) (fun _ => 0) (uN (fun _ _ => none) 0 none) (uN (fun _ _ => 0) 0 0) (fun _ _ => 0) (fun _ _ => 0) (st_no B c) := by
  have hb0 : HB B x 0 (fun _ => 0) (fun _ => 0) (fun _ _ => none) (fun _ _ => 0) (fun _ _ => 0) (fun _ _ => 0) B := ⟨by rw [hx]; rfl, rfl, og_rf, fun i hi => absurd hi (Nat.not_lt_zero _)⟩
  obtain ⟨q, S, e, h⟩ := (L_no (c := c) (k := fun T => some ((), T)) (Q := fun (_ : Unit) T => HB B x 1 (u1 (fun _ => 0) 0 (c + 1)) (fun _ => 0) (uN (fun _ _ => none) 0 none) (uN (fun _ _ => 0) 0 0) (fun _ _ => 0) (fun _ _ => 0) T) hb0 hc (fun T h => ok_of rfl h))
  cases e
  exact h
end CO0
