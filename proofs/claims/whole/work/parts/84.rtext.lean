/-! text: the reference's parser, rules -/
section RV
variable {β : Type} {S S' S0 T : st_T} {m x v n : Nat} {M : mT} {A : aT} {L : List (Nat × Nat × Nat)} {w p e u c : Nat} {cs rr rs st : List (Nat × Nat)} {nr mn : Nat}
def rk2 (m : Nat) (z1 : Int32) (T78 : st_T) : Option (Unit × st_T) := (c_g (st_K T78 m = 11) (c_n (st_fr T78 1015 m) (fun (q82 : Nat) => (c_g (st_K T78 q82 = 20) (c_g (c_in z1 (st_ln T78 q82)) (c_l (st_wi T78 q82 (z1 : Int32).toNatClampNeg (st_fi T78 1018 m)) (fun (S_90 : st_T) => (c_l (st_pi S_90 1019 m 0) (fun (S_93 : st_T) => (c_c (f_X9_opens S_93 m) (fun (r97 : Unit) (T97 : st_T) => (c_w (b_X9_rule_102 m) c_N (T97, 1)))))))))))))
def rk1 (m : Nat) (z1 : Int32) (q64 : Nat) (r72 : Int32) (T72 : st_T) : Option (Unit × st_T) := (c_g (st_K T72 q64 = 20) (c_g (c_in z1 (st_ln T72 q64)) (c_l (st_wi T72 q64 (z1 : Int32).toNatClampNeg r72) (fun (S_75 : st_T) => (c_g (st_K S_75 m = 11) (c_c (f_X9_takeWord S_75 m 2) (fun (r78 : Unit) (T78 : st_T) => rk2 m z1 T78)))))))
theorem ok_one {α : Type} {body : (α → Option (β × st_T)) → α → Option (β × st_T)} {a : α} {Q : β → st_T → Prop} (h : ∀ rec, ok (body rec a) Q) : ok (c_w body c_N a) Q :=
  ok_cnt 0 (fun _ q => q = a) (fun i _ _ hi => absurd hi (Nat.not_lt_zero _)) (fun q rec hq => by rw [hq]; exact h rec) c_N 0 a (Nat.le_refl _) rfl (N_big (by omega))
theorem QG_8 {k : Nat} {y : Int32} (h : QG S m T p cs rr nr mn) (hk : rr.length ≤ k) : QG S m (st_wi T (m + 8) (192 + k) y) p cs rr nr mn := by
  obtain ⟨h1, h2, h3, h4, h5, h6, h7, h8⟩ := h
  refine ⟨QF_wi h1 (by omega), h2, h3, h4, fun j hj => ?_, ?_, ?_, fun i hi => ?_⟩
  · rw [ri_wi_ne _ _ _ _ _ (by omega), ri_wi_ne _ _ _ _ _ (by omega)]; exact h5 j hj
  · rw [ri_wi_ne _ _ _ _ _ (by omega)]; exact h6
  · rw [ri_wi_ne _ _ _ _ _ (by omega)]; exact h7
  · rw [ri_wi_nj _ _ _ _ _ _ (by omega), ri_wi_ne _ _ _ _ _ (by omega)]; exact h8 i hi
theorem QG_9 {u : Nat} (h : QG S m T p cs rr nr mn) (h0 : st_ri T (m + 8) (192 + rr.length) = nI c) : QG S m (st_wi T (m + 9) (192 + rr.length) (nI u)) p cs (rr ++ [(c, u)]) nr mn := by
  obtain ⟨h1, h2, h3, h4, h5, h6, h7, h8⟩ := h
  refine ⟨QF_wi h1 (by omega), h2, h3, h4, fun j hj => ?_, ?_, ?_, fun i hi => ?_⟩
  · rw [ri_wi_ne _ _ _ _ _ (by omega), ri_wi_ne _ _ _ _ _ (by omega)]; exact h5 j hj
  · rw [ri_wi_ne _ _ _ _ _ (by omega)]; exact h6
  · rw [ri_wi_ne _ _ _ _ _ (by omega)]; exact h7
  · rw [List.length_append] at hi
    have hi' : i < rr.length + 1 := hi
    by_cases q : i = rr.length
    · rw [q, getD_app_at, ri_wi_ne _ _ _ _ _ (by omega), ri_wi_at]
      exact ⟨h0, rfl⟩
    · rw [getD_app (by omega), ri_wi_ne _ _ _ _ _ (by omega), ri_wi_nj _ _ _ _ _ _ (by omega)]
      exact h8 i (by omega)
theorem rk2_g {ρ : Nat} (hH : QH S m L n) (h : QG S m T p cs rr nr mn) (h0 : st_ri T (m + 8) (192 + rr.length) = nI c) (hr : rr.length < 24) (hp : p ≤ n) (hb : cs.length ≤ p + ρ) (hρ : ρ ≤ 28) : ok (rk2 m (nI (192 + rr.length)) T) (fun _ T' => UX S m cs (rr ++ [(c, cs.length)]) nr mn n ρ T' (rb (xE L 8 0 p) (fun p1 o => if tK L p1 = 5 then .inr (p1 + 1, o) else fl L 1 p1))) := by
  have hs := QF_s hH h.1
  have hn := hH.2.2.2.2.1
  unfold rk2
  refine ok_gt hs.1 ?_
  rw [rn_1015 hs]
  refine ok_gt (show st_K T (m + 9) = 20 by simp only [hs]) ?_
  refine ok_gt (show c_in (nI (192 + rr.length)) (st_ln T (m + 9)) by
    rw [show st_ln T (m + 9) = 216 by simp only [hs]]
    exact of_eq_true (in_t (by omega) (by omega))) ?_
  rw [ok_l, ok_l, h.2.2.2.1, nI_clamp (by omega)]
  have h1 := QG_d (y := nI 0) (QG_9 (u := cs.length) h h0)
  have hs1 := QF_s hH h1.1
  have eo := r_opens (d := 0) hs1 (fi_pi_at _ _ _ _) (by omega)
  have eo' : f_X9_opens (st_pi (st_wi T (m + 9) (192 + rr.length) (nI cs.length)) 1019 m 0) m = _ := eo
  rw [c_s eo']
  refine r_ruleL hH (QG_w (i := 14) (QG_w (i := 13) (QG_w (i := 12) h1 (by omega)) (by omega)) (by omega)) ?_ hp hb hρ
  refine ⟨(show st_fi (st_pi (st_wi T (m + 9) (192 + rr.length) (nI cs.length)) 1019 m (nI 0)) 1019 m = nI 0 from fi_pi_at _ _ _ _), fun i hi => ?_⟩
  have hi' : i < 1 := hi
  have e0 : i = 0 := by omega
  subst e0
  simp (disch := omega) only [ri_wi_ne, ri_wi_at]
  refine ⟨?_, ?_, ?_⟩ <;> first | trivial | rfl
theorem rk2_b {ρ : Nat} {rr2 : List (Nat × Nat)} (hH : QH S m L n) (h : QB S m T e u) (hu : u ≤ n + ρ + 2) (hρ : ρ ≤ 28) (hr : rr.length < 24) : ok (rk2 m (nI (192 + rr.length)) T) (fun _ T' => UX S m cs rr2 nr mn n ρ T' (.inl e)) := by
  have hs := QF_s hH h.1
  have hn := hH.2.2.2.2.1
  unfold rk2
  refine ok_gt hs.1 ?_
  rw [rn_1015 hs]
  refine ok_gt (show st_K T (m + 9) = 20 by simp only [hs]) ?_
  refine ok_gt (show c_in (nI (192 + rr.length)) (st_ln T (m + 9)) by
    rw [show st_ln T (m + 9) = 216 by simp only [hs]]
    exact of_eq_true (in_t (by omega) (by omega))) ?_
  rw [ok_l, ok_l, nI_clamp (by omega)]
  have h1 := QB_d (y := nI 0) (QB_w (i := 9) (j := 192 + rr.length) (y := st_fi T 1018 m) h (by omega))
  have hs1 := QF_s hH h1.1
  have eo := r_opens (d := 0) hs1 (fi_pi_at _ _ _ _) (by omega)
  have eo' : f_X9_opens (st_pi (st_wi T (m + 9) (192 + rr.length) (st_fi T 1018 m)) 1019 m 0) m = _ := eo
  rw [c_s eo']
  refine ok_one (fun rec => ?_)
  exact r_ruleB hH (QB_w (i := 14) (QB_w (i := 13) (QB_w (i := 12) h1 (by omega)) (by omega)) (by omega)) hu (by omega) (Or.inr rfl) rec
theorem rk1_b {ρ : Nat} {y : Int32} {rr2 : List (Nat × Nat)} (hH : QH S m L n) (h : QB S m T e u) (hu : u ≤ n + ρ + 2) (hρ : ρ ≤ 28) (hr : rr.length < 24) : ok (rk1 m (nI (192 + rr.length)) (m + 8) y T) (fun _ T' => UX S m cs rr2 nr mn n ρ T' (.inl e)) := by
  have hs := QF_s hH h.1
  unfold rk1
  refine ok_gt (show st_K T (m + 8) = 20 by simp only [hs]) ?_
  refine ok_gt (show c_in (nI (192 + rr.length)) (st_ln T (m + 8)) by
    rw [show st_ln T (m + 8) = 216 by simp only [hs]]
    exact of_eq_true (in_t (by omega) (by omega))) ?_
  rw [ok_l, nI_clamp (by omega)]
  have h1 := QB_w (i := 8) (j := 192 + rr.length) (y := y) h (by omega)
  have hs1 := QF_s hH h1.1
  refine ok_gt hs1.1 ?_
  rw [c_s (r_takeWb hs1 h1.2.1 h1.2.2.1 h1.2.2.2.1)]
  exact rk2_b hH (QB_at h1) hu hρ hr
theorem rk1_g {ρ : Nat} (hH : QH S m L n) (h : QG S m T p cs rr nr mn) (hr : rr.length < 24) (hp : p ≤ n) (hb : cs.length ≤ p + ρ) (hρ : ρ ≤ 28) : ok (rk1 m (nI (192 + rr.length)) (m + 8) (nI c) T) (fun _ T' => UX S m cs (rr ++ [(c, cs.length)]) nr mn n ρ T' (if tK L p = 12 then rb (xE L 8 0 (p + 1)) (fun p1 o => if tK L p1 = 5 then .inr (p1 + 1, o) else fl L 1 p1) else fl L 1 p)) := by
  have hs := QF_s hH h.1
  have hL := hH.2.2.2
  have kb := hL.2.2.2.2 p hp
  have hn := hL.2.1
  unfold rk1
  refine ok_gt (show st_K T (m + 8) = 20 by simp only [hs]) ?_
  refine ok_gt (show c_in (nI (192 + rr.length)) (st_ln T (m + 8)) by
    rw [show st_ln T (m + 8) = 216 by simp only [hs]]
    exact of_eq_true (in_t (by omega) (by omega))) ?_
  rw [ok_l, nI_clamp (by omega)]
  have h1 := QG_8 (k := rr.length) (y := nI c) h (Nat.le_refl _)
  have hs1 := QF_s hH h1.1
  have v0 : st_ri (st_wi T (m + 8) (192 + rr.length) (nI c)) (m + 8) (192 + rr.length) = nI c := ri_wi_at _ _ _ _
  generalize st_wi T (m + 8) (192 + rr.length) (nI c) = T1 at *
  refine ok_gt hs1.1 ?_
  have et := r_takeW (c := 2) hH h1.1 h1.2.1 h1.2.2.1 hp (by omega)
  have k2 : kw 2 = 12 := rfl
  rw [k2] at et
  by_cases c1 : tK L p = 12
  · rw [if_pos c1] at et
    simp only [if_pos c1]
    have et' : f_X9_takeWord T1 m 2 = some ((), st_pi T1 1007 m (nI (p + 1))) := et
    rw [c_s et']
    have lt := LG_lt hL hp (by omega)
    exact rk2_g hH (QG_at h1) v0 hr (by omega) (by omega) hρ
  · rw [if_neg c1] at et
    simp only [if_neg c1]
    have et' : f_X9_takeWord T1 m 2 = _ := et
    rw [c_s et']
    exact rk2_b hH (QB_of (QG_at (p' := p + 0) h1) (by omega) (by omega)) (by omega) hρ hr
/-- what a rule comes to -/
def UY (S : st_T) (m : Nat) (L : List (Nat × Nat × Nat)) (n p : Nat) (cs rr : List (Nat × Nat)) (T : st_T) : Prop := if tK L p ≠ 11 then ∃ u, QB S m T (1 + 16 * tP L p) u else if rr.length = 24 then ∃ u, QB S m T (5 + 16 * tP L p) u else UX S m cs (rr ++ [(tV L (p + 1), cs.length)]) rr.length 0 n rr.length T (xRule L p)
theorem r_rule (hH : QH S m L n) (h : QG S m T p cs rr rr.length 0) (hr : rr.length ≤ 24) (hp : p ≤ n) (hb : cs.length ≤ p + rr.length) : ok (f_X9_rule T m) (fun _ T' => UY S m L n p cs rr T') := by
  have hs := QF_s hH h.1
  have hL := hH.2.2.2
  have kb := hL.2.2.2.2 p hp
  have hn := hL.2.1
  have bad33 : ∀ e u T1, QB S m T1 e u → j_X9_rule_33 m T1 = some ((), T1) := by
    intro e u T1 q
    have hs1 := QF_s hH q.1
    have ne : ¬ st_fi T1 1008 m ≤ (0 : Int32) := by
      rw [q.2.1]
      exact of_eq_false (le_f (a := e) (b := 0) (by have := q.2.2.1; omega) (by have := q.2.2.2.1; omega))
    unfold j_X9_rule_33
    rw [g_t hs1.1, i_f ne]
  unfold f_X9_rule UY
  refine ok_gt hs.1 ?_
  have ei : f_X9_isWord T m 0 = some (nI (if tK L p = 11 then 1 else 0), T) := r_isW (c := 0) hH h.1 h.2.1 h.2.2.1 hp (by omega)
  rw [c_s ei]
  by_cases c1 : tK L p = 11
  rotate_left
  · rw [if_neg c1]
    simp only [if_pos c1]
    refine ok_it (show nI 0 = (0 : Int32) from rfl) ?_
    refine ok_gt hs.1 ?_
    have ew : f_X9_wrong T m 1 = some ((), st_pi T 1008 m (nI (1 + 16 * tP L p))) := r_wrong (how := 1) hH h.1 h.2.1 h.2.2.1 hp (by omega)
    have hb1 := QB_of h (e := 1 + 16 * tP L p) (by omega) (by omega)
    rw [c_s ew, bad33 _ _ _ hb1]
    exact ok_of rfl ⟨_, hb1⟩
  · rw [if_pos c1]
    simp only [if_neg (show ¬ (tK L p ≠ 11) from fun z => z c1)]
    refine ok_if (show ¬ nI 1 = (0 : Int32) by decide) ?_
    refine ok_gt hs.1 ?_
    rw [rn_1012 hs]
    refine ok_gt (show st_K T (m + 6) = 20 by simp only [hs]) ?_
    have hin : ∀ U : st_T, RS U m → c_in 8 (st_ln U (m + 6)) := fun U hU => by
      rw [show st_ln U (m + 6) = 9 by simp only [hU]]
      exact of_eq_true (in_t (p := 8) (n := 9) (by omega) (by omega))
    refine ok_gt (hin T hs) ?_
    have r6 : st_ri T (m + 6) (8 : Int32).toNatClampNeg = nI rr.length := h.2.2.2.2.2.1
    rw [r6]
    by_cases c2 : rr.length = 24
    · simp only [if_pos c2]
      refine ok_it (by rw [c2]; rfl) ?_
      have ew : f_X9_wrong T m 5 = some ((), st_pi T 1008 m (nI (5 + 16 * tP L p))) := r_wrong (how := 5) hH h.1 h.2.1 h.2.2.1 hp (by omega)
      have hb1 := QB_of h (e := 5 + 16 * tP L p) (by omega) (by omega)
      rw [c_s ew, bad33 _ _ _ hb1]
      exact ok_of rfl ⟨_, hb1⟩
    · simp only [if_neg c2]
      refine ok_if (neF (a := rr.length) (b := 24) c2 (by omega) (by omega)) ?_
      have lt := LG_lt hL hp (by omega)
      unfold j_X9_rule_33
      refine ok_gt hs.1 ?_
      refine ok_it (by rw [h.2.2.1]; decide) ?_
      rw [ok_l]
      have e7 : st_fi T 1007 m + 1 = nI (p + 1) := by
        rw [h.2.1]
        exact nI_add p 1
      rw [e7]
      have h1 := QG_at (p' := p + 1) h
      have hs1 := QF_s hH h1.1
      generalize st_pi T 1007 m (nI (p + 1)) = T1 at *
      rw [rn_1012 hs1]
      refine ok_gt (show st_K T1 (m + 6) = 20 by simp only [hs1]) ?_
      refine ok_gt (hin T1 hs1) ?_
      have r61 : (192 : Int32) + st_ri T1 (m + 6) (8 : Int32).toNatClampNeg = nI (192 + rr.length) := by
        have : st_ri T1 (m + 6) (8 : Int32).toNatClampNeg = nI rr.length := h1.2.2.2.2.2.1
        rw [this]
        exact nI_add 192 _
      rw [ok_l, r61, rn_1014 hs1]
      have l1 : p + 1 ≤ n := by omega
      have kb1 := hL.2.2.2.2 (p + 1) l1
      have en := r_num (lo := 0) (hi := 49) hH h1.1 h1.2.1 h1.2.2.1 l1 (by omega) (by omega)
      unfold xRule
      have fin : ∀ r72 T72, f_X9_takeNumber T1 m (nI 0) (nI 49) = some (r72, T72) → ∀ r, ok (rk1 m (nI (192 + rr.length)) (m + 8) r72 T72) (fun _ T' => UX S m cs (rr ++ [(tV L (p + 1), cs.length)]) rr.length 0 n rr.length T' r) → ok (c_c (f_X9_takeNumber T1 m 0 49) (fun (r72 : Int32) (T72 : st_T) => rk1 m (nI (192 + rr.length)) (m + 8) r72 T72)) (fun _ T' => UX S m cs (rr ++ [(tV L (p + 1), cs.length)]) rr.length 0 n rr.length T' r) := by
        intro r72 T72 q r q2
        have q' : f_X9_takeNumber T1 m 0 49 = some (r72, T72) := q
        rw [c_s q']
        exact q2
      by_cases c3 : tK L (p + 1) = 2
      · rw [if_pos c3] at en
        simp only [if_pos c3]
        have lt1 := LG_lt hL l1 (by omega)
        by_cases c4 : tV L (p + 1) ≤ 49
        · rw [if_pos ⟨by omega, c4⟩] at en
          simp only [if_pos c4]
          exact fin _ _ en _ (rk1_g hH (QG_at (p' := p + 1 + 1) h1) (by omega) (by omega) (by omega) (by omega))
        · rw [if_neg (fun z => c4 z.2)] at en
          simp only [if_neg c4]
          exact fin _ _ en _ (rk1_b hH (QB_at (QB_of h1 (by omega) (by omega))) (by omega) (by omega) (by omega))
      · rw [if_neg c3] at en
        simp only [if_neg c3]
        exact fin _ _ en _ (rk1_b hH (QB_at (QB_of h1 (by omega) (by omega))) (by omega) (by omega) (by omega))
end RV
