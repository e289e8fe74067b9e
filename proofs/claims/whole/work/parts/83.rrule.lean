/-! text: the reference's parser, a rule -/
section RU
variable {β : Type} {S S' S0 T : st_T} {m x v n : Nat} {M : mT} {A : aT} {L : List (Nat × Nat × Nat)} {w p e u : Nat} {cs rr : List (Nat × Nat)} {nr mn : Nat} {fr rest : List (Nat × Nat × Nat)}
theorem r_gobB (hH : QH S m L n) (h : QB S m T e u) : f_X9_goesOnBehind T m = some (nI 0, T) := by
  have hs := QF_s hH h.1
  have ne : ¬ st_fi T 1008 m = (0 : Int32) := by rw [h.2.1]; exact neF (a := e) (b := 0) (by have := h.2.2.1; omega) (by have := h.2.2.2.1; omega) (by omega)
  unfold f_X9_goesOnBehind
  refine w_cnt0 0 (fun _ => T) (fun i hi => absurd hi (Nat.not_lt_zero _)) (fun rec => ?_) c_N 0 (by omega) (N_big (by omega))
  unfold b_X9_goesOnBehind_0
  dsimp only
  rw [g_t hs.1, i_f ne]
  rfl
/-- the end of a rule -/
def UX (S : st_T) (m : Nat) (cs rr : List (Nat × Nat)) (nr mn n ρ : Nat) (T : st_T) (r : rT) : Prop := match r with
  | .inl e => ∃ u, QB S m T e u ∧ u ≤ n + ρ + 3
  | .inr (p, o) => QG S m T p (cs ++ o.map rc ++ [(0, 0)]) rr (nr + 1) mn
theorem QG_6 {k : Nat} (h : QG S m T p cs rr nr mn) : QG S m (st_wi T (m + 6) 8 (nI k)) p cs rr k mn := by
  obtain ⟨h1, h2, h3, h4, h5, h6, h7, h8⟩ := h
  refine ⟨QF_wi h1 (by omega), h2, h3, h4, fun j hj => ?_, ri_wi_at _ _ _ _, ?_, fun i hi => ?_⟩
  · rw [ri_wi_ne _ _ _ _ _ (by omega), ri_wi_ne _ _ _ _ _ (by omega)]; exact h5 j hj
  · rw [ri_wi_ne _ _ _ _ _ (by omega)]; exact h7
  · rw [ri_wi_ne _ _ _ _ _ (by omega), ri_wi_ne _ _ _ _ _ (by omega)]; exact h8 i hi
theorem r_136 {o : List (Nat × Nat)} {ρ : Nat} (hH : QH S m L n) (h : QG S m T p (cs ++ o.map rc) rr nr mn) (hp : p ≤ n) (hb : cs.length + o.length ≤ p + ρ) (hρ : ρ ≤ 30) : ok (j_X9_rule_136 m T) (fun _ T' => UX S m cs rr nr mn n ρ T' (if tK L p = 5 then .inr (p + 1, o) else fl L 1 p)) := by
  have hs := QF_s hH h.1
  have hL := hH.2.2.2
  have hn := hL.2.1
  have kb := hL.2.2.2.2 p hp
  have cl : (cs ++ o.map rc).length = cs.length + o.length := by rw [List.length_append, List.length_map]
  have ee := r_emit (a := 0) (b := 0) hs h.2.2.2.1 (by omega)
  have h1 := QG_em (a := 0) (b := 0) h
  have hs1 := QF_s hH h1.1
  have ee' : f_X9_emit T m 0 0 = some ((), st_pi (st_wi (st_wi T (m + 10) (7040 + (cs ++ o.map rc).length) (nI 0)) (m + 11) (7040 + (cs ++ o.map rc).length) (nI 0)) 1018 m (nI ((cs ++ o.map rc).length + 1))) := ee
  unfold j_X9_rule_136
  refine ok_gt hs.1 ?_
  rw [c_s ee']
  generalize st_pi (st_wi (st_wi T (m + 10) (7040 + (cs ++ o.map rc).length) (nI 0)) (m + 11) (7040 + (cs ++ o.map rc).length) (nI 0)) 1018 m (nI ((cs ++ o.map rc).length + 1)) = T1 at *
  refine ok_gt hs1.1 ?_
  have et := r_takeS (c := 59) hH h1.1 h1.2.1 h1.2.2.1 hp (by decide)
  have k59 : ks 59 = 5 := rfl
  rw [k59] at et
  by_cases c : tK L p = 5
  · rw [if_pos c] at et
    simp only [if_pos c]
    have et' : f_X9_takeSign T1 m 59 = some ((), st_pi T1 1007 m (nI (p + 1))) := et
    rw [c_s et']
    have h2 := QG_at (p' := p + 1) h1
    have hs2 := QF_s hH h2.1
    generalize st_pi T1 1007 m (nI (p + 1)) = T2 at *
    refine ok_gt hs2.1 ?_
    rw [rn_1012 hs2]
    refine ok_gt (show st_K T2 (m + 6) = 20 by simp only [hs2]) ?_
    have hin : c_in 8 (st_ln T2 (m + 6)) := by
      rw [show st_ln T2 (m + 6) = 9 by simp only [hs2]]
      exact of_eq_true (in_t (p := 8) (n := 9) (by omega) (by omega))
    refine ok_gt hin ?_
    refine ok_gt hin ?_
    rw [ok_l]
    have e8 : st_ri T2 (m + 6) (8 : Int32).toNatClampNeg + 1 = nI (nr + 1) := by
      show st_ri T2 (m + 6) 8 + 1 = _
      rw [h2.2.2.2.2.2.1]
      exact nI_add nr 1
    rw [e8]
    exact ok_of rfl (QG_6 h2)
  · rw [if_neg c] at et
    simp only [if_neg c]
    have et' : f_X9_takeSign T1 m 59 = some ((), st_pi T1 1008 m (nI (1 + 16 * tP L p))) := et
    rw [c_s et']
    have h2 := QB_of h1 (e := 1 + 16 * tP L p) (by omega) (by omega)
    have hs2 := QF_s hH h2.1
    generalize st_pi T1 1008 m (nI (1 + 16 * tP L p)) = T2 at *
    refine ok_gt hs2.1 ?_
    rw [rn_1012 hs2]
    refine ok_gt (show st_K T2 (m + 6) = 20 by simp only [hs2]) ?_
    have hin : c_in 8 (st_ln T2 (m + 6)) := by
      rw [show st_ln T2 (m + 6) = 9 by simp only [hs2]]
      exact of_eq_true (in_t (p := 8) (n := 9) (by omega) (by omega))
    refine ok_gt hin ?_
    refine ok_gt hin ?_
    rw [ok_l]
    refine ok_of rfl ⟨_, QB_w (i := 6) (j := 8) h2 (by omega), ?_⟩
    rw [List.length_append, cl]
    simp only [List.length_cons, List.length_nil]
    omega
theorem r_136B {ρ : Nat} (hH : QH S m L n) (h : QB S m T e u) (hu : u ≤ n + ρ + 2) (hρ : ρ ≤ 30) : ok (j_X9_rule_136 m T) (fun _ T' => UX S m cs rr nr mn n ρ T' (.inl e)) := by
  have hs := QF_s hH h.1
  have hn := hH.2.2.2.2.1
  have ee := r_emit (a := 0) (b := 0) hs h.2.2.2.2 (by omega)
  have h1 := QB_em (y := nI 0) (z := nI 0) h
  have hs1 := QF_s hH h1.1
  have ee' : f_X9_emit T m 0 0 = some ((), st_pi (st_wi (st_wi T (m + 10) (7040 + u) (nI 0)) (m + 11) (7040 + u) (nI 0)) 1018 m (nI (u + 1))) := ee
  unfold j_X9_rule_136
  refine ok_gt hs.1 ?_
  rw [c_s ee']
  generalize st_pi (st_wi (st_wi T (m + 10) (7040 + u) (nI 0)) (m + 11) (7040 + u) (nI 0)) 1018 m (nI (u + 1)) = T2 at *
  refine ok_gt hs1.1 ?_
  rw [c_s (r_takeSb hs1 h1.2.1 h1.2.2.1 h1.2.2.2.1)]
  refine ok_gt hs1.1 ?_
  rw [rn_1012 hs1]
  refine ok_gt (show st_K T2 (m + 6) = 20 by simp only [hs1]) ?_
  have hin : c_in 8 (st_ln T2 (m + 6)) := by
    rw [show st_ln T2 (m + 6) = 9 by simp only [hs1]]
    exact of_eq_true (in_t (p := 8) (n := 9) (by omega) (by omega))
  refine ok_gt hin ?_
  refine ok_gt hin ?_
  rw [ok_l]
  exact ok_of rfl ⟨_, QB_w (i := 6) (j := 8) h1 (by omega), by omega⟩
theorem r_ruleB {ρ : Nat} {y : Int32} (hH : QH S m L n) (h : QB S m T e u) (hu : u ≤ n + ρ + 2) (hρ : ρ ≤ 30) (hy : y = nI 0 ∨ y = nI 1) (rec : st_T × Int32 → Option (Unit × st_T)) : ok (b_X9_rule_102 m rec (T, y)) (fun _ T' => UX S m cs rr nr mn n ρ T' (.inl e)) := by
  have hs := QF_s hH h.1
  have ne : ¬ st_fi T 1008 m = (0 : Int32) := by rw [h.2.1]; exact neF (a := e) (b := 0) (by have := h.2.2.1; omega) (by have := h.2.2.2.1; omega) (by omega)
  have fin := r_136B (cs := cs) (rr := rr) (nr := nr) (mn := mn) hH h hu hρ
  unfold b_X9_rule_102
  rcases hy with hy | hy
  · refine ok_it (by rw [hy]; rfl) ?_
    exact fin
  · refine ok_if (by rw [hy]; exact (show ¬ nI 1 = (0 : Int32) by decide)) ?_
    refine ok_gt hs.1 ?_
    refine ok_if ne ?_
    exact fin
theorem r_ruleL {ρ : Nat} (hH : QH S m L n) (h : QG S m T p cs rr nr mn) (hw : QW T m [(0, 0, 0)]) (hp : p ≤ n) (hb : cs.length ≤ p + ρ) (hρ : ρ ≤ 28) : ok (c_w (b_X9_rule_102 m) c_N (T, nI 1)) (fun _ T' => UX S m cs rr nr mn n ρ T' (rb (xE L 8 0 p) (fun p1 o => if tK L p1 = 5 then .inr (p1 + 1, o) else fl L 1 p1))) := by
  have hL := hH.2.2.2
  have hn := hL.2.1
  obtain ⟨G, hG⟩ : ∃ G, G = xE L 8 0 p := ⟨_, rfl⟩
  rw [← hG]
  refine ok_cnt (n + 1) (fun i q => (∃ T fr p o, q = (T, nI 1) ∧ QG S m T p (cs ++ o.map rc) rr nr mn ∧ QW T m fr ∧ vFr fr ∧ fr ≠ [] ∧ i ≤ p ∧ p ≤ n ∧ pr o (aR L fr p) = G ∧ cs.length + o.length + pd fr ≤ p + ρ) ∨ (∃ T p o, q = (T, nI 0) ∧ QG S m T p (cs ++ o.map rc) rr nr mn ∧ p ≤ n ∧ G = .inr (p, o) ∧ cs.length + o.length ≤ p + ρ) ∨ (∃ T y e u, q = (T, y) ∧ QB S m T e u ∧ (y = nI 0 ∨ y = nI 1) ∧ G = .inl e ∧ u ≤ n + ρ + 2)) ?_ ?_ c_N 0 _ (by omega) (Or.inl ⟨T, [(0, 0, 0)], p, [], rfl, ?_, hw, ⟨by show 1 ≤ 6; omega, fun f hf => ?_⟩, by simp, by omega, hp, ?_, ?_⟩) (N_big (by omega))
  · rintro i q rec hi hh hrec
    rcases hh with ⟨T, fr, p, o, rfl, h1, h2, h3, h4, h5, h6, h7, h8⟩ | ⟨T, p, o, rfl, h1, h2, h3, h4⟩ | ⟨T, y, e, u, rfl, h1, h2, h3, h4⟩
    · have hs := QF_s hH h1.1
      have cl : (cs ++ o.map rc).length = cs.length + o.length := by rw [List.length_append, List.length_map]
      have fl1 : 1 ≤ fr.length := by
        cases fr with
        | nil => exact absurd rfl h4
        | cons f r => simp only [List.length_cons]; omega
      unfold b_X9_rule_102 j_X9_rule_127 j_X9_rule_132
      refine ok_if (show ¬ nI 1 = (0 : Int32) by decide) ?_
      refine ok_gt hs.1 ?_
      refine ok_it (by rw [h1.2.2.1]; rfl) ?_
      refine ok_cc (r_part hH h1 h2 fl1 h3.1 h6 (by omega)) (fun r T1 q => ?_)
      rcases q with ⟨rfl, q1, q2, q3, q4, q5⟩ | ⟨rfl, p', o1, q1, q2, q3, q4, q5, q6⟩ | ⟨rfl, e, u, q1, q2, q3⟩
      · refine ok_if (by decide) ?_
        refine hrec _ (Or.inl ⟨T1, (0, 0, 0) :: fr, p + 1, o, rfl, q1, q2, vFr_cons h3 ⟨Or.inl rfl, Or.inl rfl, Or.inl rfl⟩ (by omega), by simp, by omega, q5, ?_, ?_⟩)
        · rw [← h7, aR_open h4 (by omega) q3]
        · have : pd ((0, 0, 0) :: fr) = pd fr := by show 0 + pd fr = pd fr; omega
          omega
      · refine ok_it (show nI 0 = (0 : Int32) from rfl) ?_
        have hs1 := QF_s hH q1.1
        refine ok_gt hs1.1 ?_
        obtain ⟨f, r, hfr⟩ : ∃ f r, fr = f :: r := by
          cases fr with
          | nil => exact absurd rfl h4
          | cons f r => exact ⟨f, r, rfl⟩
        have e7 : pr (o ++ o1) (aF L fr p') = G := by
          rw [← h7]
          unfold aR
          rw [q3, rb_r, pr_pr]
        rw [hfr] at q2 h3 e7 h8
        have lm : cs ++ o.map rc ++ o1.map rc = cs ++ (o ++ o1).map rc := by rw [List.map_append, List.append_assoc]
        rw [lm] at q1
        have rl : r.length ≤ 5 := by have := h3.1; simp only [List.length_cons] at this; omega
        have cl2 : (cs ++ (o ++ o1).map rc).length = cs.length + o.length + o1.length := by rw [List.length_append, List.length_map, List.length_append]; omega
        unfold f_X9_goesOnBehind
        refine ok_cc (r_gob hH (show ρ ≤ 30 by omega) r f p' (cs ++ (o ++ o1).map rc) T1 c_N (by unfold c_N; omega) h3 q1 q2 q5 (by rw [cl2]; omega)) (fun r' T2 g => ?_)
        have lm2 : ∀ o' : List (Nat × Nat), cs ++ (o ++ o1).map rc ++ o'.map rc = cs ++ (o ++ o1 ++ o').map rc := fun o' => by rw [List.map_append (l₁ := o ++ o1), List.append_assoc]
        rcases g with ⟨rfl, fr', p2, o', g1, g2, g3, g4, g5, g6, g7, g8⟩ | ⟨rfl, p2, o', g1, g2, g3, g4, g5⟩ | ⟨rfl, e, u, g1, g2, g3⟩
        · refine ok_if (by decide) ?_
          rw [lm2] at g1
          refine hrec _ (Or.inl ⟨T2, fr', p2, o ++ o1 ++ o', rfl, g1, g2, g3, g4, by omega, g6, ?_, ?_⟩)
          · rw [← e7, g7, pr_pr]
          · rw [cl2] at g8
            rw [List.length_append, List.length_append]
            omega
        · refine ok_it (show nI 0 = (0 : Int32) from rfl) ?_
          rw [lm2] at g1
          refine hrec _ (Or.inr (Or.inl ⟨T2, p2, o ++ o1 ++ o', rfl, g1, g3, ?_, ?_⟩))
          · rw [← e7, g4]
            rfl
          · rw [cl2] at g5
            rw [List.length_append, List.length_append]
            omega
        · refine ok_it (show nI 0 = (0 : Int32) from rfl) ?_
          refine hrec _ (Or.inr (Or.inr ⟨T2, nI 0, e, u, rfl, g1, Or.inl rfl, ?_, by omega⟩))
          rw [← e7, g2]
          rfl
      · refine ok_it (show nI 0 = (0 : Int32) from rfl) ?_
        have hs1 := QF_s hH q1.1
        refine ok_gt hs1.1 ?_
        rw [c_s (r_gobB hH q1)]
        refine ok_it (show nI 0 = (0 : Int32) from rfl) ?_
        refine hrec _ (Or.inr (Or.inr ⟨T1, nI 0, e, u, rfl, q1, Or.inl rfl, ?_, by omega⟩))
        rw [← h7]
        unfold aR
        rw [q2]
        rfl
    · unfold b_X9_rule_102
      refine ok_it (show nI 0 = (0 : Int32) from rfl) ?_
      rw [h3, rb_r]
      exact r_136 hH h1 h2 h4 (by omega)
    · rw [h3]
      exact r_ruleB hH h1 h4 (by omega) h2 rec
  · rintro q rec hh
    rcases hh with ⟨T, fr, p, o, rfl, h1, h2, h3, h4, h5, h6, h7, h8⟩ | ⟨T, p, o, rfl, h1, h2, h3, h4⟩ | ⟨T, y, e, u, rfl, h1, h2, h3, h4⟩
    · omega
    · unfold b_X9_rule_102
      refine ok_it (show nI 0 = (0 : Int32) from rfl) ?_
      rw [h3, rb_r]
      exact r_136 hH h1 h2 h4 (by omega)
    · rw [h3]
      exact r_ruleB hH h1 h4 (by omega) h2 rec
  · show QG S m T p (cs ++ []) rr nr mn
    rw [List.append_nil]
    exact h
  · rcases List.mem_cons.mp hf with z | z
    · rw [z]; exact ⟨Or.inl rfl, Or.inl rfl, Or.inl rfl⟩
    · cases z
  · rw [pr_nil, aR_top]
    exact hG.symm
  · show cs.length + 0 + 0 ≤ p + ρ
    omega
end RU
