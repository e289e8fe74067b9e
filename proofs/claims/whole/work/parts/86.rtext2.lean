/-! text: the reference reads -/
section RX
variable {β : Type} {S S' S0 T : st_T} {m x v n : Nat} {M : mT} {A : aT} {L : List (Nat × Nat × Nat)} {w p e u c t : Nat} {cs rr rs st : List (Nat × Nat)} {nr mn : Nat}
def TQ (S : st_T) (m t : Nat) (r : Int32) (U : st_T) (g : sT) : Prop := match g with
  | .inl e => r = nI e ∧ ∃ u, QB S m U e u
  | .inr x => r = nI 0 ∧ KQ S m t x U
theorem r_133b (hH : QH S m L n) (h : QB S m T e u) : ok (j_X9_text_133 m T) (fun r U => TQ S m t r U (.inl e)) := by
  have hs := QF_s hH h.1
  unfold j_X9_text_133 j_X9_text_144
  refine ok_gt hs.1 ?_
  refine ok_if (by rw [h.2.1]; exact neF (a := e) (b := 0) (by have := h.2.2.1; omega) (by have := h.2.2.2.1; omega) (by omega)) ?_
  refine ok_gt hs.1 ?_
  exact ok_of rfl ⟨h.2.1, u, h⟩
theorem r_133 (hH : QH S m L n) (h : QG S m T p cs rr rs.length mn) (hr : CR rs st cs rr) (hr2 : rs.length ≤ 24) (ht : t < 8) (h10 : st_fi S 1010 m = nI t) (hcs : cs.length ≤ 870) : ok (j_X9_text_133 m T) (fun r U => TQ S m t r U (.inr (rs, st, mn))) := by
  have hs := QF_s hH h.1
  unfold j_X9_text_133 j_X9_text_144
  refine ok_gt hs.1 ?_
  refine ok_it (by rw [h.2.2.1]; rfl) ?_
  refine ok_cc (r_keeps hH h hr hr2 ht h10 hcs) (fun _ U q => ?_)
  have hsU := RS_fq hH.1 q.2.2.2.2.1
  refine ok_gt hsU.1 ?_
  exact ok_of rfl ⟨q.2.2.2.1, q⟩
theorem r_80b (hH : QH S m L n) (h : QB S m T e u) : ok (j_X9_text_80 m T) (fun r U => TQ S m t r U (.inl e)) := by
  have hs := QF_s hH h.1
  unfold j_X9_text_80
  refine ok_gt hs.1 ?_
  rw [c_s (r_hasWb hs h.2.1 h.2.2.1 h.2.2.2.1)]
  refine ok_it (show nI 0 = (0 : Int32) from rfl) ?_
  exact r_133b hH (QB_at h)
theorem QG_7 {k : Nat} (h : QG S m T p cs rr nr mn) : QG S m (st_wi T (m + 7) 8 (nI k)) p cs rr nr k := by
  obtain ⟨h1, h2, h3, h4, h5, h6, h7, h8⟩ := h
  refine ⟨QF_wi h1 (by omega), h2, h3, h4, fun j hj => ?_, ?_, ri_wi_at _ _ _ _, fun i hi => ?_⟩
  · rw [ri_wi_ne _ _ _ _ _ (by omega), ri_wi_ne _ _ _ _ _ (by omega)]; exact h5 j hj
  · rw [ri_wi_ne _ _ _ _ _ (by omega)]; exact h6
  · rw [ri_wi_ne _ _ _ _ _ (by omega), ri_wi_ne _ _ _ _ _ (by omega)]; exact h8 i hi
theorem r_80 (hH : QH S m L n) (h : QG S m T p cs rr rs.length 0) (hr : CR rs st cs rr) (hr2 : rs.length ≤ 24) (ht : t < 8) (h10 : st_fi S 1010 m = nI t) (hcs : cs.length ≤ 870) (hp : p ≤ n) (hk : tK L p = 1 ∨ tK L p = 13) : ok (j_X9_text_80 m T) (fun r U => TQ S m t r U (xTail L p rs st)) := by
  have hs := QF_s hH h.1
  have hL := hH.2.2.2
  have hn := hL.2.1
  have ew := r_hasW (c := 1) hH h.1 h.2.1 h.2.2.1 hp (by omega)
  have k1 : kw 1 = 13 := rfl
  rw [k1] at ew
  unfold j_X9_text_80 xTail
  refine ok_gt hs.1 ?_
  by_cases c1 : tK L p = 13
  rotate_left
  · rw [if_neg c1] at ew
    have ew' : f_X9_hasWord T m 1 = some (nI 0, st_pi T 1007 m (nI (p + 0))) := ew
    rw [c_s ew']
    simp only [if_neg c1, if_pos (show tK L p = 1 by omega)]
    refine ok_it (show nI 0 = (0 : Int32) from rfl) ?_
    exact r_133 hH (QG_at h) hr hr2 ht h10 hcs
  · rw [if_pos c1] at ew
    have ew' : f_X9_hasWord T m 1 = some (nI 1, st_pi T 1007 m (nI (p + 1))) := ew
    rw [c_s ew']
    simp only [if_pos c1]
    refine ok_if (show ¬ nI 1 = (0 : Int32) by decide) ?_
    have h1 := QG_at (p' := p + 1) h
    have hs1 := QF_s hH h1.1
    have lt := LG_lt hL hp (by omega)
    generalize st_pi T 1007 m (nI (p + 1)) = T1 at *
    refine ok_gt hs1.1 ?_
    rw [rn_1013 hs1]
    have l1 : p + 1 ≤ n := by omega
    have kb1 := hL.2.2.2.2 (p + 1) l1
    have en := r_num (lo := 1) (hi := 143) hH h1.1 h1.2.1 h1.2.2.1 l1 (by omega) (by omega)
    have hin : ∀ U : st_T, RS U m → c_in 8 (st_ln U (m + 7)) := fun U hU => by
      rw [show st_ln U (m + 7) = 9 by simp only [hU]]
      exact of_eq_true (in_t (p := 8) (n := 9) (by omega) (by omega))
    have bad : ∀ e u T2, f_X9_takeNumber T1 m (nI 1) (nI 143) = some (nI 0, T2) → QB S m T2 e u → ok (c_c (f_X9_takeNumber T1 m 1 143) (fun (r99 : Int32) (T99 : st_T) => (c_g (st_K T99 (m + 7) = 20) (c_g (c_in 8 (st_ln T99 (m + 7))) (c_l (st_wi T99 (m + 7) (8 : Int32).toNatClampNeg r99) (fun (S_102 : st_T) => (c_g (st_K S_102 m = 11) (c_c (f_X9_takeSign S_102 m 59) (fun (r106 : Unit) (T106 : st_T) => (c_g (st_K T106 m = 11) (c_i ((st_fi T106 1008 m) = 0) (c_n (st_fr T106 1004 m) (fun (q117 : Nat) => (c_g (st_K T106 q117 = 20) (c_g (c_in (st_fi T106 1007 m) (st_ln T106 q117)) (c_i ((st_ri T106 q117 ((st_fi T106 1007 m) : Int32).toNatClampNeg) = 0) (j_X9_text_133 m T106) (c_c (f_X9_wrong T106 m 1) (fun (r130 : Unit) (T130 : st_T) => (j_X9_text_133 m T130)))))))) (j_X9_text_133 m T106)))))))))))) (fun r U => TQ S m t r U (.inl e)) := by
      intro e u T2 q1 q2
      have q1' : f_X9_takeNumber T1 m 1 143 = some (nI 0, T2) := q1
      rw [c_s q1']
      have hs2 := QF_s hH q2.1
      refine ok_gt (show st_K T2 (m + 7) = 20 by simp only [hs2]) ?_
      refine ok_gt (hin T2 hs2) ?_
      rw [ok_l]
      have q3 := QB_w (i := 7) (j := 8) (y := nI 0) q2 (by omega)
      have hs3 := QF_s hH q3.1
      refine ok_gt hs3.1 ?_
      rw [c_s (r_takeSb (T := st_wi T2 (m + 7) (8 : Int32).toNatClampNeg (nI 0)) hs3 q3.2.1 q3.2.2.1 q3.2.2.2.1)]
      refine ok_gt hs3.1 ?_
      refine ok_if (by
        have : st_fi (st_wi T2 (m + 7) (8 : Int32).toNatClampNeg (nI 0)) 1008 m = nI e := q3.2.1
        rw [this]
        exact neF (a := e) (b := 0) (by have := q3.2.2.1; omega) (by have := q3.2.2.2.1; omega) (by omega)) ?_
      exact r_133b hH q3
    by_cases c2 : tK L (p + 1) = 2
    · rw [if_pos c2] at en
      simp only [if_pos c2]
      have lt1 := LG_lt hL l1 (by omega)
      by_cases c3 : 1 ≤ tV L (p + 1) ∧ tV L (p + 1) ≤ 143
      · rw [if_pos c3] at en
        simp only [if_pos c3]
        have en' : f_X9_takeNumber T1 m 1 143 = some (nI (tV L (p + 1)), st_pi T1 1007 m (nI (p + 1 + 1))) := en
        rw [c_s en']
        have h2 := QG_at (p' := p + 1 + 1) h1
        have hs2 := QF_s hH h2.1
        generalize st_pi T1 1007 m (nI (p + 1 + 1)) = T2 at *
        refine ok_gt (show st_K T2 (m + 7) = 20 by simp only [hs2]) ?_
        refine ok_gt (hin T2 hs2) ?_
        rw [ok_l]
        have h3 := QG_7 (k := tV L (p + 1)) h2
        have hs3 := QF_s hH h3.1
        have e3 : st_wi T2 (m + 7) (8 : Int32).toNatClampNeg (nI (tV L (p + 1))) = st_wi T2 (m + 7) 8 (nI (tV L (p + 1))) := rfl
        rw [e3]
        generalize st_wi T2 (m + 7) 8 (nI (tV L (p + 1))) = T3 at *
        refine ok_gt hs3.1 ?_
        have l2 : p + 2 ≤ n := by omega
        have kb2 := hL.2.2.2.2 (p + 2) l2
        have et := r_takeS (c := 59) hH h3.1 h3.2.1 h3.2.2.1 (show p + 1 + 1 ≤ n by omega) (by decide)
        have k59 : ks 59 = 5 := rfl
        rw [k59] at et
        have e12 : p + 1 + 1 = p + 2 := rfl
        rw [e12] at et h3
        by_cases c4 : tK L (p + 2) = 5
        · rw [if_pos c4] at et
          simp only [if_pos c4]
          have et' : f_X9_takeSign T3 m 59 = some ((), st_pi T3 1007 m (nI (p + 2 + 1))) := et
          rw [c_s et']
          have lt2 := LG_lt hL l2 (by omega)
          have h4 := QG_at (p' := p + 3) h3
          have hs4 := QF_s hH h4.1
          have e4 : st_pi T3 1007 m (nI (p + 2 + 1)) = st_pi T3 1007 m (nI (p + 3)) := rfl
          rw [e4]
          generalize st_pi T3 1007 m (nI (p + 3)) = T4 at *
          have l3 : p + 3 ≤ n := by omega
          obtain ⟨s, t1, t2, t3⟩ := QF_t hH h4.1 l3
          have iff0 : s = 0 ↔ tK L (p + 3) = 1 := t3.2.1
          have s4 := t3.1
          refine ok_gt hs4.1 ?_
          refine ok_it (by rw [h4.2.2.1]; rfl) ?_
          rw [rn_1004 hs4]
          refine ok_gt (show st_K T4 (m + 2) = 20 by simp only [hs4]) ?_
          refine ok_gt (show c_in (st_fi T4 1007 m) (st_ln T4 (m + 2)) by
            rw [h4.2.1, show st_ln T4 (m + 2) = 802 by simp only [hs4]]
            exact of_eq_true (in_t (by omega) (by omega))) ?_
          have hv : st_ri T4 (m + 2) (st_fi T4 1007 m).toNatClampNeg = nI s := by
            rw [h4.2.1, nI_clamp (by omega)]
            exact t1
          by_cases c5 : tK L (p + 3) = 1
          · simp only [if_pos c5]
            refine ok_it (by rw [hv, iff0.mpr c5]; rfl) ?_
            exact r_133 hH h4 hr hr2 ht h10 hcs
          · simp only [if_neg c5]
            have kb3 := hL.2.2.2.2 (p + 3) l3
            refine ok_if (by rw [hv]; exact neF (a := s) (b := 0) (fun z => c5 (iff0.mp z)) (by omega) (by omega)) ?_
            have ew3 : f_X9_wrong T4 m 1 = some ((), st_pi T4 1008 m (nI (1 + 16 * tP L (p + 3)))) := r_wrong (how := 1) hH h4.1 h4.2.1 h4.2.2.1 l3 (by omega)
            rw [c_s ew3]
            exact r_133b hH (QB_of h4 (by omega) (by omega))
        · rw [if_neg c4] at et
          simp only [if_neg c4]
          have et' : f_X9_takeSign T3 m 59 = some ((), st_pi T3 1008 m (nI (1 + 16 * tP L (p + 2)))) := et
          rw [c_s et']
          have h4 := QB_of h3 (e := 1 + 16 * tP L (p + 2)) (by omega) (by omega)
          have hs4 := QF_s hH h4.1
          refine ok_gt hs4.1 ?_
          refine ok_if (by rw [h4.2.1]; exact neF (a := 1 + 16 * tP L (p + 2)) (b := 0) (by omega) (by omega) (by omega)) ?_
          exact r_133b hH h4
      · rw [if_neg c3] at en
        simp only [if_neg c3]
        exact bad _ _ _ en (QB_at (QB_of h1 (by omega) (by omega)))
    · rw [if_neg c2] at en
      simp only [if_neg c2]
      exact bad _ _ _ en (QB_at (QB_of h1 (by omega) (by omega)))
theorem r_textL (hH : QH S m L n) (h : QG S m T 0 [] [] 0 0) (ht : t < 8) (h10 : st_fi S 1010 m = nI t) : ok (c_w (b_X9_text_46 m) c_N T) (fun r U => TQ S m t r U (xRd L 24 0 [] [])) := by
  have hL := hH.2.2.2
  have hn := hL.2.1
  obtain ⟨G, hG⟩ : ∃ G, G = xRd L 24 0 [] [] := ⟨_, rfl⟩
  rw [← hG]
  have exB : ∀ (rec : st_T → Option (Int32 × st_T)) (T : st_T) (e u : Nat), QB S m T e u → ok (b_X9_text_46 m rec T) (fun r U => TQ S m t r U (.inl e)) := by
    intro rec T e u h
    have hs := QF_s hH h.1
    unfold b_X9_text_46
    refine ok_gt hs.1 ?_
    refine ok_if (by rw [h.2.1]; exact neF (a := e) (b := 0) (by have := h.2.2.1; omega) (by have := h.2.2.2.1; omega) (by omega)) ?_
    exact r_80b hH h
  refine ok_cnt 25 (fun i T' => (∃ p rs st cs rr, QG S m T' p cs rr rs.length 0 ∧ CR rs st cs rr ∧ p ≤ n ∧ st.length ≤ p ∧ rs.length = i ∧ i ≤ 24 ∧ xRd L (24 - i) p rs st = G) ∨ ∃ e u, QB S m T' e u ∧ G = .inl e) ?_ ?_ c_N 0 _ (by omega) (Or.inl ⟨0, [], [], [], [], h, CR_nil, by omega, by show 0 ≤ 0; omega, rfl, by omega, hG.symm⟩) (N_big (by omega))
  · rintro i T' rec hi hh hrec
    rcases hh with ⟨p, rs, st, cs, rr, h1, h2, h3, h4, h5, h6, h7⟩ | ⟨e, u, h1, h2⟩
    · have hs := QF_s hH h1.1
      have cl := h2.2.1
      have rl := h2.1
      obtain ⟨s, t1, t2, t3⟩ := QF_t hH h1.1 h3
      have iff0 : s = 0 ↔ tK L p = 1 := t3.2.1
      have s4 := t3.1
      have kb := hL.2.2.2.2 p h3
      have eM : f_X9_isWord T' m 1 = some (nI (if tK L p = 13 then 1 else 0), T') := r_isW (c := 1) hH h1.1 h1.2.1 h1.2.2.1 h3 (by omega)
      have hv : st_ri T' (m + 2) (st_fi T' 1007 m).toNatClampNeg = nI s := by
        rw [h1.2.1, nI_clamp (by omega)]
        exact t1
      unfold b_X9_text_46
      refine ok_gt hs.1 ?_
      refine ok_it (by rw [h1.2.2.1]; rfl) ?_
      rw [rn_1004 hs]
      refine ok_gt (show st_K T' (m + 2) = 20 by simp only [hs]) ?_
      refine ok_gt (show c_in (st_fi T' 1007 m) (st_ln T' (m + 2)) by
        rw [h1.2.1, show st_ln T' (m + 2) = 802 by simp only [hs]]
        exact of_eq_true (in_t (by omega) (by omega))) ?_
      have tail : tK L p ≠ 11 → xTail L p rs st = G := by
        intro z
        rw [← h7]
        cases 24 - i with
        | zero => rw [xRd, if_neg z]
        | succ f => rw [xRd, if_neg z]
      by_cases c1 : tK L p = 1
      · refine ok_it (by rw [hv, iff0.mpr c1]; rfl) ?_
        rw [← tail (by omega)]
        exact r_80 hH h1 h2 (by omega) ht h10 (by omega) h3 (Or.inl c1)
      · refine ok_if (by rw [hv]; exact neF (a := s) (b := 0) (fun z => c1 (iff0.mp z)) (by omega) (by omega)) ?_
        rw [c_s eM]
        by_cases c13 : tK L p = 13
        · rw [if_pos c13]
          refine ok_if (show ¬ nI 1 = (0 : Int32) by decide) ?_
          rw [← tail (by omega)]
          exact r_80 hH h1 h2 (by omega) ht h10 (by omega) h3 (Or.inr c13)
        · rw [if_neg c13]
          refine ok_it (show nI 0 = (0 : Int32) from rfl) ?_
          refine ok_gt hs.1 ?_
          rw [← rl] at h1
          refine ok_cc (r_rule hH h1 (by omega) h3 (by omega)) (fun _ T2 q => ?_)
          unfold UY at q
          by_cases c11 : tK L p = 11
          rotate_left
          · rw [if_pos c11] at q
            obtain ⟨u, q⟩ := q
            refine hrec _ (Or.inr ⟨_, u, q, ?_⟩)
            rw [← tail c11]
            unfold xTail
            rw [if_neg c13, if_neg c1]
          · rw [if_neg (fun z => z c11)] at q
            by_cases c24 : rr.length = 24
            · rw [if_pos c24] at q
              obtain ⟨u, q⟩ := q
              refine hrec _ (Or.inr ⟨_, u, q, ?_⟩)
              have e0 : 24 - i = 0 := by omega
              rw [← h7, e0, xRd, if_pos c11]
            · rw [if_neg c24] at q
              obtain ⟨f, hf⟩ : ∃ f, 24 - i = f + 1 := ⟨23 - i, by omega⟩
              have hf2 : 24 - (i + 1) = f := by omega
              rw [hf, xRd, if_pos c11] at h7
              have ad := rule_adv hL h3 c11
              cases hr : xRule L p with
              | inl e =>
                rw [hr] at q h7
                obtain ⟨u, q, _⟩ := q
                exact hrec _ (Or.inr ⟨e, u, q, h7.symm⟩)
              | inr q' =>
                obtain ⟨p2, o⟩ := q'
                rw [hr] at q h7
                have q2 : QG S m T2 p2 (cs ++ o.map rc ++ [(0, 0)]) (rr ++ [(tV L (p + 1), cs.length)]) (rr.length + 1) 0 := q
                have a1 := ad.1 p2 o hr
                have CR' := CR_add (c := tV L (p + 1)) (o := o) h2
                have rl2 : (rs ++ [(tV L (p + 1), st.length + o.length)]).length = rr.length + 1 := by rw [List.length_append, rl]; rfl
                rw [← rl2] at q2
                refine hrec _ (Or.inl ⟨p2, _, st ++ o, _, _, q2, CR', a1.2.1, by rw [List.length_append]; omega, by rw [rl2]; omega, by omega, ?_⟩)
                rw [hf2]
                exact h7
    · rw [h2]
      exact exB rec T' e u h1
  · rintro T' rec hh
    rcases hh with ⟨p, rs, st, cs, rr, h1, h2, h3, h4, h5, h6, h7⟩ | ⟨e, u, h1, h2⟩
    · omega
    · rw [h2]
      exact exB rec T' e u h1
end RX
