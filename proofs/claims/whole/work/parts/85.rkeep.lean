/-! text: the reference keeps a text -/
section RW
variable {β : Type} {S S' S0 T : st_T} {m x v n : Nat} {M : mT} {A : aT} {L : List (Nat × Nat × Nat)} {w p e u c t : Nat} {cs rr rs st : List (Nat × Nat)} {nr mn : Nat}
theorem getD_l {α : Type} {a b : List α} {d : α} {i : Nat} (h : i < a.length) : (a ++ b).getD i d = a.getD i d := by
  simp [List.getD, List.getElem?_append_left h]
theorem getD_r {α : Type} {a b : List α} {d : α} {i : Nat} (h : a.length ≤ i) : (a ++ b).getD i d = b.getD (i - a.length) d := by
  simp [List.getD, List.getElem?_append_right h]
def sr (rs : List (Nat × Nat)) (r : Nat) : Nat := if r = 0 then 0 else (rs.getD (r - 1) (0, 0)).2
/-- rules with their steps, as the reference lays them -/
def CR (rs st cs rr : List (Nat × Nat)) : Prop := rr.length = rs.length ∧ cs.length = st.length + rs.length ∧ (∀ r, r < rs.length → (rr.getD r (0, 0)).1 = (rs.getD r (0, 0)).1 ∧ (rr.getD r (0, 0)).2 = sr rs r + r) ∧ (∀ r j, r < rs.length → sr rs r ≤ j → j < (rs.getD r (0, 0)).2 → cs.getD (j + r) (0, 0) = rc (st.getD j (0, 0))) ∧ (∀ r, r < rs.length → cs.getD ((rs.getD r (0, 0)).2 + r) (0, 0) = (0, 0)) ∧ (∀ r, r < rs.length → (rs.getD r (0, 0)).2 ≤ st.length) ∧ sr rs rs.length = st.length
theorem CR_nil : CR [] [] [] [] := ⟨rfl, rfl, fun r h => absurd h (Nat.not_lt_zero _), fun r j h => absurd h (Nat.not_lt_zero _), fun r h => absurd h (Nat.not_lt_zero _), fun r h => absurd h (Nat.not_lt_zero _), rfl⟩
theorem CR_add {o : List (Nat × Nat)} (h : CR rs st cs rr) : CR (rs ++ [(c, st.length + o.length)]) (st ++ o) (cs ++ o.map rc ++ [(0, 0)]) (rr ++ [(c, cs.length)]) := by
  obtain ⟨h1, h2, h3, h4, h5, h6, h7⟩ := h
  have rl : (rs ++ [(c, st.length + o.length)]).length = rs.length + 1 := by rw [List.length_append]; rfl
  have sl' : (st ++ o).length = st.length + o.length := List.length_append ..
  have cl : (cs ++ o.map rc ++ [(0, 0)]).length = cs.length + o.length + 1 := by rw [List.length_append, List.length_append, List.length_map]; rfl
  have cl2 : (cs ++ o.map rc).length = cs.length + o.length := by rw [List.length_append, List.length_map]
  have srs : ∀ r, r ≤ rs.length → sr (rs ++ [(c, st.length + o.length)]) r = sr rs r := by
    intro r hr
    unfold sr
    by_cases z : r = 0
    · rw [if_pos z, if_pos z]
    · rw [if_neg z, if_neg z, getD_l (by omega)]
  have rlast : (rs ++ [(c, st.length + o.length)]).getD rs.length (0, 0) = (c, st.length + o.length) := getD_app_at
  refine ⟨?_, ?_, fun r hr => ?_, fun r j hr q1 q2 => ?_, fun r hr => ?_, fun r hr => ?_, ?_⟩
  · rw [List.length_append, List.length_append, h1]; rfl
  · rw [cl, sl', rl]; omega
  · rw [rl] at hr
    rw [srs r (by omega)]
    by_cases z : r = rs.length
    · rw [z, rlast, ← h1, getD_app_at]
      refine ⟨rfl, ?_⟩
      show cs.length = sr rs rr.length + rr.length
      rw [h1, h7]
      omega
    · rw [getD_l (by omega), getD_l (by omega)]
      exact h3 r (by omega)
  · rw [rl] at hr
    rw [srs r (by omega)] at q1
    by_cases z : r = rs.length
    · subst z
      rw [rlast] at q2
      have q2' : j < st.length + o.length := q2
      rw [h7] at q1
      rw [getD_l (by rw [cl2]; omega), getD_r (by omega), getD_r (by omega)]
      have e1 : j + rs.length - cs.length = j - st.length := by omega
      rw [e1]
      have hj : j - st.length < o.length := by omega
      rw [gD (l := o.map rc) (by rw [List.length_map]; exact hj), gD hj, List.getElem_map]
    · have h6' := h6 r (by omega)
      rw [getD_l (by omega)] at q2
      rw [getD_l (by rw [cl2]; omega), getD_l (by omega), getD_l (by omega)]
      exact h4 r j (by omega) q1 q2
  · rw [rl] at hr
    by_cases z : r = rs.length
    · subst z
      rw [rlast]
      show (cs ++ o.map rc ++ [(0, 0)]).getD (st.length + o.length + rs.length) (0, 0) = (0, 0)
      have e1 : st.length + o.length + rs.length = (cs ++ o.map rc).length := by rw [cl2]; omega
      rw [e1, getD_app_at]
    · have h6' := h6 r (by omega)
      have er : (rs ++ [(c, st.length + o.length)]).getD r (0, 0) = rs.getD r (0, 0) := getD_l (by omega)
      rw [er, getD_l (by rw [cl2]; omega), getD_l (by omega)]
      exact h5 r (by omega)
  · rw [rl] at hr
    rw [sl']
    by_cases z : r = rs.length
    · rw [z, rlast]
      exact Nat.le_refl _
    · rw [getD_l (by omega)]
      have := h6 r (by omega)
      omega
  · rw [rl, sl']
    unfold sr
    rw [if_neg (by omega), Nat.add_sub_cancel, rlast]
/-! keeps -/
def kp1 (T : st_T) (m t k : Nat) (U : st_T) : Prop := fq (fun a => a = m + 8 ∨ a = m + 9) nF T U ∧ (∀ i, st_ri U (m + 8) i = if 24 * t ≤ i ∧ i < 24 * t + k then st_ri T (m + 8) (192 + (i - 24 * t)) else st_ri T (m + 8) i) ∧ ∀ i, st_ri U (m + 9) i = if 24 * t ≤ i ∧ i < 24 * t + k then st_ri T (m + 9) (192 + (i - 24 * t)) else st_ri T (m + 9) i
def kp2 (T : st_T) (m t k : Nat) (U : st_T) : Prop := fq (fun a => a = m + 10 ∨ a = m + 11) nF T U ∧ (∀ i, st_ri U (m + 10) i = if 880 * t ≤ i ∧ i < 880 * t + k then st_ri T (m + 10) (7040 + (i - 880 * t)) else st_ri T (m + 10) i) ∧ ∀ i, st_ri U (m + 11) i = if 880 * t ≤ i ∧ i < 880 * t + k then st_ri T (m + 11) (7040 + (i - 880 * t)) else st_ri T (m + 11) i
theorem r_kp2 {Q : Unit → st_T → Prop} (hs : RS T m) (ht : t < 8) (h10 : st_fi T 1010 m = nI t) (hu : u ≤ 870) (h18 : st_fi T 1018 m = nI u) (hq : ∀ U, kp2 T m t u U → Q () (st_pi (st_pi U 1011 m (nI t)) 1010 m (nI (t + 1)))) : ok (c_w (b_X9_keeps_96 m) c_N (T, nI 0)) Q := by
  refine ok_cnt u (fun k q => ∃ U, q = (U, nI k) ∧ kp2 T m t k U) ?_ ?_ c_N 0 _ (by omega) ⟨T, rfl, fq_rf, fun i => by rw [if_neg (by omega)], fun i => by rw [if_neg (by omega)]⟩ (N_big (by omega))
  · rintro k q rec hk ⟨U, rfl, k1, k2, k3⟩ hrec
    have hsU := RS_fq hs k1
    have f10 : st_fi U 1010 m = nI t := by rw [fq_fi k1 (fun z => z.elim)]; exact h10
    have f18 : st_fi U 1018 m = nI u := by rw [fq_fi k1 (fun z => z.elim)]; exact h18
    have stp : b_X9_keeps_96 m rec (U, nI k) = rec (st_wi (st_wi U (m + 10) (880 * t + k) (st_ri U (m + 10) (7040 + k))) (m + 11) (880 * t + k) (st_ri U (m + 11) (7040 + k)), nI (k + 1)) := by
      clear hrec k1 k2 k3 hq h10 h18 hs
      simp (disch := first | omega | assumption | (repeat first | assumption | apply RS_pi | apply RS_wi | apply RS_wl | apply CS_pi | apply CS_wi | apply CS_wl | apply CS_wo | apply CS_xo | apply RI_w15 | apply RI_w16 | apply RI_w17 | apply RI_w26 | apply RI_w27 | apply RI_w28 | apply RI_p1000)) only [b_X9_keeps_96, ↓reduceIte, ↓xg, ↓xi, ↓xl_wi, ↓xl_wl, ↓xl_pi, ↓xlI, ↓xlL, ↓xlN, xl, ↓xn, ↓xc, ↓xon, ↓xos, ↓ln_1, ↓ln_2, ↓ln_3, ↓ln_8, qli_0, qli_1, qli_2, qli_3, qli_4, qli_5, qli_6, qli_7, qli_8, qli_9, qli_10, qli_11, qli_12, qli_13, qli_14, qli_15, qli_16, qli_17, qli_18, qli_19, qli_20, qli_21, qli_22, qli_23, qli_24, qli_25, qli_26, qli_31, qli_32, qli_37, qli_39, qli_40, qli_41, qli_42, qli_43, qli_45, qli_47, qli_48, qli_49, qli_50, qli_56, qli_57, qli_59, qli_60, qli_61, qli_63, qli_64, qli_96, qli_97, qli_99, qli_100, qli_101, qli_122, qli_126, qli_143, qli_144, qli_192, qli_200, qli_201, qli_216, qli_255, qli_256, qli_780, qli_799, qli_800, qli_801, qli_802, qli_880, qli_1000, qli_5760, qli_7040, qli_7920, qli_1000000, in_t, le_t, le_f, lt_t, lt_f, eq_t, eq_f, nI_add, nI_sub', nI_mul, nI_clamp, m1_ne, m1_ne', m1_lt, m1_le, m1_nlt, m1_nle, m1_add, eq_self, not_true_eq_false, not_false_eq_true, ne_eq, Nat.reduceLeDiff, Nat.reduceLT, and_true, true_and, and_self, or_true, true_or, or_false, false_or, false_and, and_false, qK_pi, qK_pr, qK_wi, qK_wl, qK_wo, qK_xi, qK_xo, qfr_pi', qfr_wi', qfr_wl', qfr_wo', qfr_xi', qfr_xo', qfi_pr, qfi_wi, qfi_wl, qfi_wo, qfi_xi, qfi_xo, qln_pi, qln_pr, qln_wi, qln_wl, qln_wo, qln_xi, qln_xo, qri_pi, qri_pr, qri_wl, qri_wo, qri_xo, qrl_pi, qrl_pr, qrl_wi, qrl_wo, qrl_xi, qrl_xo, qro_pi, qro_pr, qro_wi, qro_wl, qro_xi, qnx_pi, qnx_pr, qnx_wi, qnx_wl, qnx_wo, qnx_xi, qnx_xo, qsa_pi, qsa_wi, qsa_wl, qsa_pr, qsa_wo, fi_pi_at, fi_pi_nk, fi_pi_na, ri_wi_at, ri_wi_ne, ri_wi_nj, rl_wl_at, rl_wl_ne, rl_wl_nj, fr_pr_at, fr_pr_nk, fr_pr_na, hsU, f10, f18, ↓rn_1016, ↓rn_1017]
    rw [stp]
    have v1 : st_ri U (m + 10) (7040 + k) = st_ri T (m + 10) (7040 + k) := by rw [k2, if_neg (by omega)]
    have v2 : st_ri U (m + 11) (7040 + k) = st_ri T (m + 11) (7040 + k) := by rw [k3, if_neg (by omega)]
    rw [v1, v2]
    refine hrec _ ⟨_, rfl, fq_wi (fq_wi k1 (Or.inl rfl)) (Or.inr rfl), fun i => ?_, fun i => ?_⟩
    · rw [ri_wi_ne _ _ _ _ _ (show m + 10 ≠ m + 11 by omega)]
      by_cases z : i = 880 * t + k
      · rw [z, ri_wi_at, if_pos (by omega)]
        congr 1
        omega
      · rw [ri_wi_nj _ _ _ _ _ _ z, k2]
        by_cases z2 : 880 * t ≤ i ∧ i < 880 * t + k
        · rw [if_pos z2, if_pos (by omega)]
        · rw [if_neg z2, if_neg (by omega)]
    · by_cases z : i = 880 * t + k
      · rw [z, ri_wi_at, if_pos (by omega)]
        congr 1
        omega
      · rw [ri_wi_nj _ _ _ _ _ _ z, ri_wi_ne _ _ _ _ _ (show m + 11 ≠ m + 10 by omega), k3]
        by_cases z2 : 880 * t ≤ i ∧ i < 880 * t + k
        · rw [if_pos z2, if_pos (by omega)]
        · rw [if_neg z2, if_neg (by omega)]
  · rintro q rec ⟨U, rfl, k1, k2, k3⟩
    have hsU := RS_fq hs k1
    have f10 : st_fi U 1010 m = nI t := by rw [fq_fi k1 (fun z => z.elim)]; exact h10
    have f18 : st_fi U 1018 m = nI u := by rw [fq_fi k1 (fun z => z.elim)]; exact h18
    have stp : b_X9_keeps_96 m rec (U, nI u) = some ((), st_pi (st_pi U 1011 m (nI t)) 1010 m (nI (t + 1))) := by
      have f10' : st_fi (st_pi U 1011 m (nI t)) 1010 m = nI t := by rw [fi_pi_nk _ _ _ _ _ _ (by omega)]; exact f10
      clear k1 k2 k3 hq h10 h18 hs
      simp (disch := first | omega | assumption | (repeat first | assumption | apply RS_pi | apply RS_wi | apply RS_wl | apply CS_pi | apply CS_wi | apply CS_wl | apply CS_wo | apply CS_xo | apply RI_w15 | apply RI_w16 | apply RI_w17 | apply RI_w26 | apply RI_w27 | apply RI_w28 | apply RI_p1000)) only [b_X9_keeps_96, ↓reduceIte, ↓xg, ↓xi, ↓xl_wi, ↓xl_wl, ↓xl_pi, ↓xlI, ↓xlL, ↓xlN, xl, ↓xn, ↓xc, ↓xon, ↓xos, ↓ln_1, ↓ln_2, ↓ln_3, ↓ln_8, qli_0, qli_1, qli_2, qli_3, qli_4, qli_5, qli_6, qli_7, qli_8, qli_9, qli_10, qli_11, qli_12, qli_13, qli_14, qli_15, qli_16, qli_17, qli_18, qli_19, qli_20, qli_21, qli_22, qli_23, qli_24, qli_25, qli_26, qli_31, qli_32, qli_37, qli_39, qli_40, qli_41, qli_42, qli_43, qli_45, qli_47, qli_48, qli_49, qli_50, qli_56, qli_57, qli_59, qli_60, qli_61, qli_63, qli_64, qli_96, qli_97, qli_99, qli_100, qli_101, qli_122, qli_126, qli_143, qli_144, qli_192, qli_200, qli_201, qli_216, qli_255, qli_256, qli_780, qli_799, qli_800, qli_801, qli_802, qli_880, qli_1000, qli_5760, qli_7040, qli_7920, qli_1000000, in_t, le_t, le_f, lt_t, lt_f, eq_t, eq_f, nI_add, nI_sub', nI_mul, nI_clamp, m1_ne, m1_ne', m1_lt, m1_le, m1_nlt, m1_nle, m1_add, eq_self, not_true_eq_false, not_false_eq_true, ne_eq, Nat.reduceLeDiff, Nat.reduceLT, and_true, true_and, and_self, or_true, true_or, or_false, false_or, false_and, and_false, qK_pi, qK_pr, qK_wi, qK_wl, qK_wo, qK_xi, qK_xo, qfr_pi', qfr_wi', qfr_wl', qfr_wo', qfr_xi', qfr_xo', qfi_pr, qfi_wi, qfi_wl, qfi_wo, qfi_xi, qfi_xo, qln_pi, qln_pr, qln_wi, qln_wl, qln_wo, qln_xi, qln_xo, qri_pi, qri_pr, qri_wl, qri_wo, qri_xo, qrl_pi, qrl_pr, qrl_wi, qrl_wo, qrl_xi, qrl_xo, qro_pi, qro_pr, qro_wi, qro_wl, qro_xi, qnx_pi, qnx_pr, qnx_wi, qnx_wl, qnx_wo, qnx_xi, qnx_xo, qsa_pi, qsa_wi, qsa_wl, qsa_pr, qsa_wo, fi_pi_at, fi_pi_nk, fi_pi_na, ri_wi_at, ri_wi_ne, ri_wi_nj, rl_wl_at, rl_wl_ne, rl_wl_nj, fr_pr_at, fr_pr_nk, fr_pr_na, hsU, f10, f18]
    rw [stp]
    exact ok_of rfl (hq U ⟨k1, k2, k3⟩)
theorem r_kp1 {Q : Unit → st_T → Prop} (hs : RS T m) (ht : t < 8) (h10 : st_fi T 1010 m = nI t) (hq : ∀ U, kp1 T m t 24 U → ok (c_w (b_X9_keeps_96 m) c_N (U, nI 0)) Q) : ok (c_w (b_X9_keeps_34 m) c_N (T, nI 0)) Q := by
  refine ok_cnt 24 (fun k q => ∃ U, q = (U, nI k) ∧ kp1 T m t k U) ?_ ?_ c_N 0 _ (by omega) ⟨T, rfl, fq_rf, fun i => by rw [if_neg (by omega)], fun i => by rw [if_neg (by omega)]⟩ (N_big (by omega))
  · rintro k q rec hk ⟨U, rfl, k1, k2, k3⟩ hrec
    have hsU := RS_fq hs k1
    have f10 : st_fi U 1010 m = nI t := by rw [fq_fi k1 (fun z => z.elim)]; exact h10
    have stp : b_X9_keeps_34 m rec (U, nI k) = rec (st_wi (st_wi U (m + 8) (24 * t + k) (st_ri U (m + 8) (192 + k))) (m + 9) (24 * t + k) (st_ri U (m + 9) (192 + k)), nI (k + 1)) := by
      unfold b_X9_keeps_34
      clear hrec k1 k2 k3 hq h10 hs
      generalize c_N = N
      simp (disch := first | omega | assumption | (repeat first | assumption | apply RS_pi | apply RS_wi | apply RS_wl | apply CS_pi | apply CS_wi | apply CS_wl | apply CS_wo | apply CS_xo | apply RI_w15 | apply RI_w16 | apply RI_w17 | apply RI_w26 | apply RI_w27 | apply RI_w28 | apply RI_p1000)) only [↓reduceIte, ↓xg, ↓xi, ↓xl_wi, ↓xl_wl, ↓xl_pi, ↓xlI, ↓xlL, ↓xlN, xl, ↓xn, ↓xc, ↓xon, ↓xos, ↓ln_1, ↓ln_2, ↓ln_3, ↓ln_8, qli_0, qli_1, qli_2, qli_3, qli_4, qli_5, qli_6, qli_7, qli_8, qli_9, qli_10, qli_11, qli_12, qli_13, qli_14, qli_15, qli_16, qli_17, qli_18, qli_19, qli_20, qli_21, qli_22, qli_23, qli_24, qli_25, qli_26, qli_31, qli_32, qli_37, qli_39, qli_40, qli_41, qli_42, qli_43, qli_45, qli_47, qli_48, qli_49, qli_50, qli_56, qli_57, qli_59, qli_60, qli_61, qli_63, qli_64, qli_96, qli_97, qli_99, qli_100, qli_101, qli_122, qli_126, qli_143, qli_144, qli_192, qli_200, qli_201, qli_216, qli_255, qli_256, qli_780, qli_799, qli_800, qli_801, qli_802, qli_880, qli_1000, qli_5760, qli_7040, qli_7920, qli_1000000, in_t, le_t, le_f, lt_t, lt_f, eq_t, eq_f, nI_add, nI_sub', nI_mul, nI_clamp, m1_ne, m1_ne', m1_lt, m1_le, m1_nlt, m1_nle, m1_add, eq_self, not_true_eq_false, not_false_eq_true, ne_eq, Nat.reduceLeDiff, Nat.reduceLT, and_true, true_and, and_self, or_true, true_or, or_false, false_or, false_and, and_false, qK_pi, qK_pr, qK_wi, qK_wl, qK_wo, qK_xi, qK_xo, qfr_pi', qfr_wi', qfr_wl', qfr_wo', qfr_xi', qfr_xo', qfi_pr, qfi_wi, qfi_wl, qfi_wo, qfi_xi, qfi_xo, qln_pi, qln_pr, qln_wi, qln_wl, qln_wo, qln_xi, qln_xo, qri_pi, qri_pr, qri_wl, qri_wo, qri_xo, qrl_pi, qrl_pr, qrl_wi, qrl_wo, qrl_xi, qrl_xo, qro_pi, qro_pr, qro_wi, qro_wl, qro_xi, qnx_pi, qnx_pr, qnx_wi, qnx_wl, qnx_wo, qnx_xi, qnx_xo, qsa_pi, qsa_wi, qsa_wl, qsa_pr, qsa_wo, fi_pi_at, fi_pi_nk, fi_pi_na, ri_wi_at, ri_wi_ne, ri_wi_nj, rl_wl_at, rl_wl_ne, rl_wl_nj, fr_pr_at, fr_pr_nk, fr_pr_na, hsU, f10, ↓rn_1014, ↓rn_1015]
    rw [stp]
    have v1 : st_ri U (m + 8) (192 + k) = st_ri T (m + 8) (192 + k) := by rw [k2, if_neg (by omega)]
    have v2 : st_ri U (m + 9) (192 + k) = st_ri T (m + 9) (192 + k) := by rw [k3, if_neg (by omega)]
    rw [v1, v2]
    refine hrec _ ⟨_, rfl, fq_wi (fq_wi k1 (Or.inl rfl)) (Or.inr rfl), fun i => ?_, fun i => ?_⟩
    · rw [ri_wi_ne _ _ _ _ _ (show m + 8 ≠ m + 9 by omega)]
      by_cases z : i = 24 * t + k
      · rw [z, ri_wi_at, if_pos (by omega)]
        congr 1
        omega
      · rw [ri_wi_nj _ _ _ _ _ _ z, k2]
        by_cases z2 : 24 * t ≤ i ∧ i < 24 * t + k
        · rw [if_pos z2, if_pos (by omega)]
        · rw [if_neg z2, if_neg (by omega)]
    · by_cases z : i = 24 * t + k
      · rw [z, ri_wi_at, if_pos (by omega)]
        congr 1
        omega
      · rw [ri_wi_nj _ _ _ _ _ _ z, ri_wi_ne _ _ _ _ _ (show m + 9 ≠ m + 8 by omega), k3]
        by_cases z2 : 24 * t ≤ i ∧ i < 24 * t + k
        · rw [if_pos z2, if_pos (by omega)]
        · rw [if_neg z2, if_neg (by omega)]
  · rintro q rec ⟨U, rfl, k1, k2, k3⟩
    have stp : b_X9_keeps_34 m rec (U, nI 24) = c_w (b_X9_keeps_96 m) c_N (U, nI 0) := by
      unfold b_X9_keeps_34
      clear k1 k2 k3 hq h10 hs
      generalize c_N = N
      simp (disch := first | omega | assumption | (repeat first | assumption | apply RS_pi | apply RS_wi | apply RS_wl | apply CS_pi | apply CS_wi | apply CS_wl | apply CS_wo | apply CS_xo | apply RI_w15 | apply RI_w16 | apply RI_w17 | apply RI_w26 | apply RI_w27 | apply RI_w28 | apply RI_p1000)) only [↓reduceIte, ↓xg, ↓xi, ↓xl_wi, ↓xl_wl, ↓xl_pi, ↓xlI, ↓xlL, ↓xlN, xl, ↓xn, ↓xc, ↓xon, ↓xos, ↓ln_1, ↓ln_2, ↓ln_3, ↓ln_8, qli_0, qli_1, qli_2, qli_3, qli_4, qli_5, qli_6, qli_7, qli_8, qli_9, qli_10, qli_11, qli_12, qli_13, qli_14, qli_15, qli_16, qli_17, qli_18, qli_19, qli_20, qli_21, qli_22, qli_23, qli_24, qli_25, qli_26, qli_31, qli_32, qli_37, qli_39, qli_40, qli_41, qli_42, qli_43, qli_45, qli_47, qli_48, qli_49, qli_50, qli_56, qli_57, qli_59, qli_60, qli_61, qli_63, qli_64, qli_96, qli_97, qli_99, qli_100, qli_101, qli_122, qli_126, qli_143, qli_144, qli_192, qli_200, qli_201, qli_216, qli_255, qli_256, qli_780, qli_799, qli_800, qli_801, qli_802, qli_880, qli_1000, qli_5760, qli_7040, qli_7920, qli_1000000, in_t, le_t, le_f, lt_t, lt_f, eq_t, eq_f, nI_add, nI_sub', nI_mul, nI_clamp, m1_ne, m1_ne', m1_lt, m1_le, m1_nlt, m1_nle, m1_add, eq_self, not_true_eq_false, not_false_eq_true, ne_eq, Nat.reduceLeDiff, Nat.reduceLT, and_true, true_and, and_self, or_true, true_or, or_false, false_or, false_and, and_false, qK_pi, qK_pr, qK_wi, qK_wl, qK_wo, qK_xi, qK_xo, qfr_pi', qfr_wi', qfr_wl', qfr_wo', qfr_xi', qfr_xo', qfi_pr, qfi_wi, qfi_wl, qfi_wo, qfi_xi, qfi_xo, qln_pi, qln_pr, qln_wi, qln_wl, qln_wo, qln_xi, qln_xo, qri_pi, qri_pr, qri_wl, qri_wo, qri_xo, qrl_pi, qrl_pr, qrl_wi, qrl_wo, qrl_xi, qrl_xo, qro_pi, qro_pr, qro_wi, qro_wl, qro_xi, qnx_pi, qnx_pr, qnx_wi, qnx_wl, qnx_wo, qnx_xi, qnx_xo, qsa_pi, qsa_wi, qsa_wl, qsa_pr, qsa_wo, fi_pi_at, fi_pi_nk, fi_pi_na, ri_wi_at, ri_wi_ne, ri_wi_nj, rl_wl_at, rl_wl_ne, rl_wl_nj, fr_pr_at, fr_pr_nk, fr_pr_na]
    rw [stp]
    exact hq U ⟨k1, k2, k3⟩
/-- the picture of a text that is kept -/
def KQ (S : st_T) (m t : Nat) (x : tT) (U : st_T) : Prop := RT U m t x ∧ st_fi U 1011 m = nI t ∧ st_fi U 1010 m = nI (t + 1) ∧ st_fi U 1008 m = nI 0 ∧ fq (fun a => m + 6 ≤ a ∧ a ≤ m + 14) (fun k a => a = m ∧ (k = 1007 ∨ k = 1008 ∨ k = 1018 ∨ k = 1019 ∨ k = 1010 ∨ k = 1011)) S U ∧ (∀ i, i < 8 → i ≠ t → st_ri U (m + 6) i = st_ri S (m + 6) i ∧ st_ri U (m + 7) i = st_ri S (m + 7) i) ∧ (∀ i, i < 192 → ¬ (24 * t ≤ i ∧ i < 24 * t + 24) → st_ri U (m + 8) i = st_ri S (m + 8) i ∧ st_ri U (m + 9) i = st_ri S (m + 9) i) ∧ (∀ i, i < 7040 → ¬ (880 * t ≤ i ∧ i < 880 * t + 880) → st_ri U (m + 10) i = st_ri S (m + 10) i ∧ st_ri U (m + 11) i = st_ri S (m + 11) i)
theorem r_keeps (hH : QH S m L n) (h : QG S m T p cs rr rs.length mn) (hr : CR rs st cs rr) (hr2 : rs.length ≤ 24) (ht : t < 8) (h10 : st_fi S 1010 m = nI t) (hcs : cs.length ≤ 870) : ok (f_X9_keeps T m) (fun _ U => KQ S m t (rs, st, mn) U) := by
  have hs := QF_s hH h.1
  obtain ⟨g1, g2, g3, g4, g5, g6, g7, g8⟩ := h
  obtain ⟨q1, q2, q3, q4⟩ := g1
  obtain ⟨c1, c2, c3, c4, c5, c6, c7⟩ := hr
  have f10 : st_fi T 1010 m = nI t := by rw [fq_fi q1 (by unfold qF; omega)]; exact h10
  obtain ⟨T1, hT1⟩ : ∃ T1, T1 = st_wi (st_wi T (m + 6) t (nI rs.length)) (m + 7) t (nI mn) := ⟨_, rfl⟩
  have st0 : f_X9_keeps T m = c_w (b_X9_keeps_34 m) c_N (T1, nI 0) := by
    rw [hT1]
    unfold f_X9_keeps
    clear g4 g5 g8 q1 q2 q3 q4 c3 c4 c5 c6 c7 hH hT1
    generalize c_N = N
    simp (disch := first | omega | assumption | (repeat first | assumption | apply RS_pi | apply RS_wi | apply RS_wl | apply CS_pi | apply CS_wi | apply CS_wl | apply CS_wo | apply CS_xo | apply RI_w15 | apply RI_w16 | apply RI_w17 | apply RI_w26 | apply RI_w27 | apply RI_w28 | apply RI_p1000)) only [↓reduceIte, ↓xg, ↓xi, ↓xl_wi, ↓xl_wl, ↓xl_pi, ↓xlI, ↓xlL, ↓xlN, xl, ↓xn, ↓xc, ↓xon, ↓xos, ↓ln_1, ↓ln_2, ↓ln_3, ↓ln_8, qli_0, qli_1, qli_2, qli_3, qli_4, qli_5, qli_6, qli_7, qli_8, qli_9, qli_10, qli_11, qli_12, qli_13, qli_14, qli_15, qli_16, qli_17, qli_18, qli_19, qli_20, qli_21, qli_22, qli_23, qli_24, qli_25, qli_26, qli_31, qli_32, qli_37, qli_39, qli_40, qli_41, qli_42, qli_43, qli_45, qli_47, qli_48, qli_49, qli_50, qli_56, qli_57, qli_59, qli_60, qli_61, qli_63, qli_64, qli_96, qli_97, qli_99, qli_100, qli_101, qli_122, qli_126, qli_143, qli_144, qli_192, qli_200, qli_201, qli_216, qli_255, qli_256, qli_780, qli_799, qli_800, qli_801, qli_802, qli_880, qli_1000, qli_5760, qli_7040, qli_7920, qli_1000000, in_t, le_t, le_f, lt_t, lt_f, eq_t, eq_f, nI_add, nI_sub', nI_mul, nI_clamp, m1_ne, m1_ne', m1_lt, m1_le, m1_nlt, m1_nle, m1_add, eq_self, not_true_eq_false, not_false_eq_true, ne_eq, Nat.reduceLeDiff, Nat.reduceLT, and_true, true_and, and_self, or_true, true_or, or_false, false_or, false_and, and_false, qK_pi, qK_pr, qK_wi, qK_wl, qK_wo, qK_xi, qK_xo, qfr_pi', qfr_wi', qfr_wl', qfr_wo', qfr_xi', qfr_xo', qfi_pr, qfi_wi, qfi_wl, qfi_wo, qfi_xi, qfi_xo, qln_pi, qln_pr, qln_wi, qln_wl, qln_wo, qln_xi, qln_xo, qri_pi, qri_pr, qri_wl, qri_wo, qri_xo, qrl_pi, qrl_pr, qrl_wi, qrl_wo, qrl_xi, qrl_xo, qro_pi, qro_pr, qro_wi, qro_wl, qro_xi, qnx_pi, qnx_pr, qnx_wi, qnx_wl, qnx_wo, qnx_xi, qnx_xo, qsa_pi, qsa_wi, qsa_wl, qsa_pr, qsa_wo, fi_pi_at, fi_pi_nk, fi_pi_na, ri_wi_at, ri_wi_ne, ri_wi_nj, rl_wl_at, rl_wl_ne, rl_wl_nj, fr_pr_at, fr_pr_nk, fr_pr_na, hs, f10, ↓rn_1012, ↓rn_1013, g6, g7]
  rw [st0]
  have hs1 : RS T1 m := by rw [hT1]; exact RS_wi _ _ _ (RS_wi _ _ _ hs)
  have f101 : st_fi T1 1010 m = nI t := by rw [hT1]; exact f10
  have f181 : st_fi T1 1018 m = nI cs.length := by rw [hT1]; exact g4
  have f81 : st_fi T1 1008 m = nI 0 := by rw [hT1]; exact g3
  have rT1 : ∀ a, a ≠ 6 → a ≠ 7 → st_ri T1 (m + a) = st_ri T (m + a) := fun a z1 z2 => by
    rw [hT1, ri_wi_ne _ _ _ _ _ (by omega), ri_wi_ne _ _ _ _ _ (by omega)]
  refine r_kp1 hs1 ht f101 (fun U k1 => ?_)
  obtain ⟨k1, k2, k3⟩ := k1
  have hsU := RS_fq hs1 k1
  refine r_kp2 (u := cs.length) (t := t) hsU ht (by rw [fq_fi k1 (fun z => z.elim)]; exact f101) hcs (by rw [fq_fi k1 (fun z => z.elim)]; exact f181) (fun W k4 => ?_)
  obtain ⟨k4, k5, k6⟩ := k4
  have r67W : ∀ a, a = 6 ∨ a = 7 → st_ri W (m + a) = st_ri T1 (m + a) := fun a z => by
    rw [fq_ri k4 (by omega), fq_ri k1 (by omega)]
  have r8W : st_ri W (m + 8) = st_ri U (m + 8) := fq_ri k4 (by omega)
  have r9W : st_ri W (m + 9) = st_ri U (m + 9) := fq_ri k4 (by omega)
  have r10U : st_ri U (m + 10) = st_ri T (m + 10) := by rw [fq_ri k1 (by omega)]; exact rT1 10 (by omega) (by omega)
  have r11U : st_ri U (m + 11) = st_ri T (m + 11) := by rw [fq_ri k1 (by omega)]; exact rT1 11 (by omega) (by omega)
  have e8 := rT1 8 (by omega) (by omega)
  have e9 := rT1 9 (by omega) (by omega)
  refine ⟨⟨?_, ?_, fun r hr => ?_, fun r hr => ?_, fun r j hr j1 j2 => ?_, fun r hr => ?_⟩, ?_, fi_pi_at _ _ _ _, ?_, ?_, fun i hi hi2 => ?_, fun i hi hi2 => ?_, fun i hi hi2 => ?_⟩
  · show st_ri W (m + 6) t = nI rs.length
    rw [r67W 6 (by omega), hT1, ri_wi_ne _ _ _ _ _ (by omega), ri_wi_at]
  · show st_ri W (m + 7) t = nI mn
    rw [r67W 7 (by omega), hT1, ri_wi_at]
  · have hr' : r < rs.length := hr
    show st_ri W (m + 8) (24 * t + r) = nI (rs.getD r (0, 0)).1
    rw [r8W, k2, if_pos (by omega), e8]
    have : 192 + (24 * t + r - 24 * t) = 192 + r := by omega
    rw [this, (g8 r (by omega)).1, (c3 r hr').1]
  · have hr' : r < rs.length := hr
    show st_ri W (m + 9) (24 * t + r) = nI (sr rs r + r)
    rw [r9W, k3, if_pos (by omega), e9]
    have : 192 + (24 * t + r - 24 * t) = 192 + r := by omega
    rw [this, (g8 r (by omega)).2, (c3 r hr').2]
  · have hr' : r < rs.length := hr
    have h6' := c6 r hr'
    have j2' : j < (rs.getD r (0, 0)).2 := j2
    show st_ri W (m + 10) (880 * t + j + r) = nI (eo (st.getD j (0, 0))) ∧ st_ri W (m + 11) (880 * t + j + r) = nI (ea (st.getD j (0, 0)))
    have cc := c4 r j hr' j1 j2
    have gg := g5 (j + r) (by omega)
    rw [cc] at gg
    rw [k5, k6, if_pos (by omega), if_pos (by omega), r10U, r11U]
    have : 7040 + (880 * t + j + r - 880 * t) = 7040 + (j + r) := by omega
    rw [this]
    exact gg
  · have hr' : r < rs.length := hr
    have h6' := c6 r hr'
    show st_ri W (m + 10) (880 * t + (rs.getD r (0, 0)).2 + r) = nI 0
    have cc := c5 r hr'
    have gg := g5 ((rs.getD r (0, 0)).2 + r) (by omega)
    rw [cc] at gg
    rw [k5, if_pos (by omega), r10U]
    have : 7040 + (880 * t + (rs.getD r (0, 0)).2 + r - 880 * t) = 7040 + ((rs.getD r (0, 0)).2 + r) := by omega
    rw [this]
    exact gg.1
  · rw [fi_pi_nk _ _ _ _ _ _ (by omega), fi_pi_at]
  · rw [fi_pi_nk _ _ _ _ _ _ (by omega), fi_pi_nk _ _ _ _ _ _ (by omega), fq_fi k4 (fun z => z.elim), fq_fi k1 (fun z => z.elim)]
    exact f81
  · refine fq_pi (fq_pi (fq_tr (fq_mono q1 (fun a z => z) (fun k a z => ⟨z.1, by have := z.2; omega⟩)) (fq_tr (fq_tr ?_ (fq_mono k1 (fun a z => by omega) (fun k a z => z.elim))) (fq_mono k4 (fun a z => by omega) (fun k a z => z.elim)))) ⟨rfl, by omega⟩) ⟨rfl, by omega⟩
    rw [hT1]
    exact fq_wi (fq_wi fq_rf (by omega)) (by omega)
  · show st_ri W (m + 6) i = _ ∧ st_ri W (m + 7) i = _
    rw [r67W 6 (by omega), r67W 7 (by omega), hT1]
    rw [ri_wi_ne _ _ _ _ _ (show m + 6 ≠ m + 7 by omega), ri_wi_nj _ _ _ _ _ _ hi2, ri_wi_nj _ _ _ _ _ _ hi2, ri_wi_ne _ _ _ _ _ (show m + 7 ≠ m + 6 by omega)]
    exact q2 i hi
  · show st_ri W (m + 8) i = _ ∧ st_ri W (m + 9) i = _
    rw [r8W, r9W, k2, k3, if_neg hi2, if_neg hi2, e8, e9]
    exact q3 i hi
  · show st_ri W (m + 10) i = _ ∧ st_ri W (m + 11) i = _
    rw [k5, k6, if_neg (by omega), if_neg (by omega), r10U, r11U]
    exact q4 i hi
end RW
