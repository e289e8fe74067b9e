/-! quarrels: the numbers -/
section QA
variable {β : Type} {S S' S0 : st_T} {m x v : Nat} {M : mT} {A : aT}
/-- a person is said to be there -/
def wh (M : mT) (d k p : Nat) : Nat := m_lv M d k 5 / 2 ^ p % 2
theorem wh_01 (d k p : Nat) : wh M d k p = 0 ∨ wh M d k p = 1 := by unfold wh; omega
/-- tens in common -/
def ov (M : mT) (e j d i : Nat) : Nat := (if m_lv M d i 1 < m_lv M e j 1 then m_lv M d i 1 else m_lv M e j 1) + 1 - (if m_lv M e j 0 < m_lv M d i 0 then m_lv M d i 0 else m_lv M e j 0)
def tn (M : mT) (e d i j : Nat) : Nat := if wh M e j (m_dd M d 1) = 0 then ov M e j d i else 0
def td (M : mT) (d e i : Nat) : Nat := if wh M d i (m_dd M e 1) = 0 then 0 else sm (tn M e d i) (m_nl M e)
theorem e_tic2 {a b l0 l1 k0 k1 : Nat} (ha : st_K S a = 4) (hb : st_K S b = 4) (a0 : st_fi S 300 a = nI l0) (a1 : st_fi S 301 a = nI l1) (b0 : st_fi S 300 b = nI k0) (b1 : st_fi S 301 b = nI k1) (h1 : l1 ≤ 143) (h2 : k1 ≤ 143) (h3 : l0 ≤ 143) (h4 : k0 ≤ 143) : f_X2_tensInCommon S a b = some (nI ((if k1 < l1 then k1 else l1) + 1 - (if l0 < k0 then k0 else l0)), S) := by
  unfold f_X2_tensInCommon
  have e1 : (if nI k1 < nI l1 then nI k1 else nI l1) = nI (if k1 < l1 then k1 else l1) := by
    by_cases c : k1 < l1
    · rw [if_pos (nI_lt c (by omega)), if_pos c]
    · rw [if_neg (nI_nlt (by omega) (by omega)), if_neg c]
  have e2 : (if nI l0 < nI k0 then nI k0 else nI l0) = nI (if l0 < k0 then k0 else l0) := by
    by_cases c : l0 < k0
    · rw [if_pos (nI_lt c (by omega)), if_pos c]
    · rw [if_neg (nI_nlt (by omega) (by omega)), if_neg c]
  rw [g_t ha, g_t hb, a0, a1, b0, b1, e1, e2]
  have h5 : (if k1 < l1 then k1 else l1) ≤ 143 := by split <;> omega
  have h6 : (if l0 < k0 then k0 else l0) ≤ 143 := by split <;> omega
  generalize (if k1 < l1 then k1 else l1) = u at *
  generalize (if l0 < k0 then k0 else l0) = w at *
  congr 2
  by_cases c : w ≤ u
  · rw [nI_sub c, nI_1, if_pos]
    · congr 1; omega
    · exact nI_lt (a := 0) (by omega) (by omega)
  · have e3 : nI u - nI w + 1 = nI (u + 1) - nI w := by
      rw [← nI_1, Int32.sub_eq_add_neg, Int32.sub_eq_add_neg, Int32.add_assoc, Int32.add_assoc, Int32.add_comm (-nI w) 1]
    have e4 : u + 1 - w = 0 := by omega
    rw [e4, e3, nI_ab (by omega) (by omega)]
    by_cases c2 : w ≤ u + 1
    · have : u + 1 - w = 0 := by omega
      rw [if_pos c2, this]
      decide
    · rw [if_neg c2]
      have : ¬ (0 : Int32) < -(nI (w - (u + 1))) := by
        intro q
        have := nI_ng (n := w - (u + 1)) (by omega) (by omega)
        apply this
        exact Int32.le_of_lt q
      rw [if_neg this]
      rfl
theorem e_holds {w p : Nat} (hw : w ≤ 255) (hp : p < 8) : f_X8_holds S (nI w) (nI p) = some (nI (w / 2 ^ p % 2), S) := by
  have e := shb hw hp
  unfold f_X8_holds
  rw [e]
  have : w / 2 ^ p % 2 = 0 ∨ w / 2 ^ p % 2 = 1 := by omega
  rcases this with z | z
  · rw [z]; rfl
  · rw [z]; rfl
theorem e_tw {d e i : Nat} (h : CI S x A M v) (hw : wM M) (hd : d < m_D M) (he : e < m_D M) (hi : i < m_nl M d) : f_X1_tensWithout S (a_d A e) (nI (m_dd M d 1)) (a_n A d i) = some (nI (sm (tn M e d i) (m_nl M e)), S) := by
  have hnl := wM_nl hw e
  obtain ⟨d0, d1, d2, d3, d4, d5, d6, d7, d8⟩ := CI_d h he
  have d9 := d7.1
  obtain ⟨k0, k1, k2, k3⟩ := (CI_d h hd).2.2.2.2.2.2.2.2 i hi
  obtain ⟨q1, q2, q3⟩ := wM_lv hw hi
  have hp := (wM_dd hw d).2.1
  clear h
  unfold f_X1_tensWithout
  refine w_cnt0 (m_nl M e) (fun k => (S, nI (sm (tn M e d i) k), nI k)) (fun k hk rec => ?_) (fun rec => ?_) c_N 0 (by omega) (N_big (by omega))
  · obtain ⟨b1, b2, b3, b4, b5, b6, b7⟩ := wM_lv hw hk
    obtain ⟨l0, l1, l2, l3, l4, l5, l6⟩ := d8 k hk
    have e9 : sm (tn M e d i) (k + 1) = sm (tn M e d i) k + tn M e d i k := rfl
    rw [e9]
    generalize sm (tn M e d i) k = acc
    have eh := e_holds (S := S) b7 (show m_dd M d 1 < 8 by omega)
    have ec := e_tic2 l0 k0 l1 l2 k1 k2 b2 q2 (by omega) (by omega)
    have eo : tn M e d i k = if wh M e k (m_dd M d 1) = 0 then ov M e k d i else 0 := rfl
    have ew : m_lv M e k 5 / 2 ^ m_dd M d 1 % 2 = wh M e k (m_dd M d 1) := rfl
    rw [ew] at eh
    rw [eo]
    have eov : (if m_lv M d i 1 < m_lv M e k 1 then m_lv M d i 1 else m_lv M e k 1) + 1 - (if m_lv M e k 0 < m_lv M d i 0 then m_lv M d i 0 else m_lv M e k 0) = ov M e k d i := rfl
    rw [eov] at ec
    rcases wh_01 (M := M) e k (m_dd M d 1) with z | z
    · rw [z] at eh
      rw [if_pos z]
      simp (disch := first | omega | assumption | (repeat first | assumption | apply RS_pi | apply RS_wi | apply RS_wl | apply CS_pi | apply CS_wi | apply CS_wl | apply CS_wo | apply CS_xo | apply RI_w15 | apply RI_w16 | apply RI_w17 | apply RI_w26 | apply RI_w27 | apply RI_w28 | apply RI_p1000)) only [b_X1_tensWithout_5, j_X1_tensWithout_54, ↓reduceIte, ↓xg, ↓xi, ↓xl_wi, ↓xl_wl, ↓xl_pi, ↓xlI, ↓xlL, ↓xlN, xl, ↓xn, ↓xc, ↓xon, ↓xos, ↓ln_1, ↓ln_2, ↓ln_3, ↓ln_8, qli_0, qli_1, qli_2, qli_3, qli_4, qli_5, qli_6, qli_7, qli_8, qli_9, qli_10, qli_11, qli_12, qli_13, qli_14, qli_15, qli_16, qli_17, qli_18, qli_19, qli_20, qli_21, qli_22, qli_23, qli_24, qli_25, qli_26, qli_31, qli_32, qli_37, qli_39, qli_40, qli_41, qli_42, qli_43, qli_45, qli_47, qli_48, qli_49, qli_50, qli_56, qli_57, qli_59, qli_60, qli_61, qli_63, qli_64, qli_96, qli_97, qli_99, qli_100, qli_101, qli_122, qli_126, qli_143, qli_144, qli_192, qli_200, qli_201, qli_216, qli_255, qli_256, qli_780, qli_799, qli_800, qli_801, qli_802, qli_880, qli_1000, qli_5760, qli_7040, qli_7920, qli_1000000, in_t, le_t, le_f, lt_t, lt_f, eq_t, eq_f, nI_add, nI_sub', nI_mul, nI_clamp, m1_ne, m1_ne', m1_lt, m1_le, m1_nlt, m1_nle, m1_add, eq_self, not_true_eq_false, not_false_eq_true, ne_eq, Nat.reduceLeDiff, Nat.reduceLT, and_true, true_and, and_self, or_true, true_or, or_false, false_or, false_and, and_false, qK_pi, qK_pr, qK_wi, qK_wl, qK_wo, qK_xi, qK_xo, qfr_pi', qfr_wi', qfr_wl', qfr_wo', qfr_xi', qfr_xo', qfi_pr, qfi_wi, qfi_wl, qfi_wo, qfi_xi, qfi_xo, qln_pi, qln_pr, qln_wi, qln_wl, qln_wo, qln_xi, qln_xo, qri_pi, qri_pr, qri_wl, qri_wo, qri_xo, qrl_pi, qrl_pr, qrl_wi, qrl_wo, qrl_xi, qrl_xo, qro_pi, qro_pr, qro_wi, qro_wl, qro_xi, qnx_pi, qnx_pr, qnx_wi, qnx_wl, qnx_wo, qnx_xi, qnx_xo, qsa_pi, qsa_wi, qsa_wl, qsa_pr, qsa_wo, fi_pi_at, fi_pi_nk, fi_pi_na, ri_wi_at, ri_wi_ne, ri_wi_nj, rl_wl_at, rl_wl_ne, rl_wl_nj, fr_pr_at, fr_pr_nk, fr_pr_na, d0, ↓n_s d6, d9, ↓cSl d7, ↓cGl d7 hk (by omega), l0, l6, eh, xc, ↓c_s ec]
    · rw [z] at eh
      rw [if_neg (by omega)]
      simp (disch := first | omega | assumption | (repeat first | assumption | apply RS_pi | apply RS_wi | apply RS_wl | apply CS_pi | apply CS_wi | apply CS_wl | apply CS_wo | apply CS_xo | apply RI_w15 | apply RI_w16 | apply RI_w17 | apply RI_w26 | apply RI_w27 | apply RI_w28 | apply RI_p1000)) only [b_X1_tensWithout_5, j_X1_tensWithout_54, ↓reduceIte, ↓xg, ↓xi, ↓xl_wi, ↓xl_wl, ↓xl_pi, ↓xlI, ↓xlL, ↓xlN, xl, ↓xn, ↓xc, ↓xon, ↓xos, ↓ln_1, ↓ln_2, ↓ln_3, ↓ln_8, qli_0, qli_1, qli_2, qli_3, qli_4, qli_5, qli_6, qli_7, qli_8, qli_9, qli_10, qli_11, qli_12, qli_13, qli_14, qli_15, qli_16, qli_17, qli_18, qli_19, qli_20, qli_21, qli_22, qli_23, qli_24, qli_25, qli_26, qli_31, qli_32, qli_37, qli_39, qli_40, qli_41, qli_42, qli_43, qli_45, qli_47, qli_48, qli_49, qli_50, qli_56, qli_57, qli_59, qli_60, qli_61, qli_63, qli_64, qli_96, qli_97, qli_99, qli_100, qli_101, qli_122, qli_126, qli_143, qli_144, qli_192, qli_200, qli_201, qli_216, qli_255, qli_256, qli_780, qli_799, qli_800, qli_801, qli_802, qli_880, qli_1000, qli_5760, qli_7040, qli_7920, qli_1000000, in_t, le_t, le_f, lt_t, lt_f, eq_t, eq_f, nI_add, nI_sub', nI_mul, nI_clamp, m1_ne, m1_ne', m1_lt, m1_le, m1_nlt, m1_nle, m1_add, eq_self, not_true_eq_false, not_false_eq_true, ne_eq, Nat.reduceLeDiff, Nat.reduceLT, and_true, true_and, and_self, or_true, true_or, or_false, false_or, false_and, and_false, qK_pi, qK_pr, qK_wi, qK_wl, qK_wo, qK_xi, qK_xo, qfr_pi', qfr_wi', qfr_wl', qfr_wo', qfr_xi', qfr_xo', qfi_pr, qfi_wi, qfi_wl, qfi_wo, qfi_xi, qfi_xo, qln_pi, qln_pr, qln_wi, qln_wl, qln_wo, qln_xi, qln_xo, qri_pi, qri_pr, qri_wl, qri_wo, qri_xo, qrl_pi, qrl_pr, qrl_wi, qrl_wo, qrl_xi, qrl_xo, qro_pi, qro_pr, qro_wi, qro_wl, qro_xi, qnx_pi, qnx_pr, qnx_wi, qnx_wl, qnx_wo, qnx_xi, qnx_xo, qsa_pi, qsa_wi, qsa_wl, qsa_pr, qsa_wo, fi_pi_at, fi_pi_nk, fi_pi_na, ri_wi_at, ri_wi_ne, ri_wi_nj, rl_wl_at, rl_wl_ne, rl_wl_nj, fr_pr_at, fr_pr_nk, fr_pr_na, d0, ↓n_s d6, d9, ↓cSl d7, ↓cGl d7 hk (by omega), l0, l6, eh, xc, Nat.add_zero]
  · simp (disch := first | omega | assumption | (repeat first | assumption | apply RS_pi | apply RS_wi | apply RS_wl | apply CS_pi | apply CS_wi | apply CS_wl | apply CS_wo | apply CS_xo | apply RI_w15 | apply RI_w16 | apply RI_w17 | apply RI_w26 | apply RI_w27 | apply RI_w28 | apply RI_p1000)) only [b_X1_tensWithout_5, ↓reduceIte, ↓xg, ↓xi, ↓xl_wi, ↓xl_wl, ↓xl_pi, ↓xlI, ↓xlL, ↓xlN, xl, ↓xn, ↓xc, ↓xon, ↓xos, ↓ln_1, ↓ln_2, ↓ln_3, ↓ln_8, qli_0, qli_1, qli_2, qli_3, qli_4, qli_5, qli_6, qli_7, qli_8, qli_9, qli_10, qli_11, qli_12, qli_13, qli_14, qli_15, qli_16, qli_17, qli_18, qli_19, qli_20, qli_21, qli_22, qli_23, qli_24, qli_25, qli_26, qli_31, qli_32, qli_37, qli_39, qli_40, qli_41, qli_42, qli_43, qli_45, qli_47, qli_48, qli_49, qli_50, qli_56, qli_57, qli_59, qli_60, qli_61, qli_63, qli_64, qli_96, qli_97, qli_99, qli_100, qli_101, qli_122, qli_126, qli_143, qli_144, qli_192, qli_200, qli_201, qli_216, qli_255, qli_256, qli_780, qli_799, qli_800, qli_801, qli_802, qli_880, qli_1000, qli_5760, qli_7040, qli_7920, qli_1000000, in_t, le_t, le_f, lt_t, lt_f, eq_t, eq_f, nI_add, nI_sub', nI_mul, nI_clamp, m1_ne, m1_ne', m1_lt, m1_le, m1_nlt, m1_nle, m1_add, eq_self, not_true_eq_false, not_false_eq_true, ne_eq, Nat.reduceLeDiff, Nat.reduceLT, and_true, true_and, and_self, or_true, true_or, or_false, false_or, false_and, and_false, qK_pi, qK_pr, qK_wi, qK_wl, qK_wo, qK_xi, qK_xo, qfr_pi', qfr_wi', qfr_wl', qfr_wo', qfr_xi', qfr_xo', qfi_pr, qfi_wi, qfi_wl, qfi_wo, qfi_xi, qfi_xo, qln_pi, qln_pr, qln_wi, qln_wl, qln_wo, qln_xi, qln_xo, qri_pi, qri_pr, qri_wl, qri_wo, qri_xo, qrl_pi, qrl_pr, qrl_wi, qrl_wo, qrl_xi, qrl_xo, qro_pi, qro_pr, qro_wi, qro_wl, qro_xi, qnx_pi, qnx_pr, qnx_wi, qnx_wl, qnx_wo, qnx_xi, qnx_xo, qsa_pi, qsa_wi, qsa_wl, qsa_pr, qsa_wo, fi_pi_at, fi_pi_nk, fi_pi_na, ri_wi_at, ri_wi_ne, ri_wi_nj, rl_wl_at, rl_wl_ne, rl_wl_nj, fr_pr_at, fr_pr_nk, fr_pr_na, d0, ↓n_s d6, d9, ↓cSl d7]
theorem e_tdb {d e : Nat} (h : CI S x A M v) (hw : wM M) (hd : d < m_D M) (he : e < m_D M) : f_X1_tensDeniedBy S (a_d A d) (a_d A e) = some (nI (sm (td M d e) (m_nl M d)), S) := by
  have hnl := wM_nl hw d
  obtain ⟨d0, d1, d2, d3, d4, d5, d6, d7, d8⟩ := CI_d h hd
  have d9 := d7.1
  have f0 := (CI_d h he).1
  have f2 := (CI_d h he).2.2.1
  have hp := (wM_dd hw e).2.1
  unfold f_X1_tensDeniedBy
  refine w_cnt0 (m_nl M d) (fun k => (S, nI (sm (td M d e) k), nI k)) (fun k hk rec => ?_) (fun rec => ?_) c_N 0 (by omega) (N_big (by omega))
  · obtain ⟨b1, b2, b3, b4, b5, b6, b7⟩ := wM_lv hw hk
    obtain ⟨l0, l1, l2, l3, l4, l5, l6⟩ := d8 k hk
    have et := e_tw h hw hd he hk
    clear h
    have e9 : sm (td M d e) (k + 1) = sm (td M d e) k + td M d e k := rfl
    rw [e9]
    generalize sm (td M d e) k = acc
    have eh := e_holds (S := S) b7 (show m_dd M e 1 < 8 by omega)
    have eo : td M d e k = if wh M d k (m_dd M e 1) = 0 then 0 else sm (tn M e d k) (m_nl M e) := rfl
    have ew : m_lv M d k 5 / 2 ^ m_dd M e 1 % 2 = wh M d k (m_dd M e 1) := rfl
    rw [ew] at eh
    rw [eo]
    rcases wh_01 (M := M) d k (m_dd M e 1) with z | z
    · rw [z] at eh
      rw [if_pos z]
      simp (disch := first | omega | assumption | (repeat first | assumption | apply RS_pi | apply RS_wi | apply RS_wl | apply CS_pi | apply CS_wi | apply CS_wl | apply CS_wo | apply CS_xo | apply RI_w15 | apply RI_w16 | apply RI_w17 | apply RI_w26 | apply RI_w27 | apply RI_w28 | apply RI_p1000)) only [b_X1_tensDeniedBy_4, j_X1_tensDeniedBy_56, ↓reduceIte, ↓xg, ↓xi, ↓xl_wi, ↓xl_wl, ↓xl_pi, ↓xlI, ↓xlL, ↓xlN, xl, ↓xn, ↓xc, ↓xon, ↓xos, ↓ln_1, ↓ln_2, ↓ln_3, ↓ln_8, qli_0, qli_1, qli_2, qli_3, qli_4, qli_5, qli_6, qli_7, qli_8, qli_9, qli_10, qli_11, qli_12, qli_13, qli_14, qli_15, qli_16, qli_17, qli_18, qli_19, qli_20, qli_21, qli_22, qli_23, qli_24, qli_25, qli_26, qli_31, qli_32, qli_37, qli_39, qli_40, qli_41, qli_42, qli_43, qli_45, qli_47, qli_48, qli_49, qli_50, qli_56, qli_57, qli_59, qli_60, qli_61, qli_63, qli_64, qli_96, qli_97, qli_99, qli_100, qli_101, qli_122, qli_126, qli_143, qli_144, qli_192, qli_200, qli_201, qli_216, qli_255, qli_256, qli_780, qli_799, qli_800, qli_801, qli_802, qli_880, qli_1000, qli_5760, qli_7040, qli_7920, qli_1000000, in_t, le_t, le_f, lt_t, lt_f, eq_t, eq_f, nI_add, nI_sub', nI_mul, nI_clamp, m1_ne, m1_ne', m1_lt, m1_le, m1_nlt, m1_nle, m1_add, eq_self, not_true_eq_false, not_false_eq_true, ne_eq, Nat.reduceLeDiff, Nat.reduceLT, and_true, true_and, and_self, or_true, true_or, or_false, false_or, false_and, and_false, qK_pi, qK_pr, qK_wi, qK_wl, qK_wo, qK_xi, qK_xo, qfr_pi', qfr_wi', qfr_wl', qfr_wo', qfr_xi', qfr_xo', qfi_pr, qfi_wi, qfi_wl, qfi_wo, qfi_xi, qfi_xo, qln_pi, qln_pr, qln_wi, qln_wl, qln_wo, qln_xi, qln_xo, qri_pi, qri_pr, qri_wl, qri_wo, qri_xo, qrl_pi, qrl_pr, qrl_wi, qrl_wo, qrl_xi, qrl_xo, qro_pi, qro_pr, qro_wi, qro_wl, qro_xi, qnx_pi, qnx_pr, qnx_wi, qnx_wl, qnx_wo, qnx_xi, qnx_xo, qsa_pi, qsa_wi, qsa_wl, qsa_pr, qsa_wo, fi_pi_at, fi_pi_nk, fi_pi_na, ri_wi_at, ri_wi_ne, ri_wi_nj, rl_wl_at, rl_wl_ne, rl_wl_nj, fr_pr_at, fr_pr_nk, fr_pr_na, d0, ↓n_s d6, d9, ↓cSl d7, ↓cGl d7 hk (by omega), l0, l6, f0, f2, eh, xc, Nat.add_zero]
    · rw [z] at eh
      rw [if_neg (by omega)]
      simp (disch := first | omega | assumption | (repeat first | assumption | apply RS_pi | apply RS_wi | apply RS_wl | apply CS_pi | apply CS_wi | apply CS_wl | apply CS_wo | apply CS_xo | apply RI_w15 | apply RI_w16 | apply RI_w17 | apply RI_w26 | apply RI_w27 | apply RI_w28 | apply RI_p1000)) only [b_X1_tensDeniedBy_4, j_X1_tensDeniedBy_56, ↓reduceIte, ↓xg, ↓xi, ↓xl_wi, ↓xl_wl, ↓xl_pi, ↓xlI, ↓xlL, ↓xlN, xl, ↓xn, ↓xc, ↓xon, ↓xos, ↓ln_1, ↓ln_2, ↓ln_3, ↓ln_8, qli_0, qli_1, qli_2, qli_3, qli_4, qli_5, qli_6, qli_7, qli_8, qli_9, qli_10, qli_11, qli_12, qli_13, qli_14, qli_15, qli_16, qli_17, qli_18, qli_19, qli_20, qli_21, qli_22, qli_23, qli_24, qli_25, qli_26, qli_31, qli_32, qli_37, qli_39, qli_40, qli_41, qli_42, qli_43, qli_45, qli_47, qli_48, qli_49, qli_50, qli_56, qli_57, qli_59, qli_60, qli_61, qli_63, qli_64, qli_96, qli_97, qli_99, qli_100, qli_101, qli_122, qli_126, qli_143, qli_144, qli_192, qli_200, qli_201, qli_216, qli_255, qli_256, qli_780, qli_799, qli_800, qli_801, qli_802, qli_880, qli_1000, qli_5760, qli_7040, qli_7920, qli_1000000, in_t, le_t, le_f, lt_t, lt_f, eq_t, eq_f, nI_add, nI_sub', nI_mul, nI_clamp, m1_ne, m1_ne', m1_lt, m1_le, m1_nlt, m1_nle, m1_add, eq_self, not_true_eq_false, not_false_eq_true, ne_eq, Nat.reduceLeDiff, Nat.reduceLT, and_true, true_and, and_self, or_true, true_or, or_false, false_or, false_and, and_false, qK_pi, qK_pr, qK_wi, qK_wl, qK_wo, qK_xi, qK_xo, qfr_pi', qfr_wi', qfr_wl', qfr_wo', qfr_xi', qfr_xo', qfi_pr, qfi_wi, qfi_wl, qfi_wo, qfi_xi, qfi_xo, qln_pi, qln_pr, qln_wi, qln_wl, qln_wo, qln_xi, qln_xo, qri_pi, qri_pr, qri_wl, qri_wo, qri_xo, qrl_pi, qrl_pr, qrl_wi, qrl_wo, qrl_xi, qrl_xo, qro_pi, qro_pr, qro_wi, qro_wl, qro_xi, qnx_pi, qnx_pr, qnx_wi, qnx_wl, qnx_wo, qnx_xi, qnx_xo, qsa_pi, qsa_wi, qsa_wl, qsa_pr, qsa_wo, fi_pi_at, fi_pi_nk, fi_pi_na, ri_wi_at, ri_wi_ne, ri_wi_nj, rl_wl_at, rl_wl_ne, rl_wl_nj, fr_pr_at, fr_pr_nk, fr_pr_na, d0, ↓n_s d6, d9, ↓cSl d7, ↓cGl d7 hk (by omega), l0, l6, f0, f2, eh, xc, d2, et]
  · simp (disch := first | omega | assumption | (repeat first | assumption | apply RS_pi | apply RS_wi | apply RS_wl | apply CS_pi | apply CS_wi | apply CS_wl | apply CS_wo | apply CS_xo | apply RI_w15 | apply RI_w16 | apply RI_w17 | apply RI_w26 | apply RI_w27 | apply RI_w28 | apply RI_p1000)) only [b_X1_tensDeniedBy_4, ↓reduceIte, ↓xg, ↓xi, ↓xl_wi, ↓xl_wl, ↓xl_pi, ↓xlI, ↓xlL, ↓xlN, xl, ↓xn, ↓xc, ↓xon, ↓xos, ↓ln_1, ↓ln_2, ↓ln_3, ↓ln_8, qli_0, qli_1, qli_2, qli_3, qli_4, qli_5, qli_6, qli_7, qli_8, qli_9, qli_10, qli_11, qli_12, qli_13, qli_14, qli_15, qli_16, qli_17, qli_18, qli_19, qli_20, qli_21, qli_22, qli_23, qli_24, qli_25, qli_26, qli_31, qli_32, qli_37, qli_39, qli_40, qli_41, qli_42, qli_43, qli_45, qli_47, qli_48, qli_49, qli_50, qli_56, qli_57, qli_59, qli_60, qli_61, qli_63, qli_64, qli_96, qli_97, qli_99, qli_100, qli_101, qli_122, qli_126, qli_143, qli_144, qli_192, qli_200, qli_201, qli_216, qli_255, qli_256, qli_780, qli_799, qli_800, qli_801, qli_802, qli_880, qli_1000, qli_5760, qli_7040, qli_7920, qli_1000000, in_t, le_t, le_f, lt_t, lt_f, eq_t, eq_f, nI_add, nI_sub', nI_mul, nI_clamp, m1_ne, m1_ne', m1_lt, m1_le, m1_nlt, m1_nle, m1_add, eq_self, not_true_eq_false, not_false_eq_true, ne_eq, Nat.reduceLeDiff, Nat.reduceLT, and_true, true_and, and_self, or_true, true_or, or_false, false_or, false_and, and_false, qK_pi, qK_pr, qK_wi, qK_wl, qK_wo, qK_xi, qK_xo, qfr_pi', qfr_wi', qfr_wl', qfr_wo', qfr_xi', qfr_xo', qfi_pr, qfi_wi, qfi_wl, qfi_wo, qfi_xi, qfi_xo, qln_pi, qln_pr, qln_wi, qln_wl, qln_wo, qln_xi, qln_xo, qri_pi, qri_pr, qri_wl, qri_wo, qri_xo, qrl_pi, qrl_pr, qrl_wi, qrl_wo, qrl_xi, qrl_xo, qro_pi, qro_pr, qro_wi, qro_wl, qro_xi, qnx_pi, qnx_pr, qnx_wi, qnx_wl, qnx_wo, qnx_xi, qnx_xo, qsa_pi, qsa_wi, qsa_wl, qsa_pr, qsa_wo, fi_pi_at, fi_pi_nk, fi_pi_na, ri_wi_at, ri_wi_ne, ri_wi_nj, rl_wl_at, rl_wl_ne, rl_wl_nj, fr_pr_at, fr_pr_nk, fr_pr_na, d0, ↓n_s d6, d9, ↓cSl d7]
end QA
