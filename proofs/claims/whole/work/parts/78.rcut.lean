/-! text: the reference cuts a text into tokens -/
section RC
variable {β : Type} {S S' S0 T : st_T} {m x v n z : Nat} {M : mT} {A : aT} {L : List (Nat × Nat × Nat)} {w p : Nat} {ts : Nat → Nat}
def RCQ (S : st_T) (m : Nat) (M : mT) (T : st_T) : Prop := RTok T m (tks M) ∧ st_fi T 1007 m = nI 0 ∧ st_fi T 1008 m = nI 0 ∧ st_fi T 1002 m = nI 0 ∧ fq (tR m) (tF m) S T
theorem r_hd {a c k : Nat} {rec : st_T × Int32 × Int32 → Option (Unit × st_T)} (hs : RS T m) (h3 : st_fi T 1003 m = nI z) (ha : a < z) (hz : z ≤ 800) (hk : k ≤ 800) (ri : st_ri T (m + 1) a = nI c) (c5 : c ≠ 10) (c6 : c ≠ 32) (hc : c ≤ 126) : b_X9_cutAll_17 m rec (T, nI k, nI a) = (c_c (f_X9_isLetter (st_wi T (m + 3) k (nI a)) (nI c)) (fun (r64 : Int32) (T64 : st_T) => (c_i (r64 = 0) (c_c (f_X9_isDigit T64 (nI c)) (fun (r153 : Int32) (T153 : st_T) => (c_i (r153 = 0) (c_l ((nI c : Int32).toInt64) (fun (z5_242 : Int64) => (c_g (st_K T153 m = 11) (c_n (st_fr T153 1004 m) (fun (q245 : Nat) => (c_c (f_X9_isSignOf T153 (nI c)) (fun (r250 : Int32) (T250 : st_T) => (c_i (r250 = 0) (j_X9_cutAll_261 m rec (nI k) (nI a) z5_242 q245 T250 4) (j_X9_cutAll_261 m rec (nI k) (nI a) z5_242 q245 T250 3))))))))) (c_w (b_X9_cutAll_159 m rec (nI k) (nI a)) c_N (T153, nI a, 0))))) (c_w (b_X9_cutAll_70 m rec (nI k) (nI a)) c_N (T64, nI a, 0))))) := by
  have hv : st_ri T (m + 1) (nI a).toNatClampNeg = nI c := by rw [nI_clamp (by omega)]; exact ri
  have l1 : st_ln T (m + 1) = 800 := by simp only [hs]
  have l3 : st_ln T (m + 3) = 802 := by simp only [hs]
  have k1 : st_K T (m + 1) = 20 := by simp only [hs]
  have k3 : st_K T (m + 3) = 20 := by simp only [hs]
  have n10 : ¬ nI c = (10 : Int32) := neF (a := c) (b := 10) c5 (by omega) (by omega)
  have n32 : ¬ nI c = (32 : Int32) := neF (a := c) (b := 32) c6 (by omega) (by omega)
  have nz : ¬ nI z ≤ nI a := of_eq_false (le_f (a := z) (b := a) (by omega) (by omega))
  unfold b_X9_cutAll_17
  dsimp only
  rw [g_t hs.1, h3, i_f nz, rn_1001 hs, g_t k1, g_t (by rw [l1]; exact of_eq_true (in_t (by omega) (by omega))), hv]
  rw [xl, i_f n10, i_f n32, rn_1005 hs, g_t k3, g_t (by rw [l3]; exact of_eq_true (in_t (by omega) (by omega))), xl, nI_clamp (by omega)]
theorem r_let {c : Nat} (hc : c ≤ 126) : f_X9_isLetter T (nI c) = some (nI (if 97 ≤ c ∧ c ≤ 122 then 1 else 0), T) := by
  unfold f_X9_isLetter
  by_cases c1 : c < 97
  · rw [if_neg (by omega)]
    simp (disch := first | omega | assumption | (repeat first | assumption | apply RS_pi | apply RS_wi | apply RS_wl | apply CS_pi | apply CS_wi | apply CS_wl | apply CS_wo | apply CS_xo | apply RI_w15 | apply RI_w16 | apply RI_w17 | apply RI_w26 | apply RI_w27 | apply RI_w28 | apply RI_p1000)) only [↓reduceIte, ↓xg, ↓xi, ↓xl_wi, ↓xl_wl, ↓xl_pi, ↓xlI, ↓xlL, ↓xlN, xl, ↓xn, ↓xc, ↓xon, ↓xos, ↓ln_1, ↓ln_2, ↓ln_3, ↓ln_8, qli_0, qli_1, qli_2, qli_3, qli_4, qli_5, qli_6, qli_7, qli_8, qli_9, qli_10, qli_11, qli_12, qli_13, qli_14, qli_15, qli_16, qli_17, qli_18, qli_19, qli_20, qli_21, qli_22, qli_23, qli_24, qli_25, qli_26, qli_31, qli_32, qli_37, qli_39, qli_40, qli_41, qli_42, qli_43, qli_45, qli_47, qli_48, qli_49, qli_50, qli_56, qli_57, qli_59, qli_60, qli_61, qli_63, qli_64, qli_96, qli_97, qli_99, qli_100, qli_101, qli_122, qli_126, qli_143, qli_144, qli_192, qli_200, qli_201, qli_216, qli_255, qli_256, qli_780, qli_799, qli_800, qli_801, qli_802, qli_880, qli_1000, qli_5760, qli_7040, qli_7920, qli_1000000, in_t, le_t, le_f, lt_t, lt_f, eq_t, eq_f, nI_add, nI_sub', nI_mul, nI_clamp, m1_ne, m1_ne', m1_lt, m1_le, m1_nlt, m1_nle, m1_add, eq_self, not_true_eq_false, not_false_eq_true, ne_eq, Nat.reduceLeDiff, Nat.reduceLT, and_true, true_and, and_self, or_true, true_or, or_false, false_or, false_and, and_false, qK_pi, qK_pr, qK_wi, qK_wl, qK_wo, qK_xi, qK_xo, qfr_pi', qfr_wi', qfr_wl', qfr_wo', qfr_xi', qfr_xo', qfi_pr, qfi_wi, qfi_wl, qfi_wo, qfi_xi, qfi_xo, qln_pi, qln_pr, qln_wi, qln_wl, qln_wo, qln_xi, qln_xo, qri_pi, qri_pr, qri_wl, qri_wo, qri_xo, qrl_pi, qrl_pr, qrl_wi, qrl_wo, qrl_xi, qrl_xo, qro_pi, qro_pr, qro_wi, qro_wl, qro_xi, qnx_pi, qnx_pr, qnx_wi, qnx_wl, qnx_wo, qnx_xi, qnx_xo, qsa_pi, qsa_wi, qsa_wl, qsa_pr, qsa_wo, fi_pi_at, fi_pi_nk, fi_pi_na, ri_wi_at, ri_wi_ne, ri_wi_nj, rl_wl_at, rl_wl_ne, rl_wl_nj, fr_pr_at, fr_pr_nk, fr_pr_na]
  · by_cases c2 : 122 < c
    · rw [if_neg (by omega)]
      simp (disch := first | omega | assumption | (repeat first | assumption | apply RS_pi | apply RS_wi | apply RS_wl | apply CS_pi | apply CS_wi | apply CS_wl | apply CS_wo | apply CS_xo | apply RI_w15 | apply RI_w16 | apply RI_w17 | apply RI_w26 | apply RI_w27 | apply RI_w28 | apply RI_p1000)) only [↓reduceIte, ↓xg, ↓xi, ↓xl_wi, ↓xl_wl, ↓xl_pi, ↓xlI, ↓xlL, ↓xlN, xl, ↓xn, ↓xc, ↓xon, ↓xos, ↓ln_1, ↓ln_2, ↓ln_3, ↓ln_8, qli_0, qli_1, qli_2, qli_3, qli_4, qli_5, qli_6, qli_7, qli_8, qli_9, qli_10, qli_11, qli_12, qli_13, qli_14, qli_15, qli_16, qli_17, qli_18, qli_19, qli_20, qli_21, qli_22, qli_23, qli_24, qli_25, qli_26, qli_31, qli_32, qli_37, qli_39, qli_40, qli_41, qli_42, qli_43, qli_45, qli_47, qli_48, qli_49, qli_50, qli_56, qli_57, qli_59, qli_60, qli_61, qli_63, qli_64, qli_96, qli_97, qli_99, qli_100, qli_101, qli_122, qli_126, qli_143, qli_144, qli_192, qli_200, qli_201, qli_216, qli_255, qli_256, qli_780, qli_799, qli_800, qli_801, qli_802, qli_880, qli_1000, qli_5760, qli_7040, qli_7920, qli_1000000, in_t, le_t, le_f, lt_t, lt_f, eq_t, eq_f, nI_add, nI_sub', nI_mul, nI_clamp, m1_ne, m1_ne', m1_lt, m1_le, m1_nlt, m1_nle, m1_add, eq_self, not_true_eq_false, not_false_eq_true, ne_eq, Nat.reduceLeDiff, Nat.reduceLT, and_true, true_and, and_self, or_true, true_or, or_false, false_or, false_and, and_false, qK_pi, qK_pr, qK_wi, qK_wl, qK_wo, qK_xi, qK_xo, qfr_pi', qfr_wi', qfr_wl', qfr_wo', qfr_xi', qfr_xo', qfi_pr, qfi_wi, qfi_wl, qfi_wo, qfi_xi, qfi_xo, qln_pi, qln_pr, qln_wi, qln_wl, qln_wo, qln_xi, qln_xo, qri_pi, qri_pr, qri_wl, qri_wo, qri_xo, qrl_pi, qrl_pr, qrl_wi, qrl_wo, qrl_xi, qrl_xo, qro_pi, qro_pr, qro_wi, qro_wl, qro_xi, qnx_pi, qnx_pr, qnx_wi, qnx_wl, qnx_wo, qnx_xi, qnx_xo, qsa_pi, qsa_wi, qsa_wl, qsa_pr, qsa_wo, fi_pi_at, fi_pi_nk, fi_pi_na, ri_wi_at, ri_wi_ne, ri_wi_nj, rl_wl_at, rl_wl_ne, rl_wl_nj, fr_pr_at, fr_pr_nk, fr_pr_na]
    · rw [if_pos (by omega)]
      simp (disch := first | omega | assumption | (repeat first | assumption | apply RS_pi | apply RS_wi | apply RS_wl | apply CS_pi | apply CS_wi | apply CS_wl | apply CS_wo | apply CS_xo | apply RI_w15 | apply RI_w16 | apply RI_w17 | apply RI_w26 | apply RI_w27 | apply RI_w28 | apply RI_p1000)) only [↓reduceIte, ↓xg, ↓xi, ↓xl_wi, ↓xl_wl, ↓xl_pi, ↓xlI, ↓xlL, ↓xlN, xl, ↓xn, ↓xc, ↓xon, ↓xos, ↓ln_1, ↓ln_2, ↓ln_3, ↓ln_8, qli_0, qli_1, qli_2, qli_3, qli_4, qli_5, qli_6, qli_7, qli_8, qli_9, qli_10, qli_11, qli_12, qli_13, qli_14, qli_15, qli_16, qli_17, qli_18, qli_19, qli_20, qli_21, qli_22, qli_23, qli_24, qli_25, qli_26, qli_31, qli_32, qli_37, qli_39, qli_40, qli_41, qli_42, qli_43, qli_45, qli_47, qli_48, qli_49, qli_50, qli_56, qli_57, qli_59, qli_60, qli_61, qli_63, qli_64, qli_96, qli_97, qli_99, qli_100, qli_101, qli_122, qli_126, qli_143, qli_144, qli_192, qli_200, qli_201, qli_216, qli_255, qli_256, qli_780, qli_799, qli_800, qli_801, qli_802, qli_880, qli_1000, qli_5760, qli_7040, qli_7920, qli_1000000, in_t, le_t, le_f, lt_t, lt_f, eq_t, eq_f, nI_add, nI_sub', nI_mul, nI_clamp, m1_ne, m1_ne', m1_lt, m1_le, m1_nlt, m1_nle, m1_add, eq_self, not_true_eq_false, not_false_eq_true, ne_eq, Nat.reduceLeDiff, Nat.reduceLT, and_true, true_and, and_self, or_true, true_or, or_false, false_or, false_and, and_false, qK_pi, qK_pr, qK_wi, qK_wl, qK_wo, qK_xi, qK_xo, qfr_pi', qfr_wi', qfr_wl', qfr_wo', qfr_xi', qfr_xo', qfi_pr, qfi_wi, qfi_wl, qfi_wo, qfi_xi, qfi_xo, qln_pi, qln_pr, qln_wi, qln_wl, qln_wo, qln_xi, qln_xo, qri_pi, qri_pr, qri_wl, qri_wo, qri_xo, qrl_pi, qrl_pr, qrl_wi, qrl_wo, qrl_xi, qrl_xo, qro_pi, qro_pr, qro_wi, qro_wl, qro_xi, qnx_pi, qnx_pr, qnx_wi, qnx_wl, qnx_wo, qnx_xi, qnx_xo, qsa_pi, qsa_wi, qsa_wl, qsa_pr, qsa_wo, fi_pi_at, fi_pi_nk, fi_pi_na, ri_wi_at, ri_wi_ne, ri_wi_nj, rl_wl_at, rl_wl_ne, rl_wl_nj, fr_pr_at, fr_pr_nk, fr_pr_na]
theorem r_dig {c : Nat} (hc : c ≤ 126) : f_X9_isDigit T (nI c) = some (nI (if 48 ≤ c ∧ c ≤ 57 then 1 else 0), T) := by
  unfold f_X9_isDigit
  by_cases c1 : c < 48
  · rw [if_neg (by omega)]
    simp (disch := first | omega | assumption | (repeat first | assumption | apply RS_pi | apply RS_wi | apply RS_wl | apply CS_pi | apply CS_wi | apply CS_wl | apply CS_wo | apply CS_xo | apply RI_w15 | apply RI_w16 | apply RI_w17 | apply RI_w26 | apply RI_w27 | apply RI_w28 | apply RI_p1000)) only [↓reduceIte, ↓xg, ↓xi, ↓xl_wi, ↓xl_wl, ↓xl_pi, ↓xlI, ↓xlL, ↓xlN, xl, ↓xn, ↓xc, ↓xon, ↓xos, ↓ln_1, ↓ln_2, ↓ln_3, ↓ln_8, qli_0, qli_1, qli_2, qli_3, qli_4, qli_5, qli_6, qli_7, qli_8, qli_9, qli_10, qli_11, qli_12, qli_13, qli_14, qli_15, qli_16, qli_17, qli_18, qli_19, qli_20, qli_21, qli_22, qli_23, qli_24, qli_25, qli_26, qli_31, qli_32, qli_37, qli_39, qli_40, qli_41, qli_42, qli_43, qli_45, qli_47, qli_48, qli_49, qli_50, qli_56, qli_57, qli_59, qli_60, qli_61, qli_63, qli_64, qli_96, qli_97, qli_99, qli_100, qli_101, qli_122, qli_126, qli_143, qli_144, qli_192, qli_200, qli_201, qli_216, qli_255, qli_256, qli_780, qli_799, qli_800, qli_801, qli_802, qli_880, qli_1000, qli_5760, qli_7040, qli_7920, qli_1000000, in_t, le_t, le_f, lt_t, lt_f, eq_t, eq_f, nI_add, nI_sub', nI_mul, nI_clamp, m1_ne, m1_ne', m1_lt, m1_le, m1_nlt, m1_nle, m1_add, eq_self, not_true_eq_false, not_false_eq_true, ne_eq, Nat.reduceLeDiff, Nat.reduceLT, and_true, true_and, and_self, or_true, true_or, or_false, false_or, false_and, and_false, qK_pi, qK_pr, qK_wi, qK_wl, qK_wo, qK_xi, qK_xo, qfr_pi', qfr_wi', qfr_wl', qfr_wo', qfr_xi', qfr_xo', qfi_pr, qfi_wi, qfi_wl, qfi_wo, qfi_xi, qfi_xo, qln_pi, qln_pr, qln_wi, qln_wl, qln_wo, qln_xi, qln_xo, qri_pi, qri_pr, qri_wl, qri_wo, qri_xo, qrl_pi, qrl_pr, qrl_wi, qrl_wo, qrl_xi, qrl_xo, qro_pi, qro_pr, qro_wi, qro_wl, qro_xi, qnx_pi, qnx_pr, qnx_wi, qnx_wl, qnx_wo, qnx_xi, qnx_xo, qsa_pi, qsa_wi, qsa_wl, qsa_pr, qsa_wo, fi_pi_at, fi_pi_nk, fi_pi_na, ri_wi_at, ri_wi_ne, ri_wi_nj, rl_wl_at, rl_wl_ne, rl_wl_nj, fr_pr_at, fr_pr_nk, fr_pr_na]
  · by_cases c2 : 57 < c
    · rw [if_neg (by omega)]
      simp (disch := first | omega | assumption | (repeat first | assumption | apply RS_pi | apply RS_wi | apply RS_wl | apply CS_pi | apply CS_wi | apply CS_wl | apply CS_wo | apply CS_xo | apply RI_w15 | apply RI_w16 | apply RI_w17 | apply RI_w26 | apply RI_w27 | apply RI_w28 | apply RI_p1000)) only [↓reduceIte, ↓xg, ↓xi, ↓xl_wi, ↓xl_wl, ↓xl_pi, ↓xlI, ↓xlL, ↓xlN, xl, ↓xn, ↓xc, ↓xon, ↓xos, ↓ln_1, ↓ln_2, ↓ln_3, ↓ln_8, qli_0, qli_1, qli_2, qli_3, qli_4, qli_5, qli_6, qli_7, qli_8, qli_9, qli_10, qli_11, qli_12, qli_13, qli_14, qli_15, qli_16, qli_17, qli_18, qli_19, qli_20, qli_21, qli_22, qli_23, qli_24, qli_25, qli_26, qli_31, qli_32, qli_37, qli_39, qli_40, qli_41, qli_42, qli_43, qli_45, qli_47, qli_48, qli_49, qli_50, qli_56, qli_57, qli_59, qli_60, qli_61, qli_63, qli_64, qli_96, qli_97, qli_99, qli_100, qli_101, qli_122, qli_126, qli_143, qli_144, qli_192, qli_200, qli_201, qli_216, qli_255, qli_256, qli_780, qli_799, qli_800, qli_801, qli_802, qli_880, qli_1000, qli_5760, qli_7040, qli_7920, qli_1000000, in_t, le_t, le_f, lt_t, lt_f, eq_t, eq_f, nI_add, nI_sub', nI_mul, nI_clamp, m1_ne, m1_ne', m1_lt, m1_le, m1_nlt, m1_nle, m1_add, eq_self, not_true_eq_false, not_false_eq_true, ne_eq, Nat.reduceLeDiff, Nat.reduceLT, and_true, true_and, and_self, or_true, true_or, or_false, false_or, false_and, and_false, qK_pi, qK_pr, qK_wi, qK_wl, qK_wo, qK_xi, qK_xo, qfr_pi', qfr_wi', qfr_wl', qfr_wo', qfr_xi', qfr_xo', qfi_pr, qfi_wi, qfi_wl, qfi_wo, qfi_xi, qfi_xo, qln_pi, qln_pr, qln_wi, qln_wl, qln_wo, qln_xi, qln_xo, qri_pi, qri_pr, qri_wl, qri_wo, qri_xo, qrl_pi, qrl_pr, qrl_wi, qrl_wo, qrl_xi, qrl_xo, qro_pi, qro_pr, qro_wi, qro_wl, qro_xi, qnx_pi, qnx_pr, qnx_wi, qnx_wl, qnx_wo, qnx_xi, qnx_xo, qsa_pi, qsa_wi, qsa_wl, qsa_pr, qsa_wo, fi_pi_at, fi_pi_nk, fi_pi_na, ri_wi_at, ri_wi_ne, ri_wi_nj, rl_wl_at, rl_wl_ne, rl_wl_nj, fr_pr_at, fr_pr_nk, fr_pr_na]
    · rw [if_pos (by omega)]
      simp (disch := first | omega | assumption | (repeat first | assumption | apply RS_pi | apply RS_wi | apply RS_wl | apply CS_pi | apply CS_wi | apply CS_wl | apply CS_wo | apply CS_xo | apply RI_w15 | apply RI_w16 | apply RI_w17 | apply RI_w26 | apply RI_w27 | apply RI_w28 | apply RI_p1000)) only [↓reduceIte, ↓xg, ↓xi, ↓xl_wi, ↓xl_wl, ↓xl_pi, ↓xlI, ↓xlL, ↓xlN, xl, ↓xn, ↓xc, ↓xon, ↓xos, ↓ln_1, ↓ln_2, ↓ln_3, ↓ln_8, qli_0, qli_1, qli_2, qli_3, qli_4, qli_5, qli_6, qli_7, qli_8, qli_9, qli_10, qli_11, qli_12, qli_13, qli_14, qli_15, qli_16, qli_17, qli_18, qli_19, qli_20, qli_21, qli_22, qli_23, qli_24, qli_25, qli_26, qli_31, qli_32, qli_37, qli_39, qli_40, qli_41, qli_42, qli_43, qli_45, qli_47, qli_48, qli_49, qli_50, qli_56, qli_57, qli_59, qli_60, qli_61, qli_63, qli_64, qli_96, qli_97, qli_99, qli_100, qli_101, qli_122, qli_126, qli_143, qli_144, qli_192, qli_200, qli_201, qli_216, qli_255, qli_256, qli_780, qli_799, qli_800, qli_801, qli_802, qli_880, qli_1000, qli_5760, qli_7040, qli_7920, qli_1000000, in_t, le_t, le_f, lt_t, lt_f, eq_t, eq_f, nI_add, nI_sub', nI_mul, nI_clamp, m1_ne, m1_ne', m1_lt, m1_le, m1_nlt, m1_nle, m1_add, eq_self, not_true_eq_false, not_false_eq_true, ne_eq, Nat.reduceLeDiff, Nat.reduceLT, and_true, true_and, and_self, or_true, true_or, or_false, false_or, false_and, and_false, qK_pi, qK_pr, qK_wi, qK_wl, qK_wo, qK_xi, qK_xo, qfr_pi', qfr_wi', qfr_wl', qfr_wo', qfr_xi', qfr_xo', qfi_pr, qfi_wi, qfi_wl, qfi_wo, qfi_xi, qfi_xo, qln_pi, qln_pr, qln_wi, qln_wl, qln_wo, qln_xi, qln_xo, qri_pi, qri_pr, qri_wl, qri_wo, qri_xo, qrl_pi, qrl_pr, qrl_wi, qrl_wo, qrl_xi, qrl_xo, qro_pi, qro_pr, qro_wi, qro_wl, qro_xi, qnx_pi, qnx_pr, qnx_wi, qnx_wl, qnx_wo, qnx_xi, qnx_xo, qsa_pi, qsa_wi, qsa_wl, qsa_pr, qsa_wo, fi_pi_at, fi_pi_nk, fi_pi_na, ri_wi_at, ri_wi_ne, ri_wi_nj, rl_wl_at, rl_wl_ne, rl_wl_nj, fr_pr_at, fr_pr_nk, fr_pr_na]
theorem r_261 {a k u : Nat} {y : Int64} {rec : st_T × Int32 × Int32 → Option (Unit × st_T)} (hs : RS T m) (hk : k ≤ 800) (ha : a ≤ 800) : j_X9_cutAll_261 m rec (nI k) (nI a) y (m + 2) T (nI u) = rec (st_wl (st_wi T (m + 2) k (nI u)) (m + 4) k y, nI (k + 1), nI (a + 1)) := by
  unfold j_X9_cutAll_261 j_X9_cutAll_265
  simp (disch := first | omega | assumption | (repeat first | assumption | apply RS_pi | apply RS_wi | apply RS_wl | apply CS_pi | apply CS_wi | apply CS_wl | apply CS_wo | apply CS_xo | apply RI_w15 | apply RI_w16 | apply RI_w17 | apply RI_w26 | apply RI_w27 | apply RI_w28 | apply RI_p1000)) only [↓reduceIte, ↓xg, ↓xi, ↓xl_wi, ↓xl_wl, ↓xl_pi, ↓xlI, ↓xlL, ↓xlN, xl, ↓xn, ↓xc, ↓xon, ↓xos, ↓ln_1, ↓ln_2, ↓ln_3, ↓ln_8, qli_0, qli_1, qli_2, qli_3, qli_4, qli_5, qli_6, qli_7, qli_8, qli_9, qli_10, qli_11, qli_12, qli_13, qli_14, qli_15, qli_16, qli_17, qli_18, qli_19, qli_20, qli_21, qli_22, qli_23, qli_24, qli_25, qli_26, qli_31, qli_32, qli_37, qli_39, qli_40, qli_41, qli_42, qli_43, qli_45, qli_47, qli_48, qli_49, qli_50, qli_56, qli_57, qli_59, qli_60, qli_61, qli_63, qli_64, qli_96, qli_97, qli_99, qli_100, qli_101, qli_122, qli_126, qli_143, qli_144, qli_192, qli_200, qli_201, qli_216, qli_255, qli_256, qli_780, qli_799, qli_800, qli_801, qli_802, qli_880, qli_1000, qli_5760, qli_7040, qli_7920, qli_1000000, in_t, le_t, le_f, lt_t, lt_f, eq_t, eq_f, nI_add, nI_sub', nI_mul, nI_clamp, m1_ne, m1_ne', m1_lt, m1_le, m1_nlt, m1_nle, m1_add, eq_self, not_true_eq_false, not_false_eq_true, ne_eq, Nat.reduceLeDiff, Nat.reduceLT, and_true, true_and, and_self, or_true, true_or, or_false, false_or, false_and, and_false, qK_pi, qK_pr, qK_wi, qK_wl, qK_wo, qK_xi, qK_xo, qfr_pi', qfr_wi', qfr_wl', qfr_wo', qfr_xi', qfr_xo', qfi_pr, qfi_wi, qfi_wl, qfi_wo, qfi_xi, qfi_xo, qln_pi, qln_pr, qln_wi, qln_wl, qln_wo, qln_xi, qln_xo, qri_pi, qri_pr, qri_wl, qri_wo, qri_xo, qrl_pi, qrl_pr, qrl_wi, qrl_wo, qrl_xi, qrl_xo, qro_pi, qro_pr, qro_wi, qro_wl, qro_xi, qnx_pi, qnx_pr, qnx_wi, qnx_wl, qnx_wo, qnx_xi, qnx_xo, qsa_pi, qsa_wi, qsa_wl, qsa_pr, qsa_wo, fi_pi_at, fi_pi_nk, fi_pi_na, ri_wi_at, ri_wi_ne, ri_wi_nj, rl_wl_at, rl_wl_ne, rl_wl_nj, fr_pr_at, fr_pr_nk, fr_pr_na, hs, ↓rn_1006]
theorem r_cut (h : RI S m M) (hw : wM M) : ok (f_X9_cutAll S m) (fun _ T => RCQ S m M T) := by
  have hz := wM_tz hw
  have hsS := RI_s h
  have t0 := RI_tz h
  have hts : ∀ i, m_ts M i ≤ 126 := fun i => by have := wM_ts hw i; omega
  obtain ⟨S1, hS1⟩ : ∃ S1, S1 = st_pi (st_pi S 1003 m (nI (m_tz M))) 1002 m (nI 0) := ⟨_, rfl⟩
  have g0 : fq (tR m) (tF m) S S1 := by
    rw [hS1]
    exact fq_pi (fq_pi fq_rf ⟨rfl, by omega⟩) ⟨rfl, by omega⟩
  have a1 : st_fi S1 1003 m = nI (m_tz M) := by rw [hS1, fi_pi_nk _ _ _ _ _ _ (by omega), fi_pi_at]
  have a2 : st_fi S1 1002 m = nI 0 := by rw [hS1, fi_pi_at]
  have st0 : f_X9_cutAll S m = c_w (b_X9_cutAll_17 m) c_N (S1, nI 0, nI 0) := by
    rw [hS1]
    unfold f_X9_cutAll
    clear h hw hts a1 a2 g0 hS1
    generalize c_N = N
    simp (disch := first | omega | assumption | (repeat first | assumption | apply RS_pi | apply RS_wi | apply RS_wl | apply CS_pi | apply CS_wi | apply CS_wl | apply CS_wo | apply CS_xo | apply RI_w15 | apply RI_w16 | apply RI_w17 | apply RI_w26 | apply RI_w27 | apply RI_w28 | apply RI_p1000)) only [↓reduceIte, ↓xg, ↓xi, ↓xl_wi, ↓xl_wl, ↓xl_pi, ↓xlI, ↓xlL, ↓xlN, xl, ↓xn, ↓xc, ↓xon, ↓xos, ↓ln_1, ↓ln_2, ↓ln_3, ↓ln_8, qli_0, qli_1, qli_2, qli_3, qli_4, qli_5, qli_6, qli_7, qli_8, qli_9, qli_10, qli_11, qli_12, qli_13, qli_14, qli_15, qli_16, qli_17, qli_18, qli_19, qli_20, qli_21, qli_22, qli_23, qli_24, qli_25, qli_26, qli_31, qli_32, qli_37, qli_39, qli_40, qli_41, qli_42, qli_43, qli_45, qli_47, qli_48, qli_49, qli_50, qli_56, qli_57, qli_59, qli_60, qli_61, qli_63, qli_64, qli_96, qli_97, qli_99, qli_100, qli_101, qli_122, qli_126, qli_143, qli_144, qli_192, qli_200, qli_201, qli_216, qli_255, qli_256, qli_780, qli_799, qli_800, qli_801, qli_802, qli_880, qli_1000, qli_5760, qli_7040, qli_7920, qli_1000000, in_t, le_t, le_f, lt_t, lt_f, eq_t, eq_f, nI_add, nI_sub', nI_mul, nI_clamp, m1_ne, m1_ne', m1_lt, m1_le, m1_nlt, m1_nle, m1_add, eq_self, not_true_eq_false, not_false_eq_true, ne_eq, Nat.reduceLeDiff, Nat.reduceLT, and_true, true_and, and_self, or_true, true_or, or_false, false_or, false_and, and_false, qK_pi, qK_pr, qK_wi, qK_wl, qK_wo, qK_xi, qK_xo, qfr_pi', qfr_wi', qfr_wl', qfr_wo', qfr_xi', qfr_xo', qfi_pr, qfi_wi, qfi_wl, qfi_wo, qfi_xi, qfi_xo, qln_pi, qln_pr, qln_wi, qln_wl, qln_wo, qln_xi, qln_xo, qri_pi, qri_pr, qri_wl, qri_wo, qri_xo, qrl_pi, qrl_pr, qrl_wi, qrl_wo, qrl_xi, qrl_xo, qro_pi, qro_pr, qro_wi, qro_wl, qro_xi, qnx_pi, qnx_pr, qnx_wi, qnx_wl, qnx_wo, qnx_xi, qnx_xo, qsa_pi, qsa_wi, qsa_wl, qsa_pr, qsa_wo, fi_pi_at, fi_pi_nk, fi_pi_na, ri_wi_at, ri_wi_ne, ri_wi_nj, rl_wl_at, rl_wl_ne, rl_wl_nj, fr_pr_at, fr_pr_nk, fr_pr_na, hsS, t0]
  rw [st0]
  clear st0 hS1
  -- the end
  have fin : ∀ (rec : st_T × Int32 × Int32 → Option (Unit × st_T)) T L0, L0 = toks (m_tz M) (m_ts M) 800 0 → RTok T m L0 → fq (tR m) (tF m) S T → st_fi T 1003 m = nI (m_tz M) → st_fi T 1002 m = nI 0 → L0.length ≤ 800 → ok (b_X9_cutAll_17 m rec (T, nI L0.length, nI (m_tz M))) (fun _ T => RCQ S m M T) := by
    intro rec T L0 hL ht hf f3 f2 hl
    have hs := RS_fq hsS hf
    have stp : b_X9_cutAll_17 m rec (T, nI L0.length, nI (m_tz M)) = some ((), st_pi (st_pi (st_wi (st_wi T (m + 2) L0.length (nI 0)) (m + 3) L0.length (nI (m_tz M))) 1007 m (nI 0)) 1008 m (nI 0)) := by
      clear h hw hts ht hf hL
      simp (disch := first | omega | assumption | (repeat first | assumption | apply RS_pi | apply RS_wi | apply RS_wl | apply CS_pi | apply CS_wi | apply CS_wl | apply CS_wo | apply CS_xo | apply RI_w15 | apply RI_w16 | apply RI_w17 | apply RI_w26 | apply RI_w27 | apply RI_w28 | apply RI_p1000)) only [b_X9_cutAll_17, ↓reduceIte, ↓xg, ↓xi, ↓xl_wi, ↓xl_wl, ↓xl_pi, ↓xlI, ↓xlL, ↓xlN, xl, ↓xn, ↓xc, ↓xon, ↓xos, ↓ln_1, ↓ln_2, ↓ln_3, ↓ln_8, qli_0, qli_1, qli_2, qli_3, qli_4, qli_5, qli_6, qli_7, qli_8, qli_9, qli_10, qli_11, qli_12, qli_13, qli_14, qli_15, qli_16, qli_17, qli_18, qli_19, qli_20, qli_21, qli_22, qli_23, qli_24, qli_25, qli_26, qli_31, qli_32, qli_37, qli_39, qli_40, qli_41, qli_42, qli_43, qli_45, qli_47, qli_48, qli_49, qli_50, qli_56, qli_57, qli_59, qli_60, qli_61, qli_63, qli_64, qli_96, qli_97, qli_99, qli_100, qli_101, qli_122, qli_126, qli_143, qli_144, qli_192, qli_200, qli_201, qli_216, qli_255, qli_256, qli_780, qli_799, qli_800, qli_801, qli_802, qli_880, qli_1000, qli_5760, qli_7040, qli_7920, qli_1000000, in_t, le_t, le_f, lt_t, lt_f, eq_t, eq_f, nI_add, nI_sub', nI_mul, nI_clamp, m1_ne, m1_ne', m1_lt, m1_le, m1_nlt, m1_nle, m1_add, eq_self, not_true_eq_false, not_false_eq_true, ne_eq, Nat.reduceLeDiff, Nat.reduceLT, and_true, true_and, and_self, or_true, true_or, or_false, false_or, false_and, and_false, qK_pi, qK_pr, qK_wi, qK_wl, qK_wo, qK_xi, qK_xo, qfr_pi', qfr_wi', qfr_wl', qfr_wo', qfr_xi', qfr_xo', qfi_pr, qfi_wi, qfi_wl, qfi_wo, qfi_xi, qfi_xo, qln_pi, qln_pr, qln_wi, qln_wl, qln_wo, qln_xi, qln_xo, qri_pi, qri_pr, qri_wl, qri_wo, qri_xo, qrl_pi, qrl_pr, qrl_wi, qrl_wo, qrl_xi, qrl_xo, qro_pi, qro_pr, qro_wi, qro_wl, qro_xi, qnx_pi, qnx_pr, qnx_wi, qnx_wl, qnx_wo, qnx_xi, qnx_xo, qsa_pi, qsa_wi, qsa_wl, qsa_pr, qsa_wo, fi_pi_at, fi_pi_nk, fi_pi_na, ri_wi_at, ri_wi_ne, ri_wi_nj, rl_wl_at, rl_wl_ne, rl_wl_nj, fr_pr_at, fr_pr_nk, fr_pr_na, hs, f3, ↓rn_1004, ↓rn_1005]
    rw [stp]
    refine ok_of rfl ⟨?_, ?_, fi_pi_at _ _ _ _, ?_, ?_⟩
    · intro i hi
      unfold tks at hi ⊢
      rw [← hL] at hi ⊢
      rw [List.length_append] at hi
      have hi' : i < L0.length + 1 := hi
      by_cases c : i = L0.length
      · rw [c, getD_app_at]
        refine ⟨0, ?_, ?_, rsT_end rfl⟩
        · simp (disch := omega) only [qri_pi, ri_wi_ne, ri_wi_at]
        · simp (disch := omega) only [qri_pi, ri_wi_ne, ri_wi_at]
      · rw [getD_app (by omega)]
        obtain ⟨s, q1, q2, q3⟩ := ht i (by omega)
        refine ⟨s, ?_, ?_, q3⟩
        · simp (disch := omega) only [qri_pi, ri_wi_ne, ri_wi_nj]; exact q1
        · simp (disch := omega) only [qri_pi, ri_wi_ne, ri_wi_nj]; exact q2
    · rw [fi_pi_nk _ _ _ _ _ _ (by omega), fi_pi_at]
    · simp (disch := omega) only [fi_pi_nk, qfi_wi]; exact f2
    · exact fq_pi (fq_pi (fq_wi (fq_wi hf (Or.inl rfl)) (Or.inr (Or.inl rfl))) ⟨rfl, by omega⟩) ⟨rfl, by omega⟩
  refine ok_cnt (m_tz M) (fun i q => ∃ T a L0, q = (T, nI L0.length, nI a) ∧ i ≤ a ∧ a ≤ m_tz M ∧ L0 ++ toks (m_tz M) (m_ts M) 800 a = toks (m_tz M) (m_ts M) 800 0 ∧ L0.length ≤ a ∧ RTok T m L0 ∧ fq (tR m) (tF m) S T ∧ st_fi T 1003 m = nI (m_tz M) ∧ st_fi T 1002 m = nI 0) ?_ ?_ c_N 0 _ (by omega) ⟨S1, 0, [], rfl, by omega, by omega, rfl, by show 0 ≤ 0; omega, fun i hi => absurd hi (Nat.not_lt_zero _), g0, a1, a2⟩ (N_big (by omega))
  · rintro i q rec hi ⟨T, a, L0, rfl, b1, b2, b3, b4, b5, b6, b7, b8⟩ hrec
    have hs := RS_fq hsS b6
    by_cases ca : a < m_tz M
    · have rt : ∀ j, j < m_tz M → st_ri T (m + 1) j = nI (m_ts M j) := fun j hj => by
        rw [fq_ri b6 (show ¬ tR m (m + 1) by unfold tR; omega)]
        exact RI_ts h hj
      have ri := rt a ca
      have y := wM_ts hw a
      obtain ⟨e1, e2⟩ := te_gt (ts := m_ts M) hz ca
      rw [toks_st hz ca] at b3
      by_cases cb : m_ts M a = 10 ∨ m_ts M a = 32
      · rw [if_pos cb] at b3
        have stp : b_X9_cutAll_17 m rec (T, nI L0.length, nI a) = rec (T, nI L0.length, nI (a + 1)) := by
          unfold b_X9_cutAll_17 j_X9_cutAll_44
          clear h hw hrec b3 b5 b6 fin rt hts
          generalize c_N = N
          rcases cb with cb | cb
          · rw [cb] at ri
            simp (disch := first | omega | assumption | (repeat first | assumption | apply RS_pi | apply RS_wi | apply RS_wl | apply CS_pi | apply CS_wi | apply CS_wl | apply CS_wo | apply CS_xo | apply RI_w15 | apply RI_w16 | apply RI_w17 | apply RI_w26 | apply RI_w27 | apply RI_w28 | apply RI_p1000)) only [↓reduceIte, ↓xg, ↓xi, ↓xl_wi, ↓xl_wl, ↓xl_pi, ↓xlI, ↓xlL, ↓xlN, xl, ↓xn, ↓xc, ↓xon, ↓xos, ↓ln_1, ↓ln_2, ↓ln_3, ↓ln_8, qli_0, qli_1, qli_2, qli_3, qli_4, qli_5, qli_6, qli_7, qli_8, qli_9, qli_10, qli_11, qli_12, qli_13, qli_14, qli_15, qli_16, qli_17, qli_18, qli_19, qli_20, qli_21, qli_22, qli_23, qli_24, qli_25, qli_26, qli_31, qli_32, qli_37, qli_39, qli_40, qli_41, qli_42, qli_43, qli_45, qli_47, qli_48, qli_49, qli_50, qli_56, qli_57, qli_59, qli_60, qli_61, qli_63, qli_64, qli_96, qli_97, qli_99, qli_100, qli_101, qli_122, qli_126, qli_143, qli_144, qli_192, qli_200, qli_201, qli_216, qli_255, qli_256, qli_780, qli_799, qli_800, qli_801, qli_802, qli_880, qli_1000, qli_5760, qli_7040, qli_7920, qli_1000000, in_t, le_t, le_f, lt_t, lt_f, eq_t, eq_f, nI_add, nI_sub', nI_mul, nI_clamp, m1_ne, m1_ne', m1_lt, m1_le, m1_nlt, m1_nle, m1_add, eq_self, not_true_eq_false, not_false_eq_true, ne_eq, Nat.reduceLeDiff, Nat.reduceLT, and_true, true_and, and_self, or_true, true_or, or_false, false_or, false_and, and_false, qK_pi, qK_pr, qK_wi, qK_wl, qK_wo, qK_xi, qK_xo, qfr_pi', qfr_wi', qfr_wl', qfr_wo', qfr_xi', qfr_xo', qfi_pr, qfi_wi, qfi_wl, qfi_wo, qfi_xi, qfi_xo, qln_pi, qln_pr, qln_wi, qln_wl, qln_wo, qln_xi, qln_xo, qri_pi, qri_pr, qri_wl, qri_wo, qri_xo, qrl_pi, qrl_pr, qrl_wi, qrl_wo, qrl_xi, qrl_xo, qro_pi, qro_pr, qro_wi, qro_wl, qro_xi, qnx_pi, qnx_pr, qnx_wi, qnx_wl, qnx_wo, qnx_xi, qnx_xo, qsa_pi, qsa_wi, qsa_wl, qsa_pr, qsa_wo, fi_pi_at, fi_pi_nk, fi_pi_na, ri_wi_at, ri_wi_ne, ri_wi_nj, rl_wl_at, rl_wl_ne, rl_wl_nj, fr_pr_at, fr_pr_nk, fr_pr_na, hs, b7, ↓rn_1001, ri]
          · rw [cb] at ri
            simp (disch := first | omega | assumption | (repeat first | assumption | apply RS_pi | apply RS_wi | apply RS_wl | apply CS_pi | apply CS_wi | apply CS_wl | apply CS_wo | apply CS_xo | apply RI_w15 | apply RI_w16 | apply RI_w17 | apply RI_w26 | apply RI_w27 | apply RI_w28 | apply RI_p1000)) only [↓reduceIte, ↓xg, ↓xi, ↓xl_wi, ↓xl_wl, ↓xl_pi, ↓xlI, ↓xlL, ↓xlN, xl, ↓xn, ↓xc, ↓xon, ↓xos, ↓ln_1, ↓ln_2, ↓ln_3, ↓ln_8, qli_0, qli_1, qli_2, qli_3, qli_4, qli_5, qli_6, qli_7, qli_8, qli_9, qli_10, qli_11, qli_12, qli_13, qli_14, qli_15, qli_16, qli_17, qli_18, qli_19, qli_20, qli_21, qli_22, qli_23, qli_24, qli_25, qli_26, qli_31, qli_32, qli_37, qli_39, qli_40, qli_41, qli_42, qli_43, qli_45, qli_47, qli_48, qli_49, qli_50, qli_56, qli_57, qli_59, qli_60, qli_61, qli_63, qli_64, qli_96, qli_97, qli_99, qli_100, qli_101, qli_122, qli_126, qli_143, qli_144, qli_192, qli_200, qli_201, qli_216, qli_255, qli_256, qli_780, qli_799, qli_800, qli_801, qli_802, qli_880, qli_1000, qli_5760, qli_7040, qli_7920, qli_1000000, in_t, le_t, le_f, lt_t, lt_f, eq_t, eq_f, nI_add, nI_sub', nI_mul, nI_clamp, m1_ne, m1_ne', m1_lt, m1_le, m1_nlt, m1_nle, m1_add, eq_self, not_true_eq_false, not_false_eq_true, ne_eq, Nat.reduceLeDiff, Nat.reduceLT, and_true, true_and, and_self, or_true, true_or, or_false, false_or, false_and, and_false, qK_pi, qK_pr, qK_wi, qK_wl, qK_wo, qK_xi, qK_xo, qfr_pi', qfr_wi', qfr_wl', qfr_wo', qfr_xi', qfr_xo', qfi_pr, qfi_wi, qfi_wl, qfi_wo, qfi_xi, qfi_xo, qln_pi, qln_pr, qln_wi, qln_wl, qln_wo, qln_xi, qln_xo, qri_pi, qri_pr, qri_wl, qri_wo, qri_xo, qrl_pi, qrl_pr, qrl_wi, qrl_wo, qrl_xi, qrl_xo, qro_pi, qro_pr, qro_wi, qro_wl, qro_xi, qnx_pi, qnx_pr, qnx_wi, qnx_wl, qnx_wo, qnx_xi, qnx_xo, qsa_pi, qsa_wi, qsa_wl, qsa_pr, qsa_wo, fi_pi_at, fi_pi_nk, fi_pi_na, ri_wi_at, ri_wi_ne, ri_wi_nj, rl_wl_at, rl_wl_ne, rl_wl_nj, fr_pr_at, fr_pr_nk, fr_pr_na, hs, b7, ↓rn_1001, ri]
        rw [stp]
        exact hrec _ ⟨T, a + 1, L0, rfl, by omega, by omega, b3, by omega, b5, b6, b7, b8⟩
      · rw [if_neg cb] at b3
        have b3' : (L0 ++ [tn' (m_tz M) (m_ts M) a]) ++ toks (m_tz M) (m_ts M) 800 (te (m_tz M) (m_ts M) a) = toks (m_tz M) (m_ts M) 800 0 := by
          rw [List.append_assoc]
          exact b3
        have nxt : ∀ s y, rsT s y (tn' (m_tz M) (m_ts M) a) → (tn' (m_tz M) (m_ts M) a).2.2 = a → ok (rec (st_wl (st_wi (st_wi T (m + 3) L0.length (nI a)) (m + 2) L0.length (nI s)) (m + 4) L0.length y, nI (L0.length + 1), nI (te (m_tz M) (m_ts M) a))) (fun _ T => RCQ S m M T) := by
          intro s y hr hpl
          have hR := RTok_add (s := s) (k := (tn' (m_tz M) (m_ts M) a).1) (u := (tn' (m_tz M) (m_ts M) a).2.1) (p := (tn' (m_tz M) (m_ts M) a).2.2) (y := y) b5 hr
          have hR' : RTok (st_wl (st_wi (st_wi T (m + 3) L0.length (nI a)) (m + 2) L0.length (nI s)) (m + 4) L0.length y) m (L0 ++ [tn' (m_tz M) (m_ts M) a]) := by
            rw [hpl] at hR
            have e9 : ((tn' (m_tz M) (m_ts M) a).1, (tn' (m_tz M) (m_ts M) a).2.1, a) = tn' (m_tz M) (m_ts M) a := by
              generalize tn' (m_tz M) (m_ts M) a = q at hpl
              obtain ⟨q1, q2, q3⟩ := q
              rw [← hpl]
            rw [e9] at hR
            exact hR
          have ll : (L0 ++ [tn' (m_tz M) (m_ts M) a]).length = L0.length + 1 := by rw [List.length_append]; rfl
          have := hrec (st_wl (st_wi (st_wi T (m + 3) L0.length (nI a)) (m + 2) L0.length (nI s)) (m + 4) L0.length y, nI (L0.length + 1), nI (te (m_tz M) (m_ts M) a)) ⟨_, te (m_tz M) (m_ts M) a, L0 ++ [tn' (m_tz M) (m_ts M) a], by rw [ll], by omega, e2, b3', by rw [ll]; omega, hR', fq_wl (fq_wi (fq_wi b6 (Or.inr (Or.inl rfl))) (Or.inl rfl)) (Or.inr (Or.inr rfl)), b7, b8⟩
          exact this
        clear hrec b3 b3' fin
        obtain ⟨T1, hT1⟩ : ∃ T1, T1 = st_wi T (m + 3) L0.length (nI a) := ⟨_, rfl⟩
        rw [← hT1] at nxt
        have hs1 : RS T1 m := by rw [hT1]; exact RS_wi _ _ _ hs
        have f31 : st_fi T1 1003 m = nI (m_tz M) := by rw [hT1]; exact b7
        have rt1 : ∀ j, j < m_tz M → st_ri T1 (m + 1) j = nI (m_ts M j) := fun j hj => by
          rw [hT1, ri_wi_ne _ _ _ _ _ (by omega)]
          exact rt j hj
        by_cases c1 : 97 ≤ m_ts M a ∧ m_ts M a ≤ 122
        · have t1 : te (m_tz M) (m_ts M) a = er (m_tz M) (m_ts M) 97 122 800 a := by unfold te; rw [if_pos c1]
          have t2 : tn' (m_tz M) (m_ts M) a = (wk (sl (m_ts M) a (te (m_tz M) (m_ts M) a - a)), 0, a) := by unfold tn'; rw [if_pos c1]
          obtain ⟨-, -, s3, s4⟩ := er_spec (z := m_tz M) (ts := m_ts M) (lo := 97) (hi := 122) 800 a (by omega) (by omega)
          rw [← t1] at s3 s4
          rw [t2] at nxt
          generalize te (m_tz M) (m_ts M) a = e at *
          have rw1 := r_word (k := L0.length) (rec17 := rec) hs1 hz f31 rt1 e1 e2 s3 s4 hts (by omega)
          have stp : b_X9_cutAll_17 m rec (T, nI L0.length, nI a) = c_w (b_X9_cutAll_70 m rec (nI L0.length) (nI a)) c_N (T1, nI a, lN 0) := by
            have el := r_let (T := T1) (hts a)
            rw [if_pos c1] at el
            rw [r_hd hs b7 ca hz (by omega) ri (by omega) (by omega) (hts a), ← hT1, c_s el, i_f (by decide)]
            rfl
          rw [stp, rw1]
          by_cases c8 : e - a ≤ 8
          · rw [if_pos c8, if_pos c8]
            refine nxt 1 _ (rsT_word (by rw [sl_len]; omega) (fun c hc => ?_) ?_) rfl
            · unfold sl at hc
              obtain ⟨j, hj, rfl⟩ := List.mem_map.mp hc
              have := List.mem_range.mp hj
              exact s3 (a + j) (by omega) (by omega)
            · have := n37_lt (ts := m_ts M) (a := a) (e - a) (fun j hj => (s3 (a + j) (by omega) (by omega)).2)
              have le : 37 ^ (e - a) ≤ 37 ^ 8 := Nat.pow_le_pow_right (by omega) c8
              omega
          · rw [if_neg c8, if_neg c8]
            refine nxt 4 _ (rsT_bad ?_) rfl
            show wk _ = 0
            unfold wk
            rw [if_pos (by rw [sl_len]; omega)]
        · by_cases c2 : 48 ≤ m_ts M a ∧ m_ts M a ≤ 57
          · have t1 : te (m_tz M) (m_ts M) a = er (m_tz M) (m_ts M) 48 57 800 a := by unfold te; rw [if_neg c1, if_pos c2]
            have t2 : tn' (m_tz M) (m_ts M) a = if te (m_tz M) (m_ts M) a - a ≤ 4 then (2, nv (sl (m_ts M) a (te (m_tz M) (m_ts M) a - a)), a) else (0, 0, a) := by unfold tn'; rw [if_neg c1, if_pos c2]
            obtain ⟨-, -, s3, s4⟩ := er_spec (z := m_tz M) (ts := m_ts M) (lo := 48) (hi := 57) 800 a (by omega) (by omega)
            rw [← t1] at s3 s4
            rw [t2] at nxt
            generalize te (m_tz M) (m_ts M) a = e at *
            have rw1 := r_digits (k := L0.length) (rec17 := rec) hs1 hz f31 rt1 e1 e2 s3 s4 hts (by omega)
            have stp : b_X9_cutAll_17 m rec (T, nI L0.length, nI a) = c_w (b_X9_cutAll_159 m rec (nI L0.length) (nI a)) c_N (T1, nI a, lN 0) := by
              have el := r_let (T := T1) (hts a)
              rw [if_neg c1] at el
              have ed := r_dig (T := T1) (hts a)
              rw [if_pos c2] at ed
              rw [r_hd hs b7 ca hz (by omega) ri (by omega) (by omega) (hts a), ← hT1, c_s el, i_t (show nI 0 = (0 : Int32) from rfl), c_s ed, i_f (by decide)]
              rfl
            rw [stp, rw1]
            by_cases c8 : e - a ≤ 4
            · rw [if_pos c8] at nxt
              rw [if_pos c8, if_pos c8]
              exact nxt 2 _ (rsT_num rfl rfl) rfl
            · rw [if_neg c8] at nxt
              rw [if_neg c8, if_neg c8]
              exact nxt 4 _ (rsT_bad rfl) rfl
          · have t1 : te (m_tz M) (m_ts M) a = a + 1 := by unfold te; rw [if_neg c1, if_neg c2]
            have t2 : tn' (m_tz M) (m_ts M) a = (ks (m_ts M a), 0, a) := by unfold tn'; rw [if_neg c1, if_neg c2]
            rw [t1, t2] at nxt
            have es := r_sign (S := T1) (hts a)
            have ll : (nI (m_ts M a)).toInt64 = lN (m_ts M a) := nI_l (by omega)
            have stp : b_X9_cutAll_17 m rec (T, nI L0.length, nI a) = rec (st_wl (st_wi T1 (m + 2) L0.length (nI (if ks (m_ts M a) = 0 then 4 else 3))) (m + 4) L0.length (lN (m_ts M a)), nI (L0.length + 1), nI (a + 1)) := by
              have c5 : m_ts M a ≠ 10 := fun q => cb (Or.inl q)
              have c6 : m_ts M a ≠ 32 := fun q => cb (Or.inr q)
              have el := r_let (T := T1) (hts a)
              rw [if_neg c1] at el
              have ed := r_dig (T := T1) (hts a)
              rw [if_neg c2] at ed
              rw [r_hd hs b7 ca hz (by omega) ri c5 c6 (hts a), ← hT1, c_s el, i_t (show nI 0 = (0 : Int32) from rfl), c_s ed, i_t (show nI 0 = (0 : Int32) from rfl), ll, xl, g_t hs1.1, rn_1004 hs1, c_s es]
              by_cases k0 : ks (m_ts M a) = 0
              · rw [if_pos k0, if_pos k0, i_t (show nI 0 = (0 : Int32) from rfl)]
                exact r_261 hs1 (by omega) (by omega)
              · rw [if_neg k0, if_neg k0, i_f (by decide)]
                exact r_261 hs1 (by omega) (by omega)
            rw [stp]
            by_cases k0 : ks (m_ts M a) = 0
            · rw [if_pos k0]
              exact nxt 4 _ (rsT_bad k0) rfl
            · rw [if_neg k0]
              exact nxt 3 _ (rsT_sign (hts a) k0) rfl
    · have e0 : a = m_tz M := by omega
      subst e0
      rw [toks_end _ (Nat.le_refl _), List.append_nil] at b3
      exact fin rec T L0 b3 b5 b6 b7 b8 (by omega)
  · rintro q rec ⟨T, a, L0, rfl, b1, b2, b3, b4, b5, b6, b7, b8⟩
    have e0 : a = m_tz M := by omega
    subst e0
    rw [toks_end _ (Nat.le_refl _), List.append_nil] at b3
    exact fin rec T L0 b3 b5 b6 b7 b8 (by omega)
end RC
