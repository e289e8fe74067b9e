/-! lead -/
section LE
variable {β : Type} {S S0 : st_T} {m x v : Nat} {M : mT} {A : aT}
/-- the search among the last n lines of a diary: found, or what is left -/
noncomputable def ldL (M : mT) (d c s : Nat) : Nat → Nat → Option Nat × Nat
  | 0, l => (none, l)
  | n + 1, l => if iC M d c s (m_nl M d - (n + 1)) = 0 then ldL M d c s n l else if l = 0 then (some (m_nl M d - (n + 1)), 0) else ldL M d c s n (l - 1)
noncomputable def ldD (M : mT) (c s : Nat) : Nat → Nat → Int32
  | 0, _ => m1
  | n + 1, l => match ldL M (m_D M - (n + 1)) c s (m_nl M (m_D M - (n + 1))) l with
    | (some k, _) => nI (100 * (m_D M - (n + 1)) + k)
    | (none, l') => ldD M c s n l'
theorem ldL_le {d c s : Nat} : ∀ (n l : Nat) (l' : Nat), ldL M d c s n l = (none, l') → l' ≤ l := by
  intro n
  induction n with
  | zero =>
    intro l l' h
    unfold ldL at h
    have := congrArg Prod.snd h
    dsimp only at this
    omega
  | succ n ih =>
    intro l l' h
    unfold ldL at h
    split at h
    · exact ih _ _ h
    · split at h
      · cases h
      · have := ih _ _ h
        omega
theorem c_lead_in {d c s : Nat} {rec35 : st_T × Int32 × Int32 → Option (Int32 × st_T)} (h : CI S x A M v) (hw : wM M) (hd : d < m_D M) (hco : CO S A M d) (hs : s ≤ 2) : ∀ (n l N : Nat), n ≤ m_nl M d → n < N → l < 2 ^ 31 → c_w (b_X8_lead_64 (nI c) (nI s) rec35 (nI d) (a_d A d)) N (S, nI l, nI (m_nl M d - n)) = match ldL M d c s n l with
    | (some k, _) => some (nI (100 * d + k), S)
    | (none, l') => rec35 (S, nI l', nI (d + 1)) := by
  have hnl := wM_nl hw d
  have hD := wM_D hw
  obtain ⟨d0, d1, d2, d3, d4, d5, d6, d7, d8⟩ := CI_d h hd
  have d9 := d7.1
  clear h
  intro n
  induction n with
  | zero =>
    intro l N h1 h2 h3
    cases N with
    | zero => omega
    | succ N =>
      show b_X8_lead_64 (nI c) (nI s) rec35 (nI d) (a_d A d) (c_w (b_X8_lead_64 (nI c) (nI s) rec35 (nI d) (a_d A d)) N) (S, nI l, nI (m_nl M d - 0)) = rec35 (S, nI l, nI (d + 1))
      generalize c_w (b_X8_lead_64 (nI c) (nI s) rec35 (nI d) (a_d A d)) N = rec
      simp (disch := first | omega | assumption | (repeat first | assumption | apply RS_pi | apply RS_wi | apply RS_wl | apply CS_pi | apply CS_wi | apply CS_wl | apply CS_wo | apply CS_xo | apply RI_w15 | apply RI_w16 | apply RI_w17 | apply RI_w26 | apply RI_w27 | apply RI_w28 | apply RI_p1000)) only [b_X8_lead_64, ↓reduceIte, ↓xg, ↓xi, ↓xl_wi, ↓xl_wl, ↓xl_pi, ↓xlI, ↓xlL, ↓xlN, xl, ↓xn, ↓xc, ↓xon, ↓xos, ↓ln_1, ↓ln_2, ↓ln_3, ↓ln_8, qli_0, qli_1, qli_2, qli_3, qli_4, qli_5, qli_6, qli_7, qli_8, qli_9, qli_10, qli_11, qli_12, qli_13, qli_14, qli_15, qli_16, qli_17, qli_18, qli_19, qli_20, qli_21, qli_22, qli_23, qli_24, qli_25, qli_26, qli_31, qli_32, qli_37, qli_39, qli_40, qli_41, qli_42, qli_43, qli_45, qli_47, qli_48, qli_49, qli_50, qli_56, qli_57, qli_59, qli_60, qli_61, qli_63, qli_64, qli_96, qli_97, qli_99, qli_100, qli_101, qli_122, qli_126, qli_143, qli_144, qli_192, qli_200, qli_201, qli_216, qli_255, qli_256, qli_780, qli_799, qli_800, qli_801, qli_802, qli_880, qli_1000, qli_5760, qli_7040, qli_7920, qli_1000000, in_t, le_t, le_f, lt_t, lt_f, eq_t, eq_f, nI_add, nI_sub', nI_mul, nI_clamp, m1_ne, m1_ne', m1_lt, m1_le, m1_nlt, m1_nle, m1_add, eq_self, not_true_eq_false, not_false_eq_true, ne_eq, Nat.reduceLeDiff, Nat.reduceLT, and_true, true_and, and_self, or_true, true_or, or_false, false_or, false_and, and_false, qK_pi, qK_pr, qK_wi, qK_wl, qK_wo, qK_xi, qK_xo, qfr_pi', qfr_wi', qfr_wl', qfr_wo', qfr_xi', qfr_xo', qfi_pr, qfi_wi, qfi_wl, qfi_wo, qfi_xi, qfi_xo, qln_pi, qln_pr, qln_wi, qln_wl, qln_wo, qln_xi, qln_xo, qri_pi, qri_pr, qri_wl, qri_wo, qri_xo, qrl_pi, qrl_pr, qrl_wi, qrl_wo, qrl_xi, qrl_xo, qro_pi, qro_pr, qro_wi, qro_wl, qro_xi, qnx_pi, qnx_pr, qnx_wi, qnx_wl, qnx_wo, qnx_xi, qnx_xo, qsa_pi, qsa_wi, qsa_wl, qsa_pr, qsa_wo, fi_pi_at, fi_pi_nk, fi_pi_na, ri_wi_at, ri_wi_ne, ri_wi_nj, rl_wl_at, rl_wl_ne, rl_wl_nj, fr_pr_at, fr_pr_nk, fr_pr_na, d0, ↓n_s d6, d9, ↓cSl d7, Nat.sub_zero]
  | succ n ih =>
    intro l N h1 h2 h3
    cases N with
    | zero => omega
    | succ N =>
      have hk : m_nl M d - (n + 1) < m_nl M d := by omega
      have e1 : m_nl M d - (n + 1) + 1 = m_nl M d - n := by omega
      obtain ⟨l0, l1⟩ := d8 _ hk
      obtain ⟨o1, o2, o3⟩ := hco _ hk
      have e := e_isInCell (c := c) (s := s) l0 o1 o2 hs
      show b_X8_lead_64 (nI c) (nI s) rec35 (nI d) (a_d A d) (c_w (b_X8_lead_64 (nI c) (nI s) rec35 (nI d) (a_d A d)) N) (S, nI l, nI (m_nl M d - (n + 1))) = _
      unfold ldL
      rcases iC_01 (M := M) d c s (m_nl M d - (n + 1)) with z | z
      · rw [z] at e
        rw [if_pos z, ← ih l N (by omega) (by omega) h3, ← e1]
        generalize c_w (b_X8_lead_64 (nI c) (nI s) rec35 (nI d) (a_d A d)) N = rec
        simp (disch := first | omega | assumption | (repeat first | assumption | apply RS_pi | apply RS_wi | apply RS_wl | apply CS_pi | apply CS_wi | apply CS_wl | apply CS_wo | apply CS_xo | apply RI_w15 | apply RI_w16 | apply RI_w17 | apply RI_w26 | apply RI_w27 | apply RI_w28 | apply RI_p1000)) only [b_X8_lead_64, j_X8_lead_118, ↓reduceIte, ↓xg, ↓xi, ↓xl_wi, ↓xl_wl, ↓xl_pi, ↓xlI, ↓xlL, ↓xlN, xl, ↓xn, ↓xc, ↓xon, ↓xos, ↓ln_1, ↓ln_2, ↓ln_3, ↓ln_8, qli_0, qli_1, qli_2, qli_3, qli_4, qli_5, qli_6, qli_7, qli_8, qli_9, qli_10, qli_11, qli_12, qli_13, qli_14, qli_15, qli_16, qli_17, qli_18, qli_19, qli_20, qli_21, qli_22, qli_23, qli_24, qli_25, qli_26, qli_31, qli_32, qli_37, qli_39, qli_40, qli_41, qli_42, qli_43, qli_45, qli_47, qli_48, qli_49, qli_50, qli_56, qli_57, qli_59, qli_60, qli_61, qli_63, qli_64, qli_96, qli_97, qli_99, qli_100, qli_101, qli_122, qli_126, qli_143, qli_144, qli_192, qli_200, qli_201, qli_216, qli_255, qli_256, qli_780, qli_799, qli_800, qli_801, qli_802, qli_880, qli_1000, qli_5760, qli_7040, qli_7920, qli_1000000, in_t, le_t, le_f, lt_t, lt_f, eq_t, eq_f, nI_add, nI_sub', nI_mul, nI_clamp, m1_ne, m1_ne', m1_lt, m1_le, m1_nlt, m1_nle, m1_add, eq_self, not_true_eq_false, not_false_eq_true, ne_eq, Nat.reduceLeDiff, Nat.reduceLT, and_true, true_and, and_self, or_true, true_or, or_false, false_or, false_and, and_false, qK_pi, qK_pr, qK_wi, qK_wl, qK_wo, qK_xi, qK_xo, qfr_pi', qfr_wi', qfr_wl', qfr_wo', qfr_xi', qfr_xo', qfi_pr, qfi_wi, qfi_wl, qfi_wo, qfi_xi, qfi_xo, qln_pi, qln_pr, qln_wi, qln_wl, qln_wo, qln_xi, qln_xo, qri_pi, qri_pr, qri_wl, qri_wo, qri_xo, qrl_pi, qrl_pr, qrl_wi, qrl_wo, qrl_xi, qrl_xo, qro_pi, qro_pr, qro_wi, qro_wl, qro_xi, qnx_pi, qnx_pr, qnx_wi, qnx_wl, qnx_wo, qnx_xi, qnx_xo, qsa_pi, qsa_wi, qsa_wl, qsa_pr, qsa_wo, fi_pi_at, fi_pi_nk, fi_pi_na, ri_wi_at, ri_wi_ne, ri_wi_nj, rl_wl_at, rl_wl_ne, rl_wl_nj, fr_pr_at, fr_pr_nk, fr_pr_na, d0, ↓n_s d6, d9, ↓cSl d7, ↓cGl d7 hk (by omega), l0, ↓c_s e]
      · rw [z] at e
        rw [if_neg (by omega)]
        by_cases c0 : l = 0
        · rw [if_pos c0]
          generalize c_w (b_X8_lead_64 (nI c) (nI s) rec35 (nI d) (a_d A d)) N = rec
          simp (disch := first | omega | assumption | (repeat first | assumption | apply RS_pi | apply RS_wi | apply RS_wl | apply CS_pi | apply CS_wi | apply CS_wl | apply CS_wo | apply CS_xo | apply RI_w15 | apply RI_w16 | apply RI_w17 | apply RI_w26 | apply RI_w27 | apply RI_w28 | apply RI_p1000)) only [b_X8_lead_64, j_X8_lead_118, ↓reduceIte, ↓xg, ↓xi, ↓xl_wi, ↓xl_wl, ↓xl_pi, ↓xlI, ↓xlL, ↓xlN, xl, ↓xn, ↓xc, ↓xon, ↓xos, ↓ln_1, ↓ln_2, ↓ln_3, ↓ln_8, qli_0, qli_1, qli_2, qli_3, qli_4, qli_5, qli_6, qli_7, qli_8, qli_9, qli_10, qli_11, qli_12, qli_13, qli_14, qli_15, qli_16, qli_17, qli_18, qli_19, qli_20, qli_21, qli_22, qli_23, qli_24, qli_25, qli_26, qli_31, qli_32, qli_37, qli_39, qli_40, qli_41, qli_42, qli_43, qli_45, qli_47, qli_48, qli_49, qli_50, qli_56, qli_57, qli_59, qli_60, qli_61, qli_63, qli_64, qli_96, qli_97, qli_99, qli_100, qli_101, qli_122, qli_126, qli_143, qli_144, qli_192, qli_200, qli_201, qli_216, qli_255, qli_256, qli_780, qli_799, qli_800, qli_801, qli_802, qli_880, qli_1000, qli_5760, qli_7040, qli_7920, qli_1000000, in_t, le_t, le_f, lt_t, lt_f, eq_t, eq_f, nI_add, nI_sub', nI_mul, nI_clamp, m1_ne, m1_ne', m1_lt, m1_le, m1_nlt, m1_nle, m1_add, eq_self, not_true_eq_false, not_false_eq_true, ne_eq, Nat.reduceLeDiff, Nat.reduceLT, and_true, true_and, and_self, or_true, true_or, or_false, false_or, false_and, and_false, qK_pi, qK_pr, qK_wi, qK_wl, qK_wo, qK_xi, qK_xo, qfr_pi', qfr_wi', qfr_wl', qfr_wo', qfr_xi', qfr_xo', qfi_pr, qfi_wi, qfi_wl, qfi_wo, qfi_xi, qfi_xo, qln_pi, qln_pr, qln_wi, qln_wl, qln_wo, qln_xi, qln_xo, qri_pi, qri_pr, qri_wl, qri_wo, qri_xo, qrl_pi, qrl_pr, qrl_wi, qrl_wo, qrl_xi, qrl_xo, qro_pi, qro_pr, qro_wi, qro_wl, qro_xi, qnx_pi, qnx_pr, qnx_wi, qnx_wl, qnx_wo, qnx_xi, qnx_xo, qsa_pi, qsa_wi, qsa_wl, qsa_pr, qsa_wo, fi_pi_at, fi_pi_nk, fi_pi_na, ri_wi_at, ri_wi_ne, ri_wi_nj, rl_wl_at, rl_wl_ne, rl_wl_nj, fr_pr_at, fr_pr_nk, fr_pr_na, d0, ↓n_s d6, d9, ↓cSl d7, ↓cGl d7 hk (by omega), l0, ↓c_s e, c0]
        · rw [if_neg c0, ← ih (l - 1) N (by omega) (by omega) (by omega), ← e1]
          generalize c_w (b_X8_lead_64 (nI c) (nI s) rec35 (nI d) (a_d A d)) N = rec
          simp (disch := first | omega | assumption | (repeat first | assumption | apply RS_pi | apply RS_wi | apply RS_wl | apply CS_pi | apply CS_wi | apply CS_wl | apply CS_wo | apply CS_xo | apply RI_w15 | apply RI_w16 | apply RI_w17 | apply RI_w26 | apply RI_w27 | apply RI_w28 | apply RI_p1000)) only [b_X8_lead_64, j_X8_lead_118, ↓reduceIte, ↓xg, ↓xi, ↓xl_wi, ↓xl_wl, ↓xl_pi, ↓xlI, ↓xlL, ↓xlN, xl, ↓xn, ↓xc, ↓xon, ↓xos, ↓ln_1, ↓ln_2, ↓ln_3, ↓ln_8, qli_0, qli_1, qli_2, qli_3, qli_4, qli_5, qli_6, qli_7, qli_8, qli_9, qli_10, qli_11, qli_12, qli_13, qli_14, qli_15, qli_16, qli_17, qli_18, qli_19, qli_20, qli_21, qli_22, qli_23, qli_24, qli_25, qli_26, qli_31, qli_32, qli_37, qli_39, qli_40, qli_41, qli_42, qli_43, qli_45, qli_47, qli_48, qli_49, qli_50, qli_56, qli_57, qli_59, qli_60, qli_61, qli_63, qli_64, qli_96, qli_97, qli_99, qli_100, qli_101, qli_122, qli_126, qli_143, qli_144, qli_192, qli_200, qli_201, qli_216, qli_255, qli_256, qli_780, qli_799, qli_800, qli_801, qli_802, qli_880, qli_1000, qli_5760, qli_7040, qli_7920, qli_1000000, in_t, le_t, le_f, lt_t, lt_f, eq_t, eq_f, nI_add, nI_sub', nI_mul, nI_clamp, m1_ne, m1_ne', m1_lt, m1_le, m1_nlt, m1_nle, m1_add, eq_self, not_true_eq_false, not_false_eq_true, ne_eq, Nat.reduceLeDiff, Nat.reduceLT, and_true, true_and, and_self, or_true, true_or, or_false, false_or, false_and, and_false, qK_pi, qK_pr, qK_wi, qK_wl, qK_wo, qK_xi, qK_xo, qfr_pi', qfr_wi', qfr_wl', qfr_wo', qfr_xi', qfr_xo', qfi_pr, qfi_wi, qfi_wl, qfi_wo, qfi_xi, qfi_xo, qln_pi, qln_pr, qln_wi, qln_wl, qln_wo, qln_xi, qln_xo, qri_pi, qri_pr, qri_wl, qri_wo, qri_xo, qrl_pi, qrl_pr, qrl_wi, qrl_wo, qrl_xi, qrl_xo, qro_pi, qro_pr, qro_wi, qro_wl, qro_xi, qnx_pi, qnx_pr, qnx_wi, qnx_wl, qnx_wo, qnx_xi, qnx_xo, qsa_pi, qsa_wi, qsa_wl, qsa_pr, qsa_wo, fi_pi_at, fi_pi_nk, fi_pi_na, ri_wi_at, ri_wi_ne, ri_wi_nj, rl_wl_at, rl_wl_ne, rl_wl_nj, fr_pr_at, fr_pr_nk, fr_pr_na, d0, ↓n_s d6, d9, ↓cSl d7, ↓cGl d7 hk (by omega), l0, ↓c_s e]
theorem c_lead {c s : Nat} (h : CI S x A M v) (hw : wM M) (hco : ∀ d, d < m_D M → CO S A M d) (hs : s ≤ 2) : ∀ (n l N : Nat), n ≤ m_D M → n < N → l < 2 ^ 31 → c_w (b_X8_lead_35 x (nI c) (nI s)) N (S, nI l, nI (m_D M - n)) = some (ldD M c s n l, S) := by
  have hD := wM_D hw
  have hc := CI_s h
  have hl := CI_dl h
  intro n
  induction n with
  | zero =>
    intro l N h1 h2 h3
    cases N with
    | zero => omega
    | succ N =>
      show b_X8_lead_35 x (nI c) (nI s) (c_w (b_X8_lead_35 x (nI c) (nI s)) N) (S, nI l, nI (m_D M - 0)) = some (m1, S)
      generalize c_w (b_X8_lead_35 x (nI c) (nI s)) N = rec
      simp (disch := first | omega | assumption | (repeat first | assumption | apply RS_pi | apply RS_wi | apply RS_wl | apply CS_pi | apply CS_wi | apply CS_wl | apply CS_wo | apply CS_xo | apply RI_w15 | apply RI_w16 | apply RI_w17 | apply RI_w26 | apply RI_w27 | apply RI_w28 | apply RI_p1000)) only [b_X8_lead_35, ↓reduceIte, ↓xg, ↓xi, ↓xl_wi, ↓xl_wl, ↓xl_pi, ↓xlI, ↓xlL, ↓xlN, xl, ↓xn, ↓xc, ↓xon, ↓xos, ↓ln_1, ↓ln_2, ↓ln_3, ↓ln_8, qli_0, qli_1, qli_2, qli_3, qli_4, qli_5, qli_6, qli_7, qli_8, qli_9, qli_10, qli_11, qli_12, qli_13, qli_14, qli_15, qli_16, qli_17, qli_18, qli_19, qli_20, qli_21, qli_22, qli_23, qli_24, qli_25, qli_26, qli_31, qli_32, qli_37, qli_39, qli_40, qli_41, qli_42, qli_43, qli_45, qli_47, qli_48, qli_49, qli_50, qli_56, qli_57, qli_59, qli_60, qli_61, qli_63, qli_64, qli_96, qli_97, qli_99, qli_100, qli_101, qli_122, qli_126, qli_143, qli_144, qli_192, qli_200, qli_201, qli_216, qli_255, qli_256, qli_780, qli_799, qli_800, qli_801, qli_802, qli_880, qli_1000, qli_5760, qli_7040, qli_7920, qli_1000000, in_t, le_t, le_f, lt_t, lt_f, eq_t, eq_f, nI_add, nI_sub', nI_mul, nI_clamp, m1_ne, m1_ne', m1_lt, m1_le, m1_nlt, m1_nle, m1_add, eq_self, not_true_eq_false, not_false_eq_true, ne_eq, Nat.reduceLeDiff, Nat.reduceLT, and_true, true_and, and_self, or_true, true_or, or_false, false_or, false_and, and_false, qK_pi, qK_pr, qK_wi, qK_wl, qK_wo, qK_xi, qK_xo, qfr_pi', qfr_wi', qfr_wl', qfr_wo', qfr_xi', qfr_xo', qfi_pr, qfi_wi, qfi_wl, qfi_wo, qfi_xi, qfi_xo, qln_pi, qln_pr, qln_wi, qln_wl, qln_wo, qln_xi, qln_xo, qri_pi, qri_pr, qri_wl, qri_wo, qri_xo, qrl_pi, qrl_pr, qrl_wi, qrl_wo, qrl_xi, qrl_xo, qro_pi, qro_pr, qro_wi, qro_wl, qro_xi, qnx_pi, qnx_pr, qnx_wi, qnx_wl, qnx_wo, qnx_xi, qnx_xo, qsa_pi, qsa_wi, qsa_wl, qsa_pr, qsa_wo, fi_pi_at, fi_pi_nk, fi_pi_na, ri_wi_at, ri_wi_ne, ri_wi_nj, rl_wl_at, rl_wl_ne, rl_wl_nj, fr_pr_at, fr_pr_nk, fr_pr_na, hc, ↓cn_901, ↓cSl hl, Nat.sub_zero]
  | succ n ih =>
    intro l N h1 h2 h3
    cases N with
    | zero => omega
    | succ N =>
      have hd : m_D M - (n + 1) < m_D M := by omega
      have e1 : m_D M - (n + 1) + 1 = m_D M - n := by omega
      have d0 := (CI_d h hd).1
      have hnl := wM_nl hw (m_D M - (n + 1))
      have e := c_lead_in (c := c) (s := s) (rec35 := c_w (b_X8_lead_35 x (nI c) (nI s)) N) h hw hd (hco _ hd) hs (m_nl M (m_D M - (n + 1))) l c_N (Nat.le_refl _) (by unfold c_N; omega) h3
      rw [Nat.sub_self] at e
      have st : b_X8_lead_35 x (nI c) (nI s) (c_w (b_X8_lead_35 x (nI c) (nI s)) N) (S, nI l, nI (m_D M - (n + 1))) = c_w (b_X8_lead_64 (nI c) (nI s) (c_w (b_X8_lead_35 x (nI c) (nI s)) N) (nI (m_D M - (n + 1))) (a_d A (m_D M - (n + 1)))) c_N (S, nI l, nI 0) := by
        generalize c_w (b_X8_lead_35 x (nI c) (nI s)) N = rec
        generalize hN : c_N = N'
        simp (disch := first | omega | assumption | (repeat first | assumption | apply RS_pi | apply RS_wi | apply RS_wl | apply CS_pi | apply CS_wi | apply CS_wl | apply CS_wo | apply CS_xo | apply RI_w15 | apply RI_w16 | apply RI_w17 | apply RI_w26 | apply RI_w27 | apply RI_w28 | apply RI_p1000)) only [b_X8_lead_35, ↓reduceIte, ↓xg, ↓xi, ↓xl_wi, ↓xl_wl, ↓xl_pi, ↓xlI, ↓xlL, ↓xlN, xl, ↓xn, ↓xc, ↓xon, ↓xos, ↓ln_1, ↓ln_2, ↓ln_3, ↓ln_8, qli_0, qli_1, qli_2, qli_3, qli_4, qli_5, qli_6, qli_7, qli_8, qli_9, qli_10, qli_11, qli_12, qli_13, qli_14, qli_15, qli_16, qli_17, qli_18, qli_19, qli_20, qli_21, qli_22, qli_23, qli_24, qli_25, qli_26, qli_31, qli_32, qli_37, qli_39, qli_40, qli_41, qli_42, qli_43, qli_45, qli_47, qli_48, qli_49, qli_50, qli_56, qli_57, qli_59, qli_60, qli_61, qli_63, qli_64, qli_96, qli_97, qli_99, qli_100, qli_101, qli_122, qli_126, qli_143, qli_144, qli_192, qli_200, qli_201, qli_216, qli_255, qli_256, qli_780, qli_799, qli_800, qli_801, qli_802, qli_880, qli_1000, qli_5760, qli_7040, qli_7920, qli_1000000, in_t, le_t, le_f, lt_t, lt_f, eq_t, eq_f, nI_add, nI_sub', nI_mul, nI_clamp, m1_ne, m1_ne', m1_lt, m1_le, m1_nlt, m1_nle, m1_add, eq_self, not_true_eq_false, not_false_eq_true, ne_eq, Nat.reduceLeDiff, Nat.reduceLT, and_true, true_and, and_self, or_true, true_or, or_false, false_or, false_and, and_false, qK_pi, qK_pr, qK_wi, qK_wl, qK_wo, qK_xi, qK_xo, qfr_pi', qfr_wi', qfr_wl', qfr_wo', qfr_xi', qfr_xo', qfi_pr, qfi_wi, qfi_wl, qfi_wo, qfi_xi, qfi_xo, qln_pi, qln_pr, qln_wi, qln_wl, qln_wo, qln_xi, qln_xo, qri_pi, qri_pr, qri_wl, qri_wo, qri_xo, qrl_pi, qrl_pr, qrl_wi, qrl_wo, qrl_xi, qrl_xo, qro_pi, qro_pr, qro_wi, qro_wl, qro_xi, qnx_pi, qnx_pr, qnx_wi, qnx_wl, qnx_wo, qnx_xi, qnx_xo, qsa_pi, qsa_wi, qsa_wl, qsa_pr, qsa_wo, fi_pi_at, fi_pi_nk, fi_pi_na, ri_wi_at, ri_wi_ne, ri_wi_nj, rl_wl_at, rl_wl_ne, rl_wl_nj, fr_pr_at, fr_pr_nk, fr_pr_na, hc, ↓cn_901, ↓cSl hl, ↓cGl hl hd (by omega), d0, hN]
      show b_X8_lead_35 x (nI c) (nI s) (c_w (b_X8_lead_35 x (nI c) (nI s)) N) (S, nI l, nI (m_D M - (n + 1))) = _
      rw [st, e]
      unfold ldD
      cases hq : ldL M (m_D M - (n + 1)) c s (m_nl M (m_D M - (n + 1))) l with
      | mk o l' =>
        cases o with
        | some k => rfl
        | none =>
          show c_w (b_X8_lead_35 x (nI c) (nI s)) N (S, nI l', nI (m_D M - (n + 1) + 1)) = some (ldD M c s n l', S)
          rw [e1]
          exact ih l' N (by omega) (by omega) (by have := ldL_le _ _ _ hq; omega)
theorem r_lead_in {d c s : Nat} {rec36 : st_T × Int32 × Int32 → Option (Int32 × st_T)} (h : RI S m M) (hw : wM M) (hd : d < m_D M) (hfc : FC S m M d) (hs2 : s ≤ 2) : ∀ (n l N : Nat), n ≤ m_nl M d → n < N → l < 2 ^ 31 → c_w (b_X9_lead_54 m (nI c) (nI s) rec36 (nI d)) N (S, nI l, nI (m_nl M d - n)) = match ldL M d c s n l with
    | (some k, _) => some (nI (100 * d + k), S)
    | (none, l') => rec36 (S, nI l', nI (d + 1)) := by
  have hs := RI_s h
  have hD := wM_D hw
  have hnl := wM_nl hw d
  have j1 := RI_nl h (show d < 40 by omega)
  intro n
  induction n with
  | zero =>
    intro l N h1 h2 h3
    cases N with
    | zero => omega
    | succ N =>
      show b_X9_lead_54 m (nI c) (nI s) rec36 (nI d) (c_w (b_X9_lead_54 m (nI c) (nI s) rec36 (nI d)) N) (S, nI l, nI (m_nl M d - 0)) = rec36 (S, nI l, nI (d + 1))
      generalize c_w (b_X9_lead_54 m (nI c) (nI s) rec36 (nI d)) N = rec
      simp (disch := first | omega | assumption | (repeat first | assumption | apply RS_pi | apply RS_wi | apply RS_wl | apply CS_pi | apply CS_wi | apply CS_wl | apply CS_wo | apply CS_xo | apply RI_w15 | apply RI_w16 | apply RI_w17 | apply RI_w26 | apply RI_w27 | apply RI_w28 | apply RI_p1000)) only [b_X9_lead_54, ↓reduceIte, ↓xg, ↓xi, ↓xl_wi, ↓xl_wl, ↓xl_pi, ↓xlI, ↓xlL, ↓xlN, xl, ↓xn, ↓xc, ↓xon, ↓xos, ↓ln_1, ↓ln_2, ↓ln_3, ↓ln_8, qli_0, qli_1, qli_2, qli_3, qli_4, qli_5, qli_6, qli_7, qli_8, qli_9, qli_10, qli_11, qli_12, qli_13, qli_14, qli_15, qli_16, qli_17, qli_18, qli_19, qli_20, qli_21, qli_22, qli_23, qli_24, qli_25, qli_26, qli_31, qli_32, qli_37, qli_39, qli_40, qli_41, qli_42, qli_43, qli_45, qli_47, qli_48, qli_49, qli_50, qli_56, qli_57, qli_59, qli_60, qli_61, qli_63, qli_64, qli_96, qli_97, qli_99, qli_100, qli_101, qli_122, qli_126, qli_143, qli_144, qli_192, qli_200, qli_201, qli_216, qli_255, qli_256, qli_780, qli_799, qli_800, qli_801, qli_802, qli_880, qli_1000, qli_5760, qli_7040, qli_7920, qli_1000000, in_t, le_t, le_f, lt_t, lt_f, eq_t, eq_f, nI_add, nI_sub', nI_mul, nI_clamp, m1_ne, m1_ne', m1_lt, m1_le, m1_nlt, m1_nle, m1_add, eq_self, not_true_eq_false, not_false_eq_true, ne_eq, Nat.reduceLeDiff, Nat.reduceLT, and_true, true_and, and_self, or_true, true_or, or_false, false_or, false_and, and_false, qK_pi, qK_pr, qK_wi, qK_wl, qK_wo, qK_xi, qK_xo, qfr_pi', qfr_wi', qfr_wl', qfr_wo', qfr_xi', qfr_xo', qfi_pr, qfi_wi, qfi_wl, qfi_wo, qfi_xi, qfi_xo, qln_pi, qln_pr, qln_wi, qln_wl, qln_wo, qln_xi, qln_xo, qri_pi, qri_pr, qri_wl, qri_wo, qri_xo, qrl_pi, qrl_pr, qrl_wi, qrl_wo, qrl_xi, qrl_xo, qro_pi, qro_pr, qro_wi, qro_wl, qro_xi, qnx_pi, qnx_pr, qnx_wi, qnx_wl, qnx_wo, qnx_xi, qnx_xo, qsa_pi, qsa_wi, qsa_wl, qsa_pr, qsa_wo, fi_pi_at, fi_pi_nk, fi_pi_na, ri_wi_at, ri_wi_ne, ri_wi_nj, rl_wl_at, rl_wl_ne, rl_wl_nj, fr_pr_at, fr_pr_nk, fr_pr_na, hs, ↓rn_1033, j1, Nat.sub_zero]
  | succ n ih =>
    intro l N h1 h2 h3
    cases N with
    | zero => omega
    | succ N =>
      have hk : m_nl M d - (n + 1) < m_nl M d := by omega
      have e1 : m_nl M d - (n + 1) + 1 = m_nl M d - n := by omega
      obtain ⟨o1, o2, o3⟩ := hfc _ hk
      have e := r_isIn (c := c) (s := s) hs (show m_nl M d - (n + 1) < 24 by omega) o1 o2 hs2
      show b_X9_lead_54 m (nI c) (nI s) rec36 (nI d) (c_w (b_X9_lead_54 m (nI c) (nI s) rec36 (nI d)) N) (S, nI l, nI (m_nl M d - (n + 1))) = _
      unfold ldL
      rcases iC_01 (M := M) d c s (m_nl M d - (n + 1)) with z | z
      · rw [z] at e
        rw [if_pos z, ← ih l N (by omega) (by omega) h3, ← e1]
        generalize c_w (b_X9_lead_54 m (nI c) (nI s) rec36 (nI d)) N = rec
        simp (disch := first | omega | assumption | (repeat first | assumption | apply RS_pi | apply RS_wi | apply RS_wl | apply CS_pi | apply CS_wi | apply CS_wl | apply CS_wo | apply CS_xo | apply RI_w15 | apply RI_w16 | apply RI_w17 | apply RI_w26 | apply RI_w27 | apply RI_w28 | apply RI_p1000)) only [b_X9_lead_54, j_X9_lead_94, ↓reduceIte, ↓xg, ↓xi, ↓xl_wi, ↓xl_wl, ↓xl_pi, ↓xlI, ↓xlL, ↓xlN, xl, ↓xn, ↓xc, ↓xon, ↓xos, ↓ln_1, ↓ln_2, ↓ln_3, ↓ln_8, qli_0, qli_1, qli_2, qli_3, qli_4, qli_5, qli_6, qli_7, qli_8, qli_9, qli_10, qli_11, qli_12, qli_13, qli_14, qli_15, qli_16, qli_17, qli_18, qli_19, qli_20, qli_21, qli_22, qli_23, qli_24, qli_25, qli_26, qli_31, qli_32, qli_37, qli_39, qli_40, qli_41, qli_42, qli_43, qli_45, qli_47, qli_48, qli_49, qli_50, qli_56, qli_57, qli_59, qli_60, qli_61, qli_63, qli_64, qli_96, qli_97, qli_99, qli_100, qli_101, qli_122, qli_126, qli_143, qli_144, qli_192, qli_200, qli_201, qli_216, qli_255, qli_256, qli_780, qli_799, qli_800, qli_801, qli_802, qli_880, qli_1000, qli_5760, qli_7040, qli_7920, qli_1000000, in_t, le_t, le_f, lt_t, lt_f, eq_t, eq_f, nI_add, nI_sub', nI_mul, nI_clamp, m1_ne, m1_ne', m1_lt, m1_le, m1_nlt, m1_nle, m1_add, eq_self, not_true_eq_false, not_false_eq_true, ne_eq, Nat.reduceLeDiff, Nat.reduceLT, and_true, true_and, and_self, or_true, true_or, or_false, false_or, false_and, and_false, qK_pi, qK_pr, qK_wi, qK_wl, qK_wo, qK_xi, qK_xo, qfr_pi', qfr_wi', qfr_wl', qfr_wo', qfr_xi', qfr_xo', qfi_pr, qfi_wi, qfi_wl, qfi_wo, qfi_xi, qfi_xo, qln_pi, qln_pr, qln_wi, qln_wl, qln_wo, qln_xi, qln_xo, qri_pi, qri_pr, qri_wl, qri_wo, qri_xo, qrl_pi, qrl_pr, qrl_wi, qrl_wo, qrl_xi, qrl_xo, qro_pi, qro_pr, qro_wi, qro_wl, qro_xi, qnx_pi, qnx_pr, qnx_wi, qnx_wl, qnx_wo, qnx_xi, qnx_xo, qsa_pi, qsa_wi, qsa_wl, qsa_pr, qsa_wo, fi_pi_at, fi_pi_nk, fi_pi_na, ri_wi_at, ri_wi_ne, ri_wi_nj, rl_wl_at, rl_wl_ne, rl_wl_nj, fr_pr_at, fr_pr_nk, fr_pr_na, hs, ↓rn_1033, j1, ↓c_s e]
      · rw [z] at e
        rw [if_neg (by omega)]
        by_cases c0 : l = 0
        · rw [if_pos c0]
          generalize c_w (b_X9_lead_54 m (nI c) (nI s) rec36 (nI d)) N = rec
          simp (disch := first | omega | assumption | (repeat first | assumption | apply RS_pi | apply RS_wi | apply RS_wl | apply CS_pi | apply CS_wi | apply CS_wl | apply CS_wo | apply CS_xo | apply RI_w15 | apply RI_w16 | apply RI_w17 | apply RI_w26 | apply RI_w27 | apply RI_w28 | apply RI_p1000)) only [b_X9_lead_54, j_X9_lead_94, ↓reduceIte, ↓xg, ↓xi, ↓xl_wi, ↓xl_wl, ↓xl_pi, ↓xlI, ↓xlL, ↓xlN, xl, ↓xn, ↓xc, ↓xon, ↓xos, ↓ln_1, ↓ln_2, ↓ln_3, ↓ln_8, qli_0, qli_1, qli_2, qli_3, qli_4, qli_5, qli_6, qli_7, qli_8, qli_9, qli_10, qli_11, qli_12, qli_13, qli_14, qli_15, qli_16, qli_17, qli_18, qli_19, qli_20, qli_21, qli_22, qli_23, qli_24, qli_25, qli_26, qli_31, qli_32, qli_37, qli_39, qli_40, qli_41, qli_42, qli_43, qli_45, qli_47, qli_48, qli_49, qli_50, qli_56, qli_57, qli_59, qli_60, qli_61, qli_63, qli_64, qli_96, qli_97, qli_99, qli_100, qli_101, qli_122, qli_126, qli_143, qli_144, qli_192, qli_200, qli_201, qli_216, qli_255, qli_256, qli_780, qli_799, qli_800, qli_801, qli_802, qli_880, qli_1000, qli_5760, qli_7040, qli_7920, qli_1000000, in_t, le_t, le_f, lt_t, lt_f, eq_t, eq_f, nI_add, nI_sub', nI_mul, nI_clamp, m1_ne, m1_ne', m1_lt, m1_le, m1_nlt, m1_nle, m1_add, eq_self, not_true_eq_false, not_false_eq_true, ne_eq, Nat.reduceLeDiff, Nat.reduceLT, and_true, true_and, and_self, or_true, true_or, or_false, false_or, false_and, and_false, qK_pi, qK_pr, qK_wi, qK_wl, qK_wo, qK_xi, qK_xo, qfr_pi', qfr_wi', qfr_wl', qfr_wo', qfr_xi', qfr_xo', qfi_pr, qfi_wi, qfi_wl, qfi_wo, qfi_xi, qfi_xo, qln_pi, qln_pr, qln_wi, qln_wl, qln_wo, qln_xi, qln_xo, qri_pi, qri_pr, qri_wl, qri_wo, qri_xo, qrl_pi, qrl_pr, qrl_wi, qrl_wo, qrl_xi, qrl_xo, qro_pi, qro_pr, qro_wi, qro_wl, qro_xi, qnx_pi, qnx_pr, qnx_wi, qnx_wl, qnx_wo, qnx_xi, qnx_xo, qsa_pi, qsa_wi, qsa_wl, qsa_pr, qsa_wo, fi_pi_at, fi_pi_nk, fi_pi_na, ri_wi_at, ri_wi_ne, ri_wi_nj, rl_wl_at, rl_wl_ne, rl_wl_nj, fr_pr_at, fr_pr_nk, fr_pr_na, hs, ↓rn_1033, j1, ↓c_s e, c0]
        · rw [if_neg c0, ← ih (l - 1) N (by omega) (by omega) (by omega), ← e1]
          generalize c_w (b_X9_lead_54 m (nI c) (nI s) rec36 (nI d)) N = rec
          simp (disch := first | omega | assumption | (repeat first | assumption | apply RS_pi | apply RS_wi | apply RS_wl | apply CS_pi | apply CS_wi | apply CS_wl | apply CS_wo | apply CS_xo | apply RI_w15 | apply RI_w16 | apply RI_w17 | apply RI_w26 | apply RI_w27 | apply RI_w28 | apply RI_p1000)) only [b_X9_lead_54, j_X9_lead_94, ↓reduceIte, ↓xg, ↓xi, ↓xl_wi, ↓xl_wl, ↓xl_pi, ↓xlI, ↓xlL, ↓xlN, xl, ↓xn, ↓xc, ↓xon, ↓xos, ↓ln_1, ↓ln_2, ↓ln_3, ↓ln_8, qli_0, qli_1, qli_2, qli_3, qli_4, qli_5, qli_6, qli_7, qli_8, qli_9, qli_10, qli_11, qli_12, qli_13, qli_14, qli_15, qli_16, qli_17, qli_18, qli_19, qli_20, qli_21, qli_22, qli_23, qli_24, qli_25, qli_26, qli_31, qli_32, qli_37, qli_39, qli_40, qli_41, qli_42, qli_43, qli_45, qli_47, qli_48, qli_49, qli_50, qli_56, qli_57, qli_59, qli_60, qli_61, qli_63, qli_64, qli_96, qli_97, qli_99, qli_100, qli_101, qli_122, qli_126, qli_143, qli_144, qli_192, qli_200, qli_201, qli_216, qli_255, qli_256, qli_780, qli_799, qli_800, qli_801, qli_802, qli_880, qli_1000, qli_5760, qli_7040, qli_7920, qli_1000000, in_t, le_t, le_f, lt_t, lt_f, eq_t, eq_f, nI_add, nI_sub', nI_mul, nI_clamp, m1_ne, m1_ne', m1_lt, m1_le, m1_nlt, m1_nle, m1_add, eq_self, not_true_eq_false, not_false_eq_true, ne_eq, Nat.reduceLeDiff, Nat.reduceLT, and_true, true_and, and_self, or_true, true_or, or_false, false_or, false_and, and_false, qK_pi, qK_pr, qK_wi, qK_wl, qK_wo, qK_xi, qK_xo, qfr_pi', qfr_wi', qfr_wl', qfr_wo', qfr_xi', qfr_xo', qfi_pr, qfi_wi, qfi_wl, qfi_wo, qfi_xi, qfi_xo, qln_pi, qln_pr, qln_wi, qln_wl, qln_wo, qln_xi, qln_xo, qri_pi, qri_pr, qri_wl, qri_wo, qri_xo, qrl_pi, qrl_pr, qrl_wi, qrl_wo, qrl_xi, qrl_xo, qro_pi, qro_pr, qro_wi, qro_wl, qro_xi, qnx_pi, qnx_pr, qnx_wi, qnx_wl, qnx_wo, qnx_xi, qnx_xo, qsa_pi, qsa_wi, qsa_wl, qsa_pr, qsa_wo, fi_pi_at, fi_pi_nk, fi_pi_na, ri_wi_at, ri_wi_ne, ri_wi_nj, rl_wl_at, rl_wl_ne, rl_wl_nj, fr_pr_at, fr_pr_nk, fr_pr_na, hs, ↓rn_1033, j1, ↓c_s e]
theorem r_lead {c s : Nat} (h : RI S0 m M) (hw : wM M) (hs2 : s ≤ 2) : ∀ (n l N : Nat) (S : st_T), fq (fdR m) nF S0 S → n ≤ m_D M → n < N → l < 2 ^ 31 → ok (c_w (b_X9_lead_36 m (nI c) (nI s)) N (S, nI l, nI (m_D M - n))) (fun r S' => r = ldD M c s n l ∧ fq (fdR m) nF S0 S') := by
  have hD := wM_D hw
  intro n
  induction n with
  | zero =>
    intro l N S g h1 h2 h3
    have h' := RI_fd h g
    have hs := RI_s h'
    have hD1 := RI_D h'
    cases N with
    | zero => omega
    | succ N =>
      have e : c_w (b_X9_lead_36 m (nI c) (nI s)) (N + 1) (S, nI l, nI (m_D M - 0)) = some (m1, S) := by
        show b_X9_lead_36 m (nI c) (nI s) (c_w (b_X9_lead_36 m (nI c) (nI s)) N) (S, nI l, nI (m_D M - 0)) = some (m1, S)
        generalize c_w (b_X9_lead_36 m (nI c) (nI s)) N = rec
        simp (disch := first | omega | assumption | (repeat first | assumption | apply RS_pi | apply RS_wi | apply RS_wl | apply CS_pi | apply CS_wi | apply CS_wl | apply CS_wo | apply CS_xo | apply RI_w15 | apply RI_w16 | apply RI_w17 | apply RI_w26 | apply RI_w27 | apply RI_w28 | apply RI_p1000)) only [b_X9_lead_36, ↓reduceIte, ↓xg, ↓xi, ↓xl_wi, ↓xl_wl, ↓xl_pi, ↓xlI, ↓xlL, ↓xlN, xl, ↓xn, ↓xc, ↓xon, ↓xos, ↓ln_1, ↓ln_2, ↓ln_3, ↓ln_8, qli_0, qli_1, qli_2, qli_3, qli_4, qli_5, qli_6, qli_7, qli_8, qli_9, qli_10, qli_11, qli_12, qli_13, qli_14, qli_15, qli_16, qli_17, qli_18, qli_19, qli_20, qli_21, qli_22, qli_23, qli_24, qli_25, qli_26, qli_31, qli_32, qli_37, qli_39, qli_40, qli_41, qli_42, qli_43, qli_45, qli_47, qli_48, qli_49, qli_50, qli_56, qli_57, qli_59, qli_60, qli_61, qli_63, qli_64, qli_96, qli_97, qli_99, qli_100, qli_101, qli_122, qli_126, qli_143, qli_144, qli_192, qli_200, qli_201, qli_216, qli_255, qli_256, qli_780, qli_799, qli_800, qli_801, qli_802, qli_880, qli_1000, qli_5760, qli_7040, qli_7920, qli_1000000, in_t, le_t, le_f, lt_t, lt_f, eq_t, eq_f, nI_add, nI_sub', nI_mul, nI_clamp, m1_ne, m1_ne', m1_lt, m1_le, m1_nlt, m1_nle, m1_add, eq_self, not_true_eq_false, not_false_eq_true, ne_eq, Nat.reduceLeDiff, Nat.reduceLT, and_true, true_and, and_self, or_true, true_or, or_false, false_or, false_and, and_false, qK_pi, qK_pr, qK_wi, qK_wl, qK_wo, qK_xi, qK_xo, qfr_pi', qfr_wi', qfr_wl', qfr_wo', qfr_xi', qfr_xo', qfi_pr, qfi_wi, qfi_wl, qfi_wo, qfi_xi, qfi_xo, qln_pi, qln_pr, qln_wi, qln_wl, qln_wo, qln_xi, qln_xo, qri_pi, qri_pr, qri_wl, qri_wo, qri_xo, qrl_pi, qrl_pr, qrl_wi, qrl_wo, qrl_xi, qrl_xo, qro_pi, qro_pr, qro_wi, qro_wl, qro_xi, qnx_pi, qnx_pr, qnx_wi, qnx_wl, qnx_wo, qnx_xi, qnx_xo, qsa_pi, qsa_wi, qsa_wl, qsa_pr, qsa_wo, fi_pi_at, fi_pi_nk, fi_pi_na, ri_wi_at, ri_wi_ne, ri_wi_nj, rl_wl_at, rl_wl_ne, rl_wl_nj, fr_pr_at, fr_pr_nk, fr_pr_na, hs, hD1, Nat.sub_zero]
      rw [e]
      exact ok_of rfl ⟨rfl, g⟩
  | succ n ih =>
    intro l N S g h1 h2 h3
    have h' := RI_fd h g
    have hs := RI_s h'
    have hD1 := RI_D h'
    cases N with
    | zero => omega
    | succ N =>
      have hd : m_D M - (n + 1) < m_D M := by omega
      have e1 : m_D M - (n + 1) + 1 = m_D M - n := by omega
      have hnl := wM_nl hw (m_D M - (n + 1))
      obtain ⟨_, S2, hf2, q1, q2⟩ := r_findCodes h' hw hd
      have h2' := RI_fd h' q1
      have e := r_lead_in (c := c) (s := s) (rec36 := c_w (b_X9_lead_36 m (nI c) (nI s)) N) h2' hw hd q2 hs2 (m_nl M (m_D M - (n + 1))) l c_N (Nat.le_refl _) (by unfold c_N; omega) h3
      rw [Nat.sub_self] at e
      have st : b_X9_lead_36 m (nI c) (nI s) (c_w (b_X9_lead_36 m (nI c) (nI s)) N) (S, nI l, nI (m_D M - (n + 1))) = c_w (b_X9_lead_54 m (nI c) (nI s) (c_w (b_X9_lead_36 m (nI c) (nI s)) N) (nI (m_D M - (n + 1)))) c_N (S2, nI l, nI 0) := by
        generalize c_w (b_X9_lead_36 m (nI c) (nI s)) N = rec
        generalize hN : c_N = N'
        simp (disch := first | omega | assumption | (repeat first | assumption | apply RS_pi | apply RS_wi | apply RS_wl | apply CS_pi | apply CS_wi | apply CS_wl | apply CS_wo | apply CS_xo | apply RI_w15 | apply RI_w16 | apply RI_w17 | apply RI_w26 | apply RI_w27 | apply RI_w28 | apply RI_p1000)) only [b_X9_lead_36, ↓reduceIte, ↓xg, ↓xi, ↓xl_wi, ↓xl_wl, ↓xl_pi, ↓xlI, ↓xlL, ↓xlN, xl, ↓xn, ↓xc, ↓xon, ↓xos, ↓ln_1, ↓ln_2, ↓ln_3, ↓ln_8, qli_0, qli_1, qli_2, qli_3, qli_4, qli_5, qli_6, qli_7, qli_8, qli_9, qli_10, qli_11, qli_12, qli_13, qli_14, qli_15, qli_16, qli_17, qli_18, qli_19, qli_20, qli_21, qli_22, qli_23, qli_24, qli_25, qli_26, qli_31, qli_32, qli_37, qli_39, qli_40, qli_41, qli_42, qli_43, qli_45, qli_47, qli_48, qli_49, qli_50, qli_56, qli_57, qli_59, qli_60, qli_61, qli_63, qli_64, qli_96, qli_97, qli_99, qli_100, qli_101, qli_122, qli_126, qli_143, qli_144, qli_192, qli_200, qli_201, qli_216, qli_255, qli_256, qli_780, qli_799, qli_800, qli_801, qli_802, qli_880, qli_1000, qli_5760, qli_7040, qli_7920, qli_1000000, in_t, le_t, le_f, lt_t, lt_f, eq_t, eq_f, nI_add, nI_sub', nI_mul, nI_clamp, m1_ne, m1_ne', m1_lt, m1_le, m1_nlt, m1_nle, m1_add, eq_self, not_true_eq_false, not_false_eq_true, ne_eq, Nat.reduceLeDiff, Nat.reduceLT, and_true, true_and, and_self, or_true, true_or, or_false, false_or, false_and, and_false, qK_pi, qK_pr, qK_wi, qK_wl, qK_wo, qK_xi, qK_xo, qfr_pi', qfr_wi', qfr_wl', qfr_wo', qfr_xi', qfr_xo', qfi_pr, qfi_wi, qfi_wl, qfi_wo, qfi_xi, qfi_xo, qln_pi, qln_pr, qln_wi, qln_wl, qln_wo, qln_xi, qln_xo, qri_pi, qri_pr, qri_wl, qri_wo, qri_xo, qrl_pi, qrl_pr, qrl_wi, qrl_wo, qrl_xi, qrl_xo, qro_pi, qro_pr, qro_wi, qro_wl, qro_xi, qnx_pi, qnx_pr, qnx_wi, qnx_wl, qnx_wo, qnx_xi, qnx_xo, qsa_pi, qsa_wi, qsa_wl, qsa_pr, qsa_wo, fi_pi_at, fi_pi_nk, fi_pi_na, ri_wi_at, ri_wi_ne, ri_wi_nj, rl_wl_at, rl_wl_ne, rl_wl_nj, fr_pr_at, fr_pr_nk, fr_pr_na, hs, hD1, ↓c_s hf2, hN]
      show ok (b_X9_lead_36 m (nI c) (nI s) (c_w (b_X9_lead_36 m (nI c) (nI s)) N) (S, nI l, nI (m_D M - (n + 1)))) _
      rw [st, e]
      unfold ldD
      cases hq : ldL M (m_D M - (n + 1)) c s (m_nl M (m_D M - (n + 1))) l with
      | mk o l' =>
        cases o with
        | some k => exact ok_of rfl ⟨rfl, fq_tr g q1⟩
        | none =>
          show ok (c_w (b_X9_lead_36 m (nI c) (nI s)) N (S2, nI l', nI (m_D M - (n + 1) + 1))) (fun r S' => r = ldD M c s n l' ∧ fq (fdR m) nF S0 S')
          rw [e1]
          exact ih l' N S2 (fq_tr g q1) (by omega) (by omega) (by have := ldL_le _ _ _ hq; omega)
theorem sp_lead (h : INV S x A M v) (hv : v < 1000) (x1 x2 x3 : Int32) : STEP (fun S => f_X8_lead S x x1 x2 x3) (fun S => f_X9_lead S (x + 24) x1 x2 x3) S x v := by
  have hw := h.2.2.1
  have hc := CI_s h.2.1
  have hs := RI_s h.1
  have hD := wM_D hw
  have bad : (x1 < nI 0 ∨ (¬ x1 < nI 0 ∧ nI 49 < x1) ∨ x2 < nI 0 ∨ (¬ x2 < nI 0 ∧ nI 2 < x2) ∨ x3 < nI 0) → STEP (fun S => f_X8_lead S x x1 x2 x3) (fun S => f_X9_lead S (x + 24) x1 x2 x3) S x v := by
    intro hx
    have e0 : (nI 0 ≤ x3) = ¬ (x3 < nI 0) := by rw [Int32.not_lt]
    have e1 : f_X8_lead S x x1 x2 x3 = some (m1, S) := by
      unfold f_X8_lead
      by_cases g1 : x1 < nI 0 <;> by_cases g2 : nI 49 < x1 <;> by_cases g3 : x2 < nI 0 <;> by_cases g4 : nI 2 < x2 <;> by_cases g5 : x3 < nI 0 <;> simp (disch := first | omega | assumption | (repeat first | assumption | apply RS_pi | apply RS_wi | apply RS_wl | apply CS_pi | apply CS_wi | apply CS_wl | apply CS_wo | apply CS_xo | apply RI_w15 | apply RI_w16 | apply RI_w17 | apply RI_w26 | apply RI_w27 | apply RI_w28 | apply RI_p1000)) only [↓reduceIte, ↓xg, ↓xi, ↓xl_wi, ↓xl_wl, ↓xl_pi, ↓xlI, ↓xlL, ↓xlN, xl, ↓xn, ↓xc, ↓xon, ↓xos, ↓ln_1, ↓ln_2, ↓ln_3, ↓ln_8, qli_0, qli_1, qli_2, qli_3, qli_4, qli_5, qli_6, qli_7, qli_8, qli_9, qli_10, qli_11, qli_12, qli_13, qli_14, qli_15, qli_16, qli_17, qli_18, qli_19, qli_20, qli_21, qli_22, qli_23, qli_24, qli_25, qli_26, qli_31, qli_32, qli_37, qli_39, qli_40, qli_41, qli_42, qli_43, qli_45, qli_47, qli_48, qli_49, qli_50, qli_56, qli_57, qli_59, qli_60, qli_61, qli_63, qli_64, qli_96, qli_97, qli_99, qli_100, qli_101, qli_122, qli_126, qli_143, qli_144, qli_192, qli_200, qli_201, qli_216, qli_255, qli_256, qli_780, qli_799, qli_800, qli_801, qli_802, qli_880, qli_1000, qli_5760, qli_7040, qli_7920, qli_1000000, in_t, le_t, le_f, lt_t, lt_f, eq_t, eq_f, nI_add, nI_sub', nI_mul, nI_clamp, m1_ne, m1_ne', m1_lt, m1_le, m1_nlt, m1_nle, m1_add, eq_self, not_true_eq_false, not_false_eq_true, ne_eq, Nat.reduceLeDiff, Nat.reduceLT, and_true, true_and, and_self, or_true, true_or, or_false, false_or, false_and, and_false, qK_pi, qK_pr, qK_wi, qK_wl, qK_wo, qK_xi, qK_xo, qfr_pi', qfr_wi', qfr_wl', qfr_wo', qfr_xi', qfr_xo', qfi_pr, qfi_wi, qfi_wl, qfi_wo, qfi_xi, qfi_xo, qln_pi, qln_pr, qln_wi, qln_wl, qln_wo, qln_xi, qln_xo, qri_pi, qri_pr, qri_wl, qri_wo, qri_xo, qrl_pi, qrl_pr, qrl_wi, qrl_wo, qrl_xi, qrl_xo, qro_pi, qro_pr, qro_wi, qro_wl, qro_xi, qnx_pi, qnx_pr, qnx_wi, qnx_wl, qnx_wo, qnx_xi, qnx_xo, qsa_pi, qsa_wi, qsa_wl, qsa_pr, qsa_wo, fi_pi_at, fi_pi_nk, fi_pi_na, ri_wi_at, ri_wi_ne, ri_wi_nj, rl_wl_at, rl_wl_ne, rl_wl_nj, fr_pr_at, fr_pr_nk, fr_pr_na, ↓cW, hc, g1, g2, g3, g4, e0, g5]
      all_goals simp_all
    have e2 : f_X9_lead S (x + 24) x1 x2 x3 = some (m1, st_pi S 1000 (x + 24) 0) := by
      unfold f_X9_lead
      by_cases g1 : x1 < nI 0 <;> by_cases g2 : nI 49 < x1 <;> by_cases g3 : x2 < nI 0 <;> by_cases g4 : nI 2 < x2 <;> by_cases g5 : x3 < nI 0 <;> simp (disch := first | omega | assumption | (repeat first | assumption | apply RS_pi | apply RS_wi | apply RS_wl | apply CS_pi | apply CS_wi | apply CS_wl | apply CS_wo | apply CS_xo | apply RI_w15 | apply RI_w16 | apply RI_w17 | apply RI_w26 | apply RI_w27 | apply RI_w28 | apply RI_p1000)) only [↓reduceIte, ↓xg, ↓xi, ↓xl_wi, ↓xl_wl, ↓xl_pi, ↓xlI, ↓xlL, ↓xlN, xl, ↓xn, ↓xc, ↓xon, ↓xos, ↓ln_1, ↓ln_2, ↓ln_3, ↓ln_8, qli_0, qli_1, qli_2, qli_3, qli_4, qli_5, qli_6, qli_7, qli_8, qli_9, qli_10, qli_11, qli_12, qli_13, qli_14, qli_15, qli_16, qli_17, qli_18, qli_19, qli_20, qli_21, qli_22, qli_23, qli_24, qli_25, qli_26, qli_31, qli_32, qli_37, qli_39, qli_40, qli_41, qli_42, qli_43, qli_45, qli_47, qli_48, qli_49, qli_50, qli_56, qli_57, qli_59, qli_60, qli_61, qli_63, qli_64, qli_96, qli_97, qli_99, qli_100, qli_101, qli_122, qli_126, qli_143, qli_144, qli_192, qli_200, qli_201, qli_216, qli_255, qli_256, qli_780, qli_799, qli_800, qli_801, qli_802, qli_880, qli_1000, qli_5760, qli_7040, qli_7920, qli_1000000, in_t, le_t, le_f, lt_t, lt_f, eq_t, eq_f, nI_add, nI_sub', nI_mul, nI_clamp, m1_ne, m1_ne', m1_lt, m1_le, m1_nlt, m1_nle, m1_add, eq_self, not_true_eq_false, not_false_eq_true, ne_eq, Nat.reduceLeDiff, Nat.reduceLT, and_true, true_and, and_self, or_true, true_or, or_false, false_or, false_and, and_false, qK_pi, qK_pr, qK_wi, qK_wl, qK_wo, qK_xi, qK_xo, qfr_pi', qfr_wi', qfr_wl', qfr_wo', qfr_xi', qfr_xo', qfi_pr, qfi_wi, qfi_wl, qfi_wo, qfi_xi, qfi_xo, qln_pi, qln_pr, qln_wi, qln_wl, qln_wo, qln_xi, qln_xo, qri_pi, qri_pr, qri_wl, qri_wo, qri_xo, qrl_pi, qrl_pr, qrl_wi, qrl_wo, qrl_xi, qrl_xo, qro_pi, qro_pr, qro_wi, qro_wl, qro_xi, qnx_pi, qnx_pr, qnx_wi, qnx_wl, qnx_wo, qnx_xi, qnx_xo, qsa_pi, qsa_wi, qsa_wl, qsa_pr, qsa_wo, fi_pi_at, fi_pi_nk, fi_pi_na, ri_wi_at, ri_wi_ne, ri_wi_nj, rl_wl_at, rl_wl_ne, rl_wl_nj, fr_pr_at, fr_pr_nk, fr_pr_na, hs, g1, g2, g3, g4, e0, g5]
      all_goals simp_all
    exact STEP_q h e1 e2 h.2.1 fc_rf fq_th
  rcases rg x1 0 49 (by omega) (by omega) with g | g | ⟨c, hc1, hc2, rfl⟩
  · exact bad (Or.inl g)
  · exact bad (Or.inr (Or.inl g))
  · rcases rg x2 0 2 (by omega) (by omega) with g | g | ⟨s, hs1, hs2, rfl⟩
    · exact bad (Or.inr (Or.inr (Or.inl g)))
    · exact bad (Or.inr (Or.inr (Or.inr (Or.inl g))))
    · by_cases g : x3 < nI 0
      · exact bad (Or.inr (Or.inr (Or.inr (Or.inr g))))
      · obtain ⟨l, hl, rfl⟩ := nI_of (x := x3) g
        obtain ⟨_, S1, hf, hI, hco, hfc⟩ := c_cd h.2.1 hw hv
        have hr1 := RI_fc h.1 hfc
        have hsr := RI_s hr1
        have e1 : f_X8_lead S x (nI c) (nI s) (nI l) = some (ldD M c s (m_D M) l, S1) := by
          have := c_lead hI hw hco hs2 (c := c) (m_D M) l c_N (Nat.le_refl _) (by unfold c_N; omega) hl
          rw [Nat.sub_self] at this
          rw [← this]
          unfold f_X8_lead
          generalize c_N = N
          simp (disch := first | omega | assumption | (repeat first | assumption | apply RS_pi | apply RS_wi | apply RS_wl | apply CS_pi | apply CS_wi | apply CS_wl | apply CS_wo | apply CS_xo | apply RI_w15 | apply RI_w16 | apply RI_w17 | apply RI_w26 | apply RI_w27 | apply RI_w28 | apply RI_p1000)) only [↓reduceIte, ↓xg, ↓xi, ↓xl_wi, ↓xl_wl, ↓xl_pi, ↓xlI, ↓xlL, ↓xlN, xl, ↓xn, ↓xc, ↓xon, ↓xos, ↓ln_1, ↓ln_2, ↓ln_3, ↓ln_8, qli_0, qli_1, qli_2, qli_3, qli_4, qli_5, qli_6, qli_7, qli_8, qli_9, qli_10, qli_11, qli_12, qli_13, qli_14, qli_15, qli_16, qli_17, qli_18, qli_19, qli_20, qli_21, qli_22, qli_23, qli_24, qli_25, qli_26, qli_31, qli_32, qli_37, qli_39, qli_40, qli_41, qli_42, qli_43, qli_45, qli_47, qli_48, qli_49, qli_50, qli_56, qli_57, qli_59, qli_60, qli_61, qli_63, qli_64, qli_96, qli_97, qli_99, qli_100, qli_101, qli_122, qli_126, qli_143, qli_144, qli_192, qli_200, qli_201, qli_216, qli_255, qli_256, qli_780, qli_799, qli_800, qli_801, qli_802, qli_880, qli_1000, qli_5760, qli_7040, qli_7920, qli_1000000, in_t, le_t, le_f, lt_t, lt_f, eq_t, eq_f, nI_add, nI_sub', nI_mul, nI_clamp, m1_ne, m1_ne', m1_lt, m1_le, m1_nlt, m1_nle, m1_add, eq_self, not_true_eq_false, not_false_eq_true, ne_eq, Nat.reduceLeDiff, Nat.reduceLT, and_true, true_and, and_self, or_true, true_or, or_false, false_or, false_and, and_false, qK_pi, qK_pr, qK_wi, qK_wl, qK_wo, qK_xi, qK_xo, qfr_pi', qfr_wi', qfr_wl', qfr_wo', qfr_xi', qfr_xo', qfi_pr, qfi_wi, qfi_wl, qfi_wo, qfi_xi, qfi_xo, qln_pi, qln_pr, qln_wi, qln_wl, qln_wo, qln_xi, qln_xo, qri_pi, qri_pr, qri_wl, qri_wo, qri_xo, qrl_pi, qrl_pr, qrl_wi, qrl_wo, qrl_xi, qrl_xo, qro_pi, qro_pr, qro_wi, qro_wl, qro_xi, qnx_pi, qnx_pr, qnx_wi, qnx_wl, qnx_wo, qnx_xi, qnx_xo, qsa_pi, qsa_wi, qsa_wl, qsa_pr, qsa_wo, fi_pi_at, fi_pi_nk, fi_pi_na, ri_wi_at, ri_wi_ne, ri_wi_nj, rl_wl_at, rl_wl_ne, rl_wl_nj, fr_pr_at, fr_pr_nk, fr_pr_na, ↓cW, hc, ↓c_s hf]
        have := r_lead (c := c) (s := s) (RI_p1000 (u := nI 0) hr1) hw hs2 (m_D M) l c_N _ fq_rf (Nat.le_refl _) (by unfold c_N; omega) hl
        rw [Nat.sub_self] at this
        obtain ⟨r, S2, hf2, rfl, q1⟩ := this
        have e2 : f_X9_lead S1 (x + 24) (nI c) (nI s) (nI l) = some (ldD M c s (m_D M) l, S2) := by
          rw [← hf2]
          unfold f_X9_lead
          generalize c_N = N
          simp (disch := first | omega | assumption | (repeat first | assumption | apply RS_pi | apply RS_wi | apply RS_wl | apply CS_pi | apply CS_wi | apply CS_wl | apply CS_wo | apply CS_xo | apply RI_w15 | apply RI_w16 | apply RI_w17 | apply RI_w26 | apply RI_w27 | apply RI_w28 | apply RI_p1000)) only [↓reduceIte, ↓xg, ↓xi, ↓xl_wi, ↓xl_wl, ↓xl_pi, ↓xlI, ↓xlL, ↓xlN, xl, ↓xn, ↓xc, ↓xon, ↓xos, ↓ln_1, ↓ln_2, ↓ln_3, ↓ln_8, qli_0, qli_1, qli_2, qli_3, qli_4, qli_5, qli_6, qli_7, qli_8, qli_9, qli_10, qli_11, qli_12, qli_13, qli_14, qli_15, qli_16, qli_17, qli_18, qli_19, qli_20, qli_21, qli_22, qli_23, qli_24, qli_25, qli_26, qli_31, qli_32, qli_37, qli_39, qli_40, qli_41, qli_42, qli_43, qli_45, qli_47, qli_48, qli_49, qli_50, qli_56, qli_57, qli_59, qli_60, qli_61, qli_63, qli_64, qli_96, qli_97, qli_99, qli_100, qli_101, qli_122, qli_126, qli_143, qli_144, qli_192, qli_200, qli_201, qli_216, qli_255, qli_256, qli_780, qli_799, qli_800, qli_801, qli_802, qli_880, qli_1000, qli_5760, qli_7040, qli_7920, qli_1000000, in_t, le_t, le_f, lt_t, lt_f, eq_t, eq_f, nI_add, nI_sub', nI_mul, nI_clamp, m1_ne, m1_ne', m1_lt, m1_le, m1_nlt, m1_nle, m1_add, eq_self, not_true_eq_false, not_false_eq_true, ne_eq, Nat.reduceLeDiff, Nat.reduceLT, and_true, true_and, and_self, or_true, true_or, or_false, false_or, false_and, and_false, qK_pi, qK_pr, qK_wi, qK_wl, qK_wo, qK_xi, qK_xo, qfr_pi', qfr_wi', qfr_wl', qfr_wo', qfr_xi', qfr_xo', qfi_pr, qfi_wi, qfi_wl, qfi_wo, qfi_xi, qfi_xo, qln_pi, qln_pr, qln_wi, qln_wl, qln_wo, qln_xi, qln_xo, qri_pi, qri_pr, qri_wl, qri_wo, qri_xo, qrl_pi, qrl_pr, qrl_wi, qrl_wo, qrl_xi, qrl_xo, qro_pi, qro_pr, qro_wi, qro_wl, qro_xi, qnx_pi, qnx_pr, qnx_wi, qnx_wl, qnx_wo, qnx_xi, qnx_xo, qsa_pi, qsa_wi, qsa_wl, qsa_pr, qsa_wo, fi_pi_at, fi_pi_nk, fi_pi_na, ri_wi_at, ri_wi_ne, ri_wi_nj, rl_wl_at, rl_wl_ne, rl_wl_nj, fr_pr_at, fr_pr_nk, fr_pr_na, hsr]
        exact STEP_q h e1 e2 hI hfc (fq_tr fq_th (fd_zy q1))
end LE
