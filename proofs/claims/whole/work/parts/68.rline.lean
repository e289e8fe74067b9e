/-! line: the reference -/
section LR
variable {β : Type} {S S' S0 T : st_T} {m x v : Nat} {M : mT} {A : aT}
theorem r_of {d k w : Nat} (hs : RS S m) (hd : d < 40) (hk : k < 24) (hw : w < 6) : f_X9_of S m (nI d) (nI k) (nI w) = some (st_ri S (m + 25) (6 * (24 * d + k) + w), S) := by
  unfold f_X9_of
  simp (disch := first | omega | assumption | (repeat first | assumption | apply RS_pi | apply RS_wi | apply RS_wl | apply CS_pi | apply CS_wi | apply CS_wl | apply CS_wo | apply CS_xo | apply RI_w15 | apply RI_w16 | apply RI_w17 | apply RI_w26 | apply RI_w27 | apply RI_w28 | apply RI_p1000)) only [↓reduceIte, ↓xg, ↓xi, ↓xl_wi, ↓xl_wl, ↓xl_pi, ↓xlI, ↓xlL, ↓xlN, xl, ↓xn, ↓xc, ↓xon, ↓xos, ↓ln_1, ↓ln_2, ↓ln_3, ↓ln_8, qli_0, qli_1, qli_2, qli_3, qli_4, qli_5, qli_6, qli_7, qli_8, qli_9, qli_10, qli_11, qli_12, qli_13, qli_14, qli_15, qli_16, qli_17, qli_18, qli_19, qli_20, qli_21, qli_22, qli_23, qli_24, qli_25, qli_26, qli_31, qli_32, qli_37, qli_39, qli_40, qli_41, qli_42, qli_43, qli_45, qli_47, qli_48, qli_49, qli_50, qli_56, qli_57, qli_59, qli_60, qli_61, qli_63, qli_64, qli_96, qli_97, qli_99, qli_100, qli_101, qli_122, qli_126, qli_143, qli_144, qli_192, qli_200, qli_201, qli_216, qli_255, qli_256, qli_780, qli_799, qli_800, qli_801, qli_802, qli_880, qli_1000, qli_5760, qli_7040, qli_7920, qli_1000000, in_t, le_t, le_f, lt_t, lt_f, eq_t, eq_f, nI_add, nI_sub', nI_mul, nI_clamp, m1_ne, m1_ne', m1_lt, m1_le, m1_nlt, m1_nle, m1_add, eq_self, not_true_eq_false, not_false_eq_true, ne_eq, Nat.reduceLeDiff, Nat.reduceLT, and_true, true_and, and_self, or_true, true_or, or_false, false_or, false_and, and_false, qK_pi, qK_pr, qK_wi, qK_wl, qK_wo, qK_xi, qK_xo, qfr_pi', qfr_wi', qfr_wl', qfr_wo', qfr_xi', qfr_xo', qfi_pr, qfi_wi, qfi_wl, qfi_wo, qfi_xi, qfi_xo, qln_pi, qln_pr, qln_wi, qln_wl, qln_wo, qln_xi, qln_xo, qri_pi, qri_pr, qri_wl, qri_wo, qri_xo, qrl_pi, qrl_pr, qrl_wi, qrl_wo, qrl_xi, qrl_xo, qro_pi, qro_pr, qro_wi, qro_wl, qro_xi, qnx_pi, qnx_pr, qnx_wi, qnx_wl, qnx_wo, qnx_xi, qnx_xo, qsa_pi, qsa_wi, qsa_wl, qsa_pr, qsa_wo, fi_pi_at, fi_pi_nk, fi_pi_na, ri_wi_at, ri_wi_ne, ri_wi_nj, rl_wl_at, rl_wl_ne, rl_wl_nj, fr_pr_at, fr_pr_nk, fr_pr_na, hs, ↓rn_1034]
/-- lines behind y are a place further on; of line y the first z numbers stand in the next -/
def shr (S : st_T) (m d nl y z : Nat) (T : st_T) : Prop := fq (fun a => a = m + 25) nF S T ∧ ∀ i, st_ri T (m + 25) i = if (6 * (24 * d + y) ≤ i ∧ i < 6 * (24 * d + y) + z) ∨ (6 * (24 * d + (y + 1)) ≤ i ∧ i < 6 * (24 * d + (nl + 1))) then st_ri S (m + 25) (i - 6) else st_ri S (m + 25) i
theorem r_shift {d nl y : Nat} {rec : st_T × Int32 → Option (Int32 × st_T)} {Q : Int32 → st_T → Prop} (hs : RS S m) (hd : d < 40) (hn : nl < 24) (hy : 1 ≤ y) (hy2 : y ≤ nl) (h : shr S m d nl y 0 T) (hrec : ∀ T', shr S m d nl (y - 1) 0 T' → ok (rec (T', nI (y - 1))) Q) : ok (c_w (b_X9_line_166 m (nI d) rec (nI y)) c_N (T, nI 0)) Q := by
  refine ok_cnt (Q := Q) 6 (fun z a => ∃ T, a = (T, nI z) ∧ shr S m d nl y z T) ?_ ?_ c_N 0 _ (by omega) ⟨T, rfl, h⟩ (N_big (by omega))
  · rintro z a rec2 hz ⟨T, rfl, q1, q2⟩ hrec2
    have hsT := RS_fq hs q1
    have er := r_of hsT hd (show y - 1 < 24 by omega) hz
    have e1 : st_ri T (m + 25) (6 * (24 * d + (y - 1)) + z) = st_ri S (m + 25) (6 * (24 * d + (y - 1)) + z) := by
      rw [q2, if_neg (by omega)]
    rw [e1] at er
    have st : b_X9_line_166 m (nI d) rec (nI y) rec2 (T, nI z) = rec2 (st_wi T (m + 25) (6 * (24 * d + y) + z) (st_ri S (m + 25) (6 * (24 * d + (y - 1)) + z)), nI (z + 1)) := by
      clear hrec hrec2 h q1 q2 e1
      simp (disch := first | omega | assumption | (repeat first | assumption | apply RS_pi | apply RS_wi | apply RS_wl | apply CS_pi | apply CS_wi | apply CS_wl | apply CS_wo | apply CS_xo | apply RI_w15 | apply RI_w16 | apply RI_w17 | apply RI_w26 | apply RI_w27 | apply RI_w28 | apply RI_p1000)) only [b_X9_line_166, ↓reduceIte, ↓xg, ↓xi, ↓xl_wi, ↓xl_wl, ↓xl_pi, ↓xlI, ↓xlL, ↓xlN, xl, ↓xn, ↓xc, ↓xon, ↓xos, ↓ln_1, ↓ln_2, ↓ln_3, ↓ln_8, qli_0, qli_1, qli_2, qli_3, qli_4, qli_5, qli_6, qli_7, qli_8, qli_9, qli_10, qli_11, qli_12, qli_13, qli_14, qli_15, qli_16, qli_17, qli_18, qli_19, qli_20, qli_21, qli_22, qli_23, qli_24, qli_25, qli_26, qli_31, qli_32, qli_37, qli_39, qli_40, qli_41, qli_42, qli_43, qli_45, qli_47, qli_48, qli_49, qli_50, qli_56, qli_57, qli_59, qli_60, qli_61, qli_63, qli_64, qli_96, qli_97, qli_99, qli_100, qli_101, qli_122, qli_126, qli_143, qli_144, qli_192, qli_200, qli_201, qli_216, qli_255, qli_256, qli_780, qli_799, qli_800, qli_801, qli_802, qli_880, qli_1000, qli_5760, qli_7040, qli_7920, qli_1000000, in_t, le_t, le_f, lt_t, lt_f, eq_t, eq_f, nI_add, nI_sub', nI_mul, nI_clamp, m1_ne, m1_ne', m1_lt, m1_le, m1_nlt, m1_nle, m1_add, eq_self, not_true_eq_false, not_false_eq_true, ne_eq, Nat.reduceLeDiff, Nat.reduceLT, and_true, true_and, and_self, or_true, true_or, or_false, false_or, false_and, and_false, qK_pi, qK_pr, qK_wi, qK_wl, qK_wo, qK_xi, qK_xo, qfr_pi', qfr_wi', qfr_wl', qfr_wo', qfr_xi', qfr_xo', qfi_pr, qfi_wi, qfi_wl, qfi_wo, qfi_xi, qfi_xo, qln_pi, qln_pr, qln_wi, qln_wl, qln_wo, qln_xi, qln_xo, qri_pi, qri_pr, qri_wl, qri_wo, qri_xo, qrl_pi, qrl_pr, qrl_wi, qrl_wo, qrl_xi, qrl_xo, qro_pi, qro_pr, qro_wi, qro_wl, qro_xi, qnx_pi, qnx_pr, qnx_wi, qnx_wl, qnx_wo, qnx_xi, qnx_xo, qsa_pi, qsa_wi, qsa_wl, qsa_pr, qsa_wo, fi_pi_at, fi_pi_nk, fi_pi_na, ri_wi_at, ri_wi_ne, ri_wi_nj, rl_wl_at, rl_wl_ne, rl_wl_nj, fr_pr_at, fr_pr_nk, fr_pr_na, hsT, ↓rn_1034, ↓c_s er]
    rw [st]
    refine hrec2 _ ⟨_, rfl, fq_wi q1 rfl, fun i => ?_⟩
    by_cases c : i = 6 * (24 * d + y) + z
    · rw [c, ri_wi_at, if_pos (by omega)]
      congr 1
      omega
    · rw [ri_wi_nj _ _ _ _ _ _ c, q2]
      by_cases c2 : (6 * (24 * d + y) ≤ i ∧ i < 6 * (24 * d + y) + z) ∨ (6 * (24 * d + (y + 1)) ≤ i ∧ i < 6 * (24 * d + (nl + 1)))
      · rw [if_pos c2, if_pos (by omega)]
      · rw [if_neg c2, if_neg (by omega)]
  · rintro a rec2 ⟨T, rfl, q1, q2⟩
    have st : b_X9_line_166 m (nI d) rec (nI y) rec2 (T, nI 6) = rec (T, nI (y - 1)) := by
      clear hrec h q1 q2
      simp (disch := first | omega | assumption | (repeat first | assumption | apply RS_pi | apply RS_wi | apply RS_wl | apply CS_pi | apply CS_wi | apply CS_wl | apply CS_wo | apply CS_xo | apply RI_w15 | apply RI_w16 | apply RI_w17 | apply RI_w26 | apply RI_w27 | apply RI_w28 | apply RI_p1000)) only [b_X9_line_166, ↓reduceIte, ↓xg, ↓xi, ↓xl_wi, ↓xl_wl, ↓xl_pi, ↓xlI, ↓xlL, ↓xlN, xl, ↓xn, ↓xc, ↓xon, ↓xos, ↓ln_1, ↓ln_2, ↓ln_3, ↓ln_8, qli_0, qli_1, qli_2, qli_3, qli_4, qli_5, qli_6, qli_7, qli_8, qli_9, qli_10, qli_11, qli_12, qli_13, qli_14, qli_15, qli_16, qli_17, qli_18, qli_19, qli_20, qli_21, qli_22, qli_23, qli_24, qli_25, qli_26, qli_31, qli_32, qli_37, qli_39, qli_40, qli_41, qli_42, qli_43, qli_45, qli_47, qli_48, qli_49, qli_50, qli_56, qli_57, qli_59, qli_60, qli_61, qli_63, qli_64, qli_96, qli_97, qli_99, qli_100, qli_101, qli_122, qli_126, qli_143, qli_144, qli_192, qli_200, qli_201, qli_216, qli_255, qli_256, qli_780, qli_799, qli_800, qli_801, qli_802, qli_880, qli_1000, qli_5760, qli_7040, qli_7920, qli_1000000, in_t, le_t, le_f, lt_t, lt_f, eq_t, eq_f, nI_add, nI_sub', nI_mul, nI_clamp, m1_ne, m1_ne', m1_lt, m1_le, m1_nlt, m1_nle, m1_add, eq_self, not_true_eq_false, not_false_eq_true, ne_eq, Nat.reduceLeDiff, Nat.reduceLT, and_true, true_and, and_self, or_true, true_or, or_false, false_or, false_and, and_false, qK_pi, qK_pr, qK_wi, qK_wl, qK_wo, qK_xi, qK_xo, qfr_pi', qfr_wi', qfr_wl', qfr_wo', qfr_xi', qfr_xo', qfi_pr, qfi_wi, qfi_wl, qfi_wo, qfi_xi, qfi_xo, qln_pi, qln_pr, qln_wi, qln_wl, qln_wo, qln_xi, qln_xo, qri_pi, qri_pr, qri_wl, qri_wo, qri_xo, qrl_pi, qrl_pr, qrl_wi, qrl_wo, qrl_xi, qrl_xo, qro_pi, qro_pr, qro_wi, qro_wl, qro_xi, qnx_pi, qnx_pr, qnx_wi, qnx_wl, qnx_wo, qnx_xi, qnx_xo, qsa_pi, qsa_wi, qsa_wl, qsa_pr, qsa_wo, fi_pi_at, fi_pi_nk, fi_pi_na, ri_wi_at, ri_wi_ne, ri_wi_nj, rl_wl_at, rl_wl_ne, rl_wl_nj, fr_pr_at, fr_pr_nk, fr_pr_na]
    rw [st]
    refine hrec T ⟨q1, fun i => ?_⟩
    rw [q2]
    by_cases c2 : (6 * (24 * d + y) ≤ i ∧ i < 6 * (24 * d + y) + 6) ∨ (6 * (24 * d + (y + 1)) ≤ i ∧ i < 6 * (24 * d + (nl + 1)))
    · rw [if_pos c2, if_pos (by omega)]
    · rw [if_neg c2, if_neg (by omega)]
theorem rI_line {d p : Nat} {l : Nat → Nat} (h : RI S m M) (hw : wM M) (hd : d < m_D M) (hn : m_nl M d < 24) (hp : p ≤ m_nl M d) (hs : RS S' m) (g : fq (fun a => a = m + 25 ∨ a = m + 24) (fun k a => k = 1000 ∧ a = m) S S') (h24 : ∀ i, st_ri S' (m + 24) i = if i = d then nI (m_nl M d + 1) else st_ri S (m + 24) i) (h25 : ∀ i, st_ri S' (m + 25) i = if 6 * (24 * d + p) ≤ i ∧ i < 6 * (24 * d + p) + 6 then nI (l (i - 6 * (24 * d + p))) else if 6 * (24 * d + (p + 1)) ≤ i ∧ i < 6 * (24 * d + (m_nl M d + 1)) then st_ri S (m + 25) (i - 6) else st_ri S (m + 25) i) : RI S' m (m_line M d p l) := by
  obtain ⟨a0, a1, a2, a3, a4, a5, a6, a7, a8, a9, a10, a11, a12⟩ := h
  have e : ∀ i, i ≠ 24 → i ≠ 25 → st_ri S' (m + i) = st_ri S (m + i) := fun i q1 q2 => fq_ri g (by omega)
  have gk : ∀ k, k ≠ 1000 → st_fi S' k m = st_fi S k m := fun k hk => fq_fi g (fun z => hk z.1)
  refine ⟨hs, ?_, ?_, ?_, fun i hi => ?_, fun i k w hi hk hw' => ?_, ?_, ?_, ?_, ?_, ?_, ?_, ?_⟩
  · rw [e 18 (by omega) (by omega)]; exact a1
  · rw [gk 1027 (by omega)]; exact a2
  · rw [e 19 (by omega) (by omega), e 20 (by omega) (by omega), e 21 (by omega) (by omega), e 22 (by omega) (by omega), e 23 (by omega) (by omega)]; exact a3
  · rw [h24, nl_line]
    by_cases c : i = d
    · rw [if_pos c, if_pos c]
    · rw [if_neg c, if_neg c]
      exact a4 i hi
  · have hi2 : i < m_D M := hi
    have hD := wM_D hw
    rw [nl_line] at hk
    have hnl := wM_nl hw i
    rw [h25, lv_line]
    by_cases c : i = d
    · rw [if_pos c] at hk ⊢
      subst c
      by_cases c1 : k < p
      · rw [ins_l c1, if_neg (by omega), if_neg (by omega)]
        exact a5 i k w hi2 (by omega) hw'
      · by_cases c2 : k = p
        · subst c2
          rw [ins_e, if_pos (by omega)]
          congr 2
          omega
        · rw [ins_g (by omega), if_neg (by omega), if_pos (by omega)]
          have q := a5 i (k - 1) w hi2 (by omega) hw'
          have e1 : 6 * (24 * i + (k - 1)) + w = 6 * (24 * i + k) + w - 6 := by omega
          rw [e1] at q
          exact q
    · rw [if_neg c] at hk ⊢
      rw [if_neg (by omega), if_neg (by omega)]
      exact a5 i k w hi2 hk hw'
  · rw [gk 1002 (by omega)]; exact a6
  · rw [e 1 (by omega) (by omega)]; exact a7
  · rw [e 29 (by omega) (by omega)]; exact a8
  · rw [gk 1011 (by omega)]; exact a9
  · rw [gk 1010 (by omega)]; exact a10
  · exact fun t ht => RT_ri (a11 t ht) (e 6 (by omega) (by omega)) (e 7 (by omega) (by omega)) (e 8 (by omega) (by omega)) (e 9 (by omega) (by omega)) (e 10 (by omega) (by omega)) (e 11 (by omega) (by omega))
  · rw [fq_rl g (show ¬ (m + 5 = m + 25 ∨ m + 5 = m + 24) by omega)]; exact a12
/-- the tens of the new line -/
theorem r_line_ov {d p a b : Nat} {x4 x5 x6 x7 : Int32} (h : RI S m M) (hw : wM M) (hd : d < m_D M) (hab : a ≤ b) (hb : b ≤ 143) (hi : isI M d a p) (h1 : p < m_nl M d) (h2 : m_lv M d p 0 ≤ b) : c_w (b_X9_line_112 m (nI d) (nI a) (nI b) x4 x5 x6 x7) c_N (S, nI a) = some (m1, S) := by
  obtain ⟨i1, i2, i3⟩ := hi
  have hs := RI_s h
  have i3' := i3 h1
  have hle := (wM_lv hw h1).1
  have hnl := wM_nl hw d
  have go : ∀ t, a ≤ t → t ≤ m_lv M d p 1 → isI M d t p := fun t q1 q2 => ⟨i1, fun j hj => by have := i2 j hj; omega, fun _ => q2⟩
  have key : ∀ t0, (t0 = if a < m_lv M d p 0 then m_lv M d p 0 else a) → c_w (b_X9_line_112 m (nI d) (nI a) (nI b) x4 x5 x6 x7) c_N (S, nI a) = some (m1, S) := by
    intro t0 ht
    have t1 : a ≤ t0 ∧ t0 ≤ b ∧ m_lv M d p 0 ≤ t0 ∧ t0 ≤ m_lv M d p 1 ∧ ∀ t, a ≤ t → t < t0 → t < m_lv M d p 0 := by
      rw [ht]
      split
      · exact ⟨by omega, by omega, by omega, by omega, fun t _ _ => by omega⟩
      · exact ⟨by omega, by omega, by omega, by omega, fun t _ _ => by omega⟩
    obtain ⟨u1, u2, u3, u4, u5⟩ := t1
    refine w_cf t0 a (fun t => (S, nI t)) (fun t q1 q2 rec => ?_) (fun rec => ?_) c_N u1 (N_big (by omega))
    · have y := u5 t q1 q2
      have el := r_lineAt h hw hd (show t ≤ 143 by omega) (go t q1 (by omega))
      unfold la at el
      rw [if_neg (by omega)] at el
      clear h hw i2 i3 go u5
      generalize c_N = N
      simp (disch := first | omega | assumption | (repeat first | assumption | apply RS_pi | apply RS_wi | apply RS_wl | apply CS_pi | apply CS_wi | apply CS_wl | apply CS_wo | apply CS_xo | apply RI_w15 | apply RI_w16 | apply RI_w17 | apply RI_w26 | apply RI_w27 | apply RI_w28 | apply RI_p1000)) only [b_X9_line_112, ↓reduceIte, ↓xg, ↓xi, ↓xl_wi, ↓xl_wl, ↓xl_pi, ↓xlI, ↓xlL, ↓xlN, xl, ↓xn, ↓xc, ↓xon, ↓xos, ↓ln_1, ↓ln_2, ↓ln_3, ↓ln_8, qli_0, qli_1, qli_2, qli_3, qli_4, qli_5, qli_6, qli_7, qli_8, qli_9, qli_10, qli_11, qli_12, qli_13, qli_14, qli_15, qli_16, qli_17, qli_18, qli_19, qli_20, qli_21, qli_22, qli_23, qli_24, qli_25, qli_26, qli_31, qli_32, qli_37, qli_39, qli_40, qli_41, qli_42, qli_43, qli_45, qli_47, qli_48, qli_49, qli_50, qli_56, qli_57, qli_59, qli_60, qli_61, qli_63, qli_64, qli_96, qli_97, qli_99, qli_100, qli_101, qli_122, qli_126, qli_143, qli_144, qli_192, qli_200, qli_201, qli_216, qli_255, qli_256, qli_780, qli_799, qli_800, qli_801, qli_802, qli_880, qli_1000, qli_5760, qli_7040, qli_7920, qli_1000000, in_t, le_t, le_f, lt_t, lt_f, eq_t, eq_f, nI_add, nI_sub', nI_mul, nI_clamp, m1_ne, m1_ne', m1_lt, m1_le, m1_nlt, m1_nle, m1_add, eq_self, not_true_eq_false, not_false_eq_true, ne_eq, Nat.reduceLeDiff, Nat.reduceLT, and_true, true_and, and_self, or_true, true_or, or_false, false_or, false_and, and_false, qK_pi, qK_pr, qK_wi, qK_wl, qK_wo, qK_xi, qK_xo, qfr_pi', qfr_wi', qfr_wl', qfr_wo', qfr_xi', qfr_xo', qfi_pr, qfi_wi, qfi_wl, qfi_wo, qfi_xi, qfi_xo, qln_pi, qln_pr, qln_wi, qln_wl, qln_wo, qln_xi, qln_xo, qri_pi, qri_pr, qri_wl, qri_wo, qri_xo, qrl_pi, qrl_pr, qrl_wi, qrl_wo, qrl_xi, qrl_xo, qro_pi, qro_pr, qro_wi, qro_wl, qro_xi, qnx_pi, qnx_pr, qnx_wi, qnx_wl, qnx_wo, qnx_xi, qnx_xo, qsa_pi, qsa_wi, qsa_wl, qsa_pr, qsa_wo, fi_pi_at, fi_pi_nk, fi_pi_na, ri_wi_at, ri_wi_ne, ri_wi_nj, rl_wl_at, rl_wl_ne, rl_wl_nj, fr_pr_at, fr_pr_nk, fr_pr_na, hs, ↓c_s el, m1_neg]
    · have el := r_lineAt h hw hd (show t0 ≤ 143 by omega) (go t0 u1 u4)
      unfold la at el
      rw [if_pos ⟨h1, u3⟩] at el
      clear h hw i2 i3 go u5
      generalize c_N = N
      simp (disch := first | omega | assumption | (repeat first | assumption | apply RS_pi | apply RS_wi | apply RS_wl | apply CS_pi | apply CS_wi | apply CS_wl | apply CS_wo | apply CS_xo | apply RI_w15 | apply RI_w16 | apply RI_w17 | apply RI_w26 | apply RI_w27 | apply RI_w28 | apply RI_p1000)) only [b_X9_line_112, ↓reduceIte, ↓xg, ↓xi, ↓xl_wi, ↓xl_wl, ↓xl_pi, ↓xlI, ↓xlL, ↓xlN, xl, ↓xn, ↓xc, ↓xon, ↓xos, ↓ln_1, ↓ln_2, ↓ln_3, ↓ln_8, qli_0, qli_1, qli_2, qli_3, qli_4, qli_5, qli_6, qli_7, qli_8, qli_9, qli_10, qli_11, qli_12, qli_13, qli_14, qli_15, qli_16, qli_17, qli_18, qli_19, qli_20, qli_21, qli_22, qli_23, qli_24, qli_25, qli_26, qli_31, qli_32, qli_37, qli_39, qli_40, qli_41, qli_42, qli_43, qli_45, qli_47, qli_48, qli_49, qli_50, qli_56, qli_57, qli_59, qli_60, qli_61, qli_63, qli_64, qli_96, qli_97, qli_99, qli_100, qli_101, qli_122, qli_126, qli_143, qli_144, qli_192, qli_200, qli_201, qli_216, qli_255, qli_256, qli_780, qli_799, qli_800, qli_801, qli_802, qli_880, qli_1000, qli_5760, qli_7040, qli_7920, qli_1000000, in_t, le_t, le_f, lt_t, lt_f, eq_t, eq_f, nI_add, nI_sub', nI_mul, nI_clamp, m1_ne, m1_ne', m1_lt, m1_le, m1_nlt, m1_nle, m1_add, eq_self, not_true_eq_false, not_false_eq_true, ne_eq, Nat.reduceLeDiff, Nat.reduceLT, and_true, true_and, and_self, or_true, true_or, or_false, false_or, false_and, and_false, qK_pi, qK_pr, qK_wi, qK_wl, qK_wo, qK_xi, qK_xo, qfr_pi', qfr_wi', qfr_wl', qfr_wo', qfr_xi', qfr_xo', qfi_pr, qfi_wi, qfi_wl, qfi_wo, qfi_xi, qfi_xo, qln_pi, qln_pr, qln_wi, qln_wl, qln_wo, qln_xi, qln_xo, qri_pi, qri_pr, qri_wl, qri_wo, qri_xo, qrl_pi, qrl_pr, qrl_wi, qrl_wo, qrl_xi, qrl_xo, qro_pi, qro_pr, qro_wi, qro_wl, qro_xi, qnx_pi, qnx_pr, qnx_wi, qnx_wl, qnx_wo, qnx_xi, qnx_xo, qsa_pi, qsa_wi, qsa_wl, qsa_pr, qsa_wo, fi_pi_at, fi_pi_nk, fi_pi_na, ri_wi_at, ri_wi_ne, ri_wi_nj, rl_wl_at, rl_wl_ne, rl_wl_nj, fr_pr_at, fr_pr_nk, fr_pr_na, hs, ↓c_s el]
  exact key _ rfl
theorem r_line_go {d p a b : Nat} {x4 x5 x6 x7 : Int32} (h : RI S m M) (hw : wM M) (hd : d < m_D M) (hab : a ≤ b) (hb : b ≤ 143) (hi : isI M d a p) (hv : p < m_nl M d → b < m_lv M d p 0) : c_w (b_X9_line_112 m (nI d) (nI a) (nI b) x4 x5 x6 x7) c_N (S, nI a) = c_w (b_X9_line_144 m (nI d) (nI a) (nI b) x4 x5 x6 x7) c_N (S, nI (m_nl M d)) := by
  obtain ⟨i1, i2, i3⟩ := hi
  have hs := RI_s h
  have hnl := wM_nl hw d
  have hD := wM_D hw
  have jn := RI_nl h (show d < 40 by omega)
  refine w_cf (b + 1) a (fun t => (S, nI t)) (fun t q1 q2 rec => ?_) (fun rec => ?_) c_N (by omega) (N_big (by omega))
  · have el := r_lineAt h hw hd (show t ≤ 143 by omega) (i := p) ⟨i1, fun j hj => by have := i2 j hj; omega, fun z => by have := hv z; have := (wM_lv hw z).1; omega⟩
    unfold la at el
    rw [if_neg (fun z => by have := hv z.1; omega)] at el
    clear h hw i2 i3 hv
    generalize c_N = N
    simp (disch := first | omega | assumption | (repeat first | assumption | apply RS_pi | apply RS_wi | apply RS_wl | apply CS_pi | apply CS_wi | apply CS_wl | apply CS_wo | apply CS_xo | apply RI_w15 | apply RI_w16 | apply RI_w17 | apply RI_w26 | apply RI_w27 | apply RI_w28 | apply RI_p1000)) only [b_X9_line_112, ↓reduceIte, ↓xg, ↓xi, ↓xl_wi, ↓xl_wl, ↓xl_pi, ↓xlI, ↓xlL, ↓xlN, xl, ↓xn, ↓xc, ↓xon, ↓xos, ↓ln_1, ↓ln_2, ↓ln_3, ↓ln_8, qli_0, qli_1, qli_2, qli_3, qli_4, qli_5, qli_6, qli_7, qli_8, qli_9, qli_10, qli_11, qli_12, qli_13, qli_14, qli_15, qli_16, qli_17, qli_18, qli_19, qli_20, qli_21, qli_22, qli_23, qli_24, qli_25, qli_26, qli_31, qli_32, qli_37, qli_39, qli_40, qli_41, qli_42, qli_43, qli_45, qli_47, qli_48, qli_49, qli_50, qli_56, qli_57, qli_59, qli_60, qli_61, qli_63, qli_64, qli_96, qli_97, qli_99, qli_100, qli_101, qli_122, qli_126, qli_143, qli_144, qli_192, qli_200, qli_201, qli_216, qli_255, qli_256, qli_780, qli_799, qli_800, qli_801, qli_802, qli_880, qli_1000, qli_5760, qli_7040, qli_7920, qli_1000000, in_t, le_t, le_f, lt_t, lt_f, eq_t, eq_f, nI_add, nI_sub', nI_mul, nI_clamp, m1_ne, m1_ne', m1_lt, m1_le, m1_nlt, m1_nle, m1_add, eq_self, not_true_eq_false, not_false_eq_true, ne_eq, Nat.reduceLeDiff, Nat.reduceLT, and_true, true_and, and_self, or_true, true_or, or_false, false_or, false_and, and_false, qK_pi, qK_pr, qK_wi, qK_wl, qK_wo, qK_xi, qK_xo, qfr_pi', qfr_wi', qfr_wl', qfr_wo', qfr_xi', qfr_xo', qfi_pr, qfi_wi, qfi_wl, qfi_wo, qfi_xi, qfi_xo, qln_pi, qln_pr, qln_wi, qln_wl, qln_wo, qln_xi, qln_xo, qri_pi, qri_pr, qri_wl, qri_wo, qri_xo, qrl_pi, qrl_pr, qrl_wi, qrl_wo, qrl_xi, qrl_xo, qro_pi, qro_pr, qro_wi, qro_wl, qro_xi, qnx_pi, qnx_pr, qnx_wi, qnx_wl, qnx_wo, qnx_xi, qnx_xo, qsa_pi, qsa_wi, qsa_wl, qsa_pr, qsa_wo, fi_pi_at, fi_pi_nk, fi_pi_na, ri_wi_at, ri_wi_ne, ri_wi_nj, rl_wl_at, rl_wl_ne, rl_wl_nj, fr_pr_at, fr_pr_nk, fr_pr_na, hs, ↓c_s el, m1_neg]
  · clear h hw i2 i3 hv
    unfold b_X9_line_112
    generalize c_N = N
    simp (disch := first | omega | assumption | (repeat first | assumption | apply RS_pi | apply RS_wi | apply RS_wl | apply CS_pi | apply CS_wi | apply CS_wl | apply CS_wo | apply CS_xo | apply RI_w15 | apply RI_w16 | apply RI_w17 | apply RI_w26 | apply RI_w27 | apply RI_w28 | apply RI_p1000)) only [↓reduceIte, ↓xg, ↓xi, ↓xl_wi, ↓xl_wl, ↓xl_pi, ↓xlI, ↓xlL, ↓xlN, xl, ↓xn, ↓xc, ↓xon, ↓xos, ↓ln_1, ↓ln_2, ↓ln_3, ↓ln_8, qli_0, qli_1, qli_2, qli_3, qli_4, qli_5, qli_6, qli_7, qli_8, qli_9, qli_10, qli_11, qli_12, qli_13, qli_14, qli_15, qli_16, qli_17, qli_18, qli_19, qli_20, qli_21, qli_22, qli_23, qli_24, qli_25, qli_26, qli_31, qli_32, qli_37, qli_39, qli_40, qli_41, qli_42, qli_43, qli_45, qli_47, qli_48, qli_49, qli_50, qli_56, qli_57, qli_59, qli_60, qli_61, qli_63, qli_64, qli_96, qli_97, qli_99, qli_100, qli_101, qli_122, qli_126, qli_143, qli_144, qli_192, qli_200, qli_201, qli_216, qli_255, qli_256, qli_780, qli_799, qli_800, qli_801, qli_802, qli_880, qli_1000, qli_5760, qli_7040, qli_7920, qli_1000000, in_t, le_t, le_f, lt_t, lt_f, eq_t, eq_f, nI_add, nI_sub', nI_mul, nI_clamp, m1_ne, m1_ne', m1_lt, m1_le, m1_nlt, m1_nle, m1_add, eq_self, not_true_eq_false, not_false_eq_true, ne_eq, Nat.reduceLeDiff, Nat.reduceLT, and_true, true_and, and_self, or_true, true_or, or_false, false_or, false_and, and_false, qK_pi, qK_pr, qK_wi, qK_wl, qK_wo, qK_xi, qK_xo, qfr_pi', qfr_wi', qfr_wl', qfr_wo', qfr_xi', qfr_xo', qfi_pr, qfi_wi, qfi_wl, qfi_wo, qfi_xi, qfi_xo, qln_pi, qln_pr, qln_wi, qln_wl, qln_wo, qln_xi, qln_xo, qri_pi, qri_pr, qri_wl, qri_wo, qri_xo, qrl_pi, qrl_pr, qrl_wi, qrl_wo, qrl_xi, qrl_xo, qro_pi, qro_pr, qro_wi, qro_wl, qro_xi, qnx_pi, qnx_pr, qnx_wi, qnx_wl, qnx_wo, qnx_xi, qnx_xo, qsa_pi, qsa_wi, qsa_wl, qsa_pr, qsa_wo, fi_pi_at, fi_pi_nk, fi_pi_na, ri_wi_at, ri_wi_ne, ri_wi_nj, rl_wl_at, rl_wl_ne, rl_wl_nj, fr_pr_at, fr_pr_nk, fr_pr_na, hs, ↓rn_1033, jn]
theorem r_line_wr {d p n : Nat} {y2 y3 y4 y5 y6 y7 : Int32} (hs : RS T m) (hd : d < 40) (hp : p < 24) (hn : n < 24) (jT : st_ri T (m + 24) d = nI n) : j_X9_line_214 m (nI d) y2 y3 y4 y5 y6 y7 (nI p) T = some (nI (n + 1), st_wi (st_wi (st_wi (st_wi (st_wi (st_wi (st_wi T (m + 25) (6 * (24 * d + p) + 0) y2) (m + 25) (6 * (24 * d + p) + 1) y3) (m + 25) (6 * (24 * d + p) + 2) y4) (m + 25) (6 * (24 * d + p) + 3) y5) (m + 25) (6 * (24 * d + p) + 4) y6) (m + 25) (6 * (24 * d + p) + 5) y7) (m + 24) d (nI (n + 1))) := by
  obtain ⟨B, hB⟩ : ∃ B, B = 6 * (24 * d + p) := ⟨_, rfl⟩
  have eB : (6 : Int32) * ((24 * nI d) + nI p) = nI B := by simp only [qli_0, qli_1, qli_2, qli_3, qli_4, qli_5, qli_6, qli_7, qli_8, qli_9, qli_10, qli_11, qli_12, qli_13, qli_14, qli_15, qli_16, qli_17, qli_18, qli_19, qli_20, qli_21, qli_22, qli_23, qli_24, qli_25, qli_26, qli_31, qli_32, qli_37, qli_39, qli_40, qli_41, qli_42, qli_43, qli_45, qli_47, qli_48, qli_49, qli_50, qli_56, qli_57, qli_59, qli_60, qli_61, qli_63, qli_64, qli_96, qli_97, qli_99, qli_100, qli_101, qli_122, qli_126, qli_143, qli_144, qli_192, qli_200, qli_201, qli_216, qli_255, qli_256, qli_780, qli_799, qli_800, qli_801, qli_802, qli_880, qli_1000, qli_5760, qli_7040, qli_7920, qli_1000000, nI_mul, nI_add, hB]
  have hb : B < 5755 := by omega
  unfold j_X9_line_214
  rw [eB, ← hB]
  clear eB hB hp
  have hK : st_K T m = 11 := hs.1
  have h34 : ∀ {β : Type} {k : Nat → Option β}, c_n (st_fr T 1034 m) k = k (m + 25) := fun {_ _} => rn_1034 hs
  have kB : st_K T (m + 25) = 20 := by simp only [hs]
  have lB : st_ln T (m + 25) = 5760 := by simp only [hs]
  have k24 : st_K T (m + 24) = 20 := by simp only [hs]
  have l24 : st_ln T (m + 24) = 40 := by simp only [hs]
  have f33 : st_fr T 1033 m = some (m + 24) := by simp only [hs]
  have ci : ∀ i, i < 6 → c_in (nI B + nI i) 5760 = True := fun i hi => by
    rw [nI_add, in_t (by omega) (by omega)]
  have cl : ∀ i, i < 6 → (nI B + nI i).toNatClampNeg = B + i := fun i hi => by
    rw [nI_add, nI_clamp (by omega)]
  have c24 : c_in (nI d) 40 = True := in_t (by omega) (by omega)
  have l24' : (nI d).toNatClampNeg = d := nI_clamp (by omega)
  have a0 := cl 0 (by omega)
  have a1 := cl 1 (by omega)
  have a2 := cl 2 (by omega)
  have a3 := cl 3 (by omega)
  have a4 := cl 4 (by omega)
  have a5 := cl 5 (by omega)
  have b0 := ci 0 (by omega)
  have b1 := ci 1 (by omega)
  have b2 := ci 2 (by omega)
  have b3 := ci 3 (by omega)
  have b4 := ci 4 (by omega)
  have b5 := ci 5 (by omega)
  clear ci cl hs
  have r24 : ∀ (u : st_T) (j : Nat) (w : Int32), st_ri (st_wi u (m + 25) j w) (m + 24) = st_ri u (m + 24) := fun u j w => ri_wi_ne _ _ _ _ _ (by omega)
  have e1 : nI n + nI 1 = nI (n + 1) := nI_add _ _
  simp only [↓reduceIte, ↓xg, ↓xl, ↓n_s f33, ↓h34, hK, kB, lB, k24, l24, qli_0, qli_1, qli_2, qli_3, qli_4, qli_5, qli_6, qli_7, qli_8, qli_9, qli_10, qli_11, qli_12, qli_13, qli_14, qli_15, qli_16, qli_17, qli_18, qli_19, qli_20, qli_21, qli_22, qli_23, qli_24, qli_25, qli_26, qli_31, qli_32, qli_37, qli_39, qli_40, qli_41, qli_42, qli_43, qli_45, qli_47, qli_48, qli_49, qli_50, qli_56, qli_57, qli_59, qli_60, qli_61, qli_63, qli_64, qli_96, qli_97, qli_99, qli_100, qli_101, qli_122, qli_126, qli_143, qli_144, qli_192, qli_200, qli_201, qli_216, qli_255, qli_256, qli_780, qli_799, qli_800, qli_801, qli_802, qli_880, qli_1000, qli_5760, qli_7040, qli_7920, qli_1000000, a0, a1, a2, a3, a4, a5, b0, b1, b2, b3, b4, b5, c24, l24', qK_wi, qln_wi, qfr_wi', r24, jT, e1, ri_wi_at]
theorem r_line_in {d p a b y4 y5 y6 y7 : Nat} (h : RI S m M) (hw : wM M) (hd : d < m_D M) (hn : m_nl M d < 24) (hab : a ≤ b) (hb : b ≤ 143) (hi : isI M d a p) (hv : p < m_nl M d → b < m_lv M d p 0) :
    ok (c_w (b_X9_line_144 m (nI d) (nI a) (nI b) (nI y4) (nI y5) (nI y6) (nI y7)) c_N (S, nI (m_nl M d))) (fun r S' => r = nI (m_nl M d + 1) ∧ RI S' m (m_line M d p (l6 a b y4 y5 y6 y7)) ∧ fq (fun a => a = m + 25 ∨ a = m + 24) (fun k a => k = 1000 ∧ a = m) S S') := by
  obtain ⟨i1, i2, i3⟩ := hi
  have hs := RI_s h
  have hnl := wM_nl hw d
  have hD := wM_D hw
  have jn := RI_nl h (show d < 40 by omega)
  refine ok_cnt (m_nl M d - p) (fun i q => ∃ T, q = (T, nI (m_nl M d - i)) ∧ shr S m d (m_nl M d) (m_nl M d - i) 0 T) ?_ ?_ c_N 0 _ (by omega) ⟨S, rfl, fq_rf, fun i => by rw [if_neg (by omega)]⟩ (N_big (by omega))
  · rintro i q rec hi ⟨T, rfl, q1, q2⟩ hrec
    have hsT := RS_fq hs q1
    obtain ⟨y, hy⟩ : ∃ y, y = m_nl M d - i := ⟨_, rfl⟩
    rw [← hy] at q2 ⊢
    have hy1 : m_nl M d - (i + 1) = y - 1 := by omega
    rw [hy1] at hrec
    have er := r_of hsT (show d < 40 by omega) (show y - 1 < 24 by omega) (show 0 < 6 by omega)
    have e1 : st_ri T (m + 25) (6 * (24 * d + (y - 1)) + 0) = nI (m_lv M d (y - 1) 0) := by
      rw [q2, if_neg (by omega)]
      exact RI_lv h hd (show y - 1 < m_nl M d by omega) (show 0 < 6 by omega)
    rw [e1] at er
    have hlt : a < m_lv M d (y - 1) 0 := by
      have q := hv (by omega)
      by_cases e : y - 1 = p
      · rw [e]; omega
      · have := wM_lt hw (show y - 1 < m_nl M d by omega) (show p < y - 1 by omega)
        have := (wM_lv hw (show p < m_nl M d by omega)).1
        omega
    have hl2 : m_lv M d (y - 1) 0 ≤ 143 := by
      have := wM_lv hw (show y - 1 < m_nl M d by omega)
      have t1 := this.1
      have t2 := this.2.1
      omega
    have st : b_X9_line_144 m (nI d) (nI a) (nI b) (nI y4) (nI y5) (nI y6) (nI y7) rec (T, nI y) = c_w (b_X9_line_166 m (nI d) rec (nI y)) c_N (T, nI 0) := by
      clear hrec h hw i2 i3 hv q1 q2 e1
      unfold b_X9_line_144
      generalize c_N = N
      simp (disch := first | omega | assumption | (repeat first | assumption | apply RS_pi | apply RS_wi | apply RS_wl | apply CS_pi | apply CS_wi | apply CS_wl | apply CS_wo | apply CS_xo | apply RI_w15 | apply RI_w16 | apply RI_w17 | apply RI_w26 | apply RI_w27 | apply RI_w28 | apply RI_p1000)) only [↓reduceIte, ↓xg, ↓xi, ↓xl_wi, ↓xl_wl, ↓xl_pi, ↓xlI, ↓xlL, ↓xlN, xl, ↓xn, ↓xc, ↓xon, ↓xos, ↓ln_1, ↓ln_2, ↓ln_3, ↓ln_8, qli_0, qli_1, qli_2, qli_3, qli_4, qli_5, qli_6, qli_7, qli_8, qli_9, qli_10, qli_11, qli_12, qli_13, qli_14, qli_15, qli_16, qli_17, qli_18, qli_19, qli_20, qli_21, qli_22, qli_23, qli_24, qli_25, qli_26, qli_31, qli_32, qli_37, qli_39, qli_40, qli_41, qli_42, qli_43, qli_45, qli_47, qli_48, qli_49, qli_50, qli_56, qli_57, qli_59, qli_60, qli_61, qli_63, qli_64, qli_96, qli_97, qli_99, qli_100, qli_101, qli_122, qli_126, qli_143, qli_144, qli_192, qli_200, qli_201, qli_216, qli_255, qli_256, qli_780, qli_799, qli_800, qli_801, qli_802, qli_880, qli_1000, qli_5760, qli_7040, qli_7920, qli_1000000, in_t, le_t, le_f, lt_t, lt_f, eq_t, eq_f, nI_add, nI_sub', nI_mul, nI_clamp, m1_ne, m1_ne', m1_lt, m1_le, m1_nlt, m1_nle, m1_add, eq_self, not_true_eq_false, not_false_eq_true, ne_eq, Nat.reduceLeDiff, Nat.reduceLT, and_true, true_and, and_self, or_true, true_or, or_false, false_or, false_and, and_false, qK_pi, qK_pr, qK_wi, qK_wl, qK_wo, qK_xi, qK_xo, qfr_pi', qfr_wi', qfr_wl', qfr_wo', qfr_xi', qfr_xo', qfi_pr, qfi_wi, qfi_wl, qfi_wo, qfi_xi, qfi_xo, qln_pi, qln_pr, qln_wi, qln_wl, qln_wo, qln_xi, qln_xo, qri_pi, qri_pr, qri_wl, qri_wo, qri_xo, qrl_pi, qrl_pr, qrl_wi, qrl_wo, qrl_xi, qrl_xo, qro_pi, qro_pr, qro_wi, qro_wl, qro_xi, qnx_pi, qnx_pr, qnx_wi, qnx_wl, qnx_wo, qnx_xi, qnx_xo, qsa_pi, qsa_wi, qsa_wl, qsa_pr, qsa_wo, fi_pi_at, fi_pi_nk, fi_pi_na, ri_wi_at, ri_wi_ne, ri_wi_nj, rl_wl_at, rl_wl_ne, rl_wl_nj, fr_pr_at, fr_pr_nk, fr_pr_na, hsT, ↓c_s er]
    rw [st]
    exact r_shift hs (by omega) hn (by omega) (by omega) ⟨q1, q2⟩ (fun T' hT => hrec _ ⟨T', rfl, hT⟩)
  · rintro q rec ⟨T, rfl, q1, q2⟩
    have e0 : m_nl M d - (m_nl M d - p) = p := by omega
    rw [e0] at q2 ⊢
    have hsT := RS_fq hs q1
    have st1 : b_X9_line_144 m (nI d) (nI a) (nI b) (nI y4) (nI y5) (nI y6) (nI y7) rec (T, nI p) = j_X9_line_214 m (nI d) (nI a) (nI b) (nI y4) (nI y5) (nI y6) (nI y7) (nI p) T := by
      by_cases z : p = 0
      · subst z
        clear h hw i2 i3 hv q1 q2
        generalize c_N = N
        unfold b_X9_line_144
        simp (disch := first | omega | assumption | (repeat first | assumption | apply RS_pi | apply RS_wi | apply RS_wl | apply CS_pi | apply CS_wi | apply CS_wl | apply CS_wo | apply CS_xo | apply RI_w15 | apply RI_w16 | apply RI_w17 | apply RI_w26 | apply RI_w27 | apply RI_w28 | apply RI_p1000)) only [↓reduceIte, ↓xi, le_t, qli_0, qli_1, qli_2, qli_3, qli_4, qli_5, qli_6, qli_7, qli_8, qli_9, qli_10, qli_11, qli_12, qli_13, qli_14, qli_15, qli_16, qli_17, qli_18, qli_19, qli_20, qli_21, qli_22, qli_23, qli_24, qli_25, qli_26, qli_31, qli_32, qli_37, qli_39, qli_40, qli_41, qli_42, qli_43, qli_45, qli_47, qli_48, qli_49, qli_50, qli_56, qli_57, qli_59, qli_60, qli_61, qli_63, qli_64, qli_96, qli_97, qli_99, qli_100, qli_101, qli_122, qli_126, qli_143, qli_144, qli_192, qli_200, qli_201, qli_216, qli_255, qli_256, qli_780, qli_799, qli_800, qli_801, qli_802, qli_880, qli_1000, qli_5760, qli_7040, qli_7920, qli_1000000]
      · have er := r_of hsT (show d < 40 by omega) (show p - 1 < 24 by omega) (show 0 < 6 by omega)
        have e1 : st_ri T (m + 25) (6 * (24 * d + (p - 1)) + 0) = nI (m_lv M d (p - 1) 0) := by
          rw [q2, if_neg (by omega)]
          exact RI_lv h hd (show p - 1 < m_nl M d by omega) (show 0 < 6 by omega)
        rw [e1] at er
        have y1 := i2 (p - 1) (by omega)
        have y2 := (wM_lv hw (show p - 1 < m_nl M d by omega)).1
        clear h hw i2 i3 hv q1 q2 e1
        generalize c_N = N
        unfold b_X9_line_144
        generalize j_X9_line_214 = J
        simp (disch := first | omega | assumption | (repeat first | assumption | apply RS_pi | apply RS_wi | apply RS_wl | apply CS_pi | apply CS_wi | apply CS_wl | apply CS_wo | apply CS_xo | apply RI_w15 | apply RI_w16 | apply RI_w17 | apply RI_w26 | apply RI_w27 | apply RI_w28 | apply RI_p1000)) only [↓reduceIte, ↓xg, ↓xi, ↓xl_wi, ↓xl_wl, ↓xl_pi, ↓xlI, ↓xlL, ↓xlN, xl, ↓xn, ↓xc, ↓xon, ↓xos, ↓ln_1, ↓ln_2, ↓ln_3, ↓ln_8, qli_0, qli_1, qli_2, qli_3, qli_4, qli_5, qli_6, qli_7, qli_8, qli_9, qli_10, qli_11, qli_12, qli_13, qli_14, qli_15, qli_16, qli_17, qli_18, qli_19, qli_20, qli_21, qli_22, qli_23, qli_24, qli_25, qli_26, qli_31, qli_32, qli_37, qli_39, qli_40, qli_41, qli_42, qli_43, qli_45, qli_47, qli_48, qli_49, qli_50, qli_56, qli_57, qli_59, qli_60, qli_61, qli_63, qli_64, qli_96, qli_97, qli_99, qli_100, qli_101, qli_122, qli_126, qli_143, qli_144, qli_192, qli_200, qli_201, qli_216, qli_255, qli_256, qli_780, qli_799, qli_800, qli_801, qli_802, qli_880, qli_1000, qli_5760, qli_7040, qli_7920, qli_1000000, in_t, le_t, le_f, lt_t, lt_f, eq_t, eq_f, nI_add, nI_sub', nI_mul, nI_clamp, m1_ne, m1_ne', m1_lt, m1_le, m1_nlt, m1_nle, m1_add, eq_self, not_true_eq_false, not_false_eq_true, ne_eq, Nat.reduceLeDiff, Nat.reduceLT, and_true, true_and, and_self, or_true, true_or, or_false, false_or, false_and, and_false, qK_pi, qK_pr, qK_wi, qK_wl, qK_wo, qK_xi, qK_xo, qfr_pi', qfr_wi', qfr_wl', qfr_wo', qfr_xi', qfr_xo', qfi_pr, qfi_wi, qfi_wl, qfi_wo, qfi_xi, qfi_xo, qln_pi, qln_pr, qln_wi, qln_wl, qln_wo, qln_xi, qln_xo, qri_pi, qri_pr, qri_wl, qri_wo, qri_xo, qrl_pi, qrl_pr, qrl_wi, qrl_wo, qrl_xi, qrl_xo, qro_pi, qro_pr, qro_wi, qro_wl, qro_xi, qnx_pi, qnx_pr, qnx_wi, qnx_wl, qnx_wo, qnx_xi, qnx_xo, qsa_pi, qsa_wi, qsa_wl, qsa_pr, qsa_wo, fi_pi_at, fi_pi_nk, fi_pi_na, ri_wi_at, ri_wi_ne, ri_wi_nj, rl_wl_at, rl_wl_ne, rl_wl_nj, fr_pr_at, fr_pr_nk, fr_pr_na, hsT, ↓c_s er]
    rw [st1]
    have jT : st_ri T (m + 24) d = nI (m_nl M d) := by
      rw [fq_ri q1 (show ¬ (m + 24 = m + 25) by omega)]
      exact jn
    have st2 : j_X9_line_214 m (nI d) (nI a) (nI b) (nI y4) (nI y5) (nI y6) (nI y7) (nI p) T = some (nI (m_nl M d + 1), st_wi (st_wi (st_wi (st_wi (st_wi (st_wi (st_wi T (m + 25) (6 * (24 * d + p) + 0) (nI a)) (m + 25) (6 * (24 * d + p) + 1) (nI b)) (m + 25) (6 * (24 * d + p) + 2) (nI y4)) (m + 25) (6 * (24 * d + p) + 3) (nI y5)) (m + 25) (6 * (24 * d + p) + 4) (nI y6)) (m + 25) (6 * (24 * d + p) + 5) (nI y7)) (m + 24) d (nI (m_nl M d + 1))) := by
      exact r_line_wr hsT (by omega) (by omega) (by omega) jT
    rw [st2]
    refine ok_of rfl ⟨rfl, ?_⟩
    have gq : fq (fun a => a = m + 25 ∨ a = m + 24) (fun k a => k = 1000 ∧ a = m) S (st_wi (st_wi (st_wi (st_wi (st_wi (st_wi (st_wi T (m + 25) (6 * (24 * d + p) + 0) (nI a)) (m + 25) (6 * (24 * d + p) + 1) (nI b)) (m + 25) (6 * (24 * d + p) + 2) (nI y4)) (m + 25) (6 * (24 * d + p) + 3) (nI y5)) (m + 25) (6 * (24 * d + p) + 4) (nI y6)) (m + 25) (6 * (24 * d + p) + 5) (nI y7)) (m + 24) d (nI (m_nl M d + 1))) := fq_wi (fq_wi (fq_wi (fq_wi (fq_wi (fq_wi (fq_wi (fq_mono q1 (fun a z => Or.inl z) (fun k a z => z.elim)) (Or.inl rfl)) (Or.inl rfl)) (Or.inl rfl)) (Or.inl rfl)) (Or.inl rfl)) (Or.inl rfl)) (Or.inr rfl)
    refine ⟨rI_line h hw hd hn i1 (RS_fq hs gq) gq (fun i => ?_) (fun i => ?_), gq⟩
    · by_cases c : i = d
      · rw [if_pos c, c, ri_wi_at]
      · rw [if_neg c, ri_wi_nj _ _ _ _ _ _ c]
        simp (disch := omega) only [ri_wi_ne]
        rw [fq_ri q1 (show ¬ (m + 24 = m + 25) by omega)]
    · obtain ⟨B, hB⟩ : ∃ B, B = 6 * (24 * d + p) := ⟨_, rfl⟩
      have hB1 : 6 * (24 * d + (p + 1)) = B + 6 := by omega
      rw [hB1] at q2 ⊢
      rw [← hB] at q2 ⊢
      rw [ri_wi_ne _ _ _ _ _ (show m + 25 ≠ m + 24 by omega)]
      by_cases c : B ≤ i ∧ i < B + 6
      · rw [if_pos c]
        have key : i = B + 0 ∨ i = B + 1 ∨ i = B + 2 ∨ i = B + 3 ∨ i = B + 4 ∨ i = B + 5 := by omega
        rcases key with z | z | z | z | z | z <;> subst z <;> simp (disch := omega) only [Nat.add_zero, Nat.sub_self, ri_wi_at, ri_wi_nj, Nat.add_sub_cancel_left] <;> rfl
      · rw [if_neg c]
        simp (disch := omega) only [ri_wi_nj]
        rw [q2]
        by_cases c2 : B + 6 ≤ i ∧ i < 6 * (24 * d + (m_nl M d + 1))
        · rw [if_pos (Or.inr c2), if_pos c2]
        · rw [if_neg (by omega), if_neg c2]
end LR
