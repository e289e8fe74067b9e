/-! rounds: weights -/
section WE
variable {β : Type} {S S0 : st_T} {m x v : Nat} {M : mT} {A : aT}
/-- M with other weights -/
def m_w (M : mT) (f : Nat → Nat) : mT := (M.1, M.2.1, (fun i j => if j = 4 then f i else m_dd M i j), M.2.2.2)
theorem m_w_id (M : mT) : m_w M (fun i => m_dd M i 4) = M := by
  unfold m_w
  have : (fun i j => if j = 4 then m_dd M i 4 else m_dd M i j) = m_dd M := by
    funext i j
    by_cases e : j = 4
    · rw [if_pos e, e]
    · rw [if_neg e]
  rw [this]
  rfl
theorem wM_w {f : Nat → Nat} (h : wM M) (hf : ∀ i, f i ≤ 1000000000) : wM (m_w M f) := by
  obtain ⟨a1, a2, a3, a4⟩ := h
  exact ⟨a1, a2, fun i => ⟨(a3 i).1, (a3 i).2.1, (a3 i).2.2.1, (a3 i).2.2.2.1, hf i⟩, a4⟩
theorem cI_w {i u : Nat} {f g : Nat → Nat} (h : CI S x A (m_w M f) v) (hi : i < m_D M) (h1 : g i = u) (h2 : ∀ j, j ≠ i → g j = f j) : CI (st_pi S 205 (a_d A i) (nI u)) x A (m_w M g) v := by
  obtain ⟨c1, c2, c3, c4, c5, c6, c7, c8, c9, c10, c11, c12, c13, c14, c15⟩ := h
  refine ⟨CS_pi _ _ _ c1, SA_ag c2 rfl rfl rfl (fun a ha => rfl), c3, LSt_ag c4 rfl rfl rfl rfl rfl (fi_pi_nk _ _ _ _ _ _ (by omega)), fun j hj => ?_, fun j hj => ?_, LSt_ag c7 rfl rfl rfl rfl rfl (fi_pi_nk _ _ _ _ _ _ (by omega)), fun t ht => TX_ag (c8 t ht) rfl rfl rfl (fi_pi_nk _ _ _ _ _ _ (by omega)) (fun j hj => rfl), ?_, c10, c11, ?_, ?_, ?_, c15⟩
  · obtain ⟨b1, b2, b3, b4, b5, b6, b7, b8, b9⟩ := c5 j hj
    refine ⟨b1, ?_, ?_, ?_, ?_, ?_, b7, LSt_ag b8 rfl rfl rfl rfl rfl (fi_pi_nk _ _ _ _ _ _ (by omega)), fun k hk => CL_ag (b9 k hk) rfl (fun k _ _ => fi_pi_nk _ _ _ _ _ _ (by omega))⟩
    · rw [fi_pi_nk _ _ _ _ _ _ (by omega)]; exact b2
    · rw [fi_pi_nk _ _ _ _ _ _ (by omega)]; exact b3
    · rw [fi_pi_nk _ _ _ _ _ _ (by omega)]; exact b4
    · rw [fi_pi_nk _ _ _ _ _ _ (by omega)]; exact b5
    · show _ = nI (g j)
      by_cases e : j = i
      · rw [e, fi_pi_at, h1]
      · rw [fi_pi_na _ _ _ _ _ _ (fun z => e (AD_di c15 hj hi z)), h2 j e]
        exact b6
  · exact CV_ag (CV_cg (c6 j hj) rfl rfl rfl rfl rfl rfl rfl rfl) (fi_pi_nk _ _ _ _ _ _ (by omega)) (fun k hk l _ _ => fi_pi_nk _ _ _ _ _ _ (by omega))
  · exact (fi_pi_nk _ _ _ _ _ _ (by omega)).trans c9
  · exact (fi_pi_nk _ _ _ _ _ _ (by omega)).trans c12
  · exact (fi_pi_nk _ _ _ _ _ _ (by omega)).trans c13
  · exact (fi_pi_nk _ _ _ _ _ _ (by omega)).trans c14
theorem rI_w {i u : Nat} {f g : Nat → Nat} (h : RI S m (m_w M f)) (h1 : g i = u) (h2 : ∀ j, j ≠ i → g j = f j) : RI (st_wi S (m + 23) i (nI u)) m (m_w M g) := by
  obtain ⟨a0, a1, a2, a3, a4, a5, a6, a7, a8, a9, a10, a11, a12⟩ := h
  refine ⟨RS_wi _ _ _ a0, ?_, a2, ?_, ?_, ?_, a6, ?_, ?_, a9, a10, ?_, a12⟩
  · simp (disch := omega) only [ri_wi_ne]; exact a1
  · intro j hj
    obtain ⟨b1, b2, b3, b4, b5⟩ := a3 j hj
    simp (disch := omega) only [ri_wi_ne]
    refine ⟨b1, b2, b3, b4, ?_⟩
    show _ = nI (g j)
    by_cases e : j = i
    · rw [e, ri_wi_at, h1]
    · rw [ri_wi_nj _ _ _ _ _ _ e, h2 j e]
      exact b5
  · simp (disch := omega) only [ri_wi_ne]; exact a4
  · simp (disch := omega) only [ri_wi_ne]; exact a5
  · simp (disch := omega) only [ri_wi_ne]; exact a7
  · simp (disch := omega) only [ri_wi_ne]; exact a8
  · exact fun t ht => RT_ri (a11 t ht) (ri_wi_ne _ _ _ _ _ (by omega)) (ri_wi_ne _ _ _ _ _ (by omega)) (ri_wi_ne _ _ _ _ _ (by omega)) (ri_wi_ne _ _ _ _ _ (by omega)) (ri_wi_ne _ _ _ _ _ (by omega)) (ri_wi_ne _ _ _ _ _ (by omega))
/-- a sort's new weights: the first n of them -/
def wn (M : mT) (s n : Nat) (d : Nat) : Nat := if d < n ∧ sob M s d ≠ 0 then m_dd M d 4 * m_ct M s * 1000 / sm (wv M s) (m_D M) else m_dd M d 4
theorem sm_ge {f : Nat → Nat} {i n : Nat} (h : i < n) : f i ≤ sm f n := by
  induction n with
  | zero => omega
  | succ n ih =>
    show f i ≤ sm f n + f n
    by_cases e : i = n
    · rw [e]; omega
    · have := ih (by omega); omega
theorem wn_le (hw : wM M) {s n d : Nat} (hn : n ≤ m_D M) : wn M s n d ≤ 1000000000 := by
  have b5 := (wM_dd hw d).2.2.2.2
  have ct := (wM_ct hw s).2
  unfold wn
  split
  · next q =>
    have h1 : wv M s d ≤ sm (wv M s) (m_D M) := sm_ge (by omega)
    have h2 : wv M s d = m_dd M d 4 := by unfold wv; rw [if_neg q.2]
    rw [h2] at h1
    generalize sm (wv M s) (m_D M) = W at *
    by_cases z : W = 0
    · rw [z, Nat.div_zero]; omega
    · apply Nat.div_le_of_le_mul
      calc m_dd M d 4 * m_ct M s * 1000 ≤ W * 1000000 * 1000 := Nat.mul_le_mul_right _ (Nat.mul_le_mul h1 ct)
        _ = W * 1000000000 := by omega
  · exact b5
theorem wc_eq {w c W : Nat} (h1 : w ≤ 1000000000) (h2 : c ≤ 1000000) (h3 : W ≤ 40000000000) : (((nI w).toInt64 * (nI c).toInt64 * 1000) / lN W).toInt32 = nI (w * c * 1000 / W) := by
  have hb : w * c * 1000 ≤ 1000000000 * 1000000 * 1000 := Nat.mul_le_mul_right _ (Nat.mul_le_mul h1 h2)
  have e : (1000 : Int64) = lN 1000 := rfl
  rw [nI_l (by omega), nI_l (by omega), e, lN_mul, lN_mul, lN_div (by omega) (by omega), lN_i]
/-- a sort is weighed -/
def ms (M : mT) (s : Nat) : mT := if sm (wv M s) (m_D M) = 0 then M else m_w M (wn M s (m_D M))
theorem wM_ms (hw : wM M) (s : Nat) : wM (ms M s) := by
  unfold ms
  split
  · exact hw
  · exact wM_w hw (fun i => wn_le hw (Nat.le_refl _))
theorem wn_0 (s : Nat) : m_w M (wn M s 0) = M := by
  have : wn M s 0 = fun i => m_dd M i 4 := by
    funext d
    unfold wn
    rw [if_neg (by omega)]
  rw [this]
  exact m_w_id M
theorem wn_s {s i : Nat} : (∀ j, j ≠ i → wn M s (i + 1) j = wn M s i j) := by
  intro j hj
  unfold wn
  have : (j < i + 1 ∧ sob M s j ≠ 0) = (j < i ∧ sob M s j ≠ 0) := by apply propext; omega
  simp only [this]
theorem wn_at {s i : Nat} : wn M s i i = m_dd M i 4 := by
  unfold wn
  rw [if_neg (by omega)]
theorem wn_n {s i : Nat} (h : sob M s i ≠ 0) : wn M s (i + 1) i = m_dd M i 4 * m_ct M s * 1000 / sm (wv M s) (m_D M) := by
  unfold wn
  rw [if_pos ⟨by omega, h⟩]
theorem wn_z {s i : Nat} (h : sob M s i = 0) : wn M s (i + 1) = wn M s i := by
  funext j
  by_cases e : j = i
  · subst e
    unfold wn
    rw [if_neg (by omega), if_neg (by omega)]
  · exact wn_s j e
theorem c_weigh {s : Nat} (h : CI S x A M v) (hw : wM M) (hs : s < 5) : ok (f_X8_weighSort S x (nI s)) (fun _ S' => CI S' x A (ms M s) v ∧ fc x S S') := by
  have hD := wM_D hw
  have hc := CI_s h
  have hW := W_le hw s (m_D M) hD
  have hct := wM_ct hw s
  unfold f_X8_weighSort ms
  by_cases z : sm (wv M s) (m_D M) = 0
  · rw [if_pos z]
    have e := e_wos h hw hs
    rw [z] at e
    generalize c_N = N
    simp (disch := first | omega | assumption | (repeat first | assumption | apply RS_pi | apply RS_wi | apply RS_wl | apply CS_pi | apply CS_wi | apply CS_wl | apply CS_wo | apply CS_xo | apply RI_w15 | apply RI_w16 | apply RI_w17 | apply RI_w26 | apply RI_w27 | apply RI_w28 | apply RI_p1000)) only [↓reduceIte, ↓xg, ↓xi, ↓xl_wi, ↓xl_wl, ↓xl_pi, ↓xlI, ↓xlL, ↓xlN, xl, ↓xn, ↓xc, ↓xon, ↓xos, ↓ln_1, ↓ln_2, ↓ln_3, ↓ln_8, qli_0, qli_1, qli_2, qli_3, qli_4, qli_5, qli_6, qli_7, qli_8, qli_9, qli_10, qli_11, qli_12, qli_13, qli_14, qli_15, qli_16, qli_17, qli_18, qli_19, qli_20, qli_21, qli_22, qli_23, qli_24, qli_25, qli_26, qli_31, qli_32, qli_37, qli_39, qli_40, qli_41, qli_42, qli_43, qli_45, qli_47, qli_48, qli_49, qli_50, qli_56, qli_57, qli_59, qli_60, qli_61, qli_63, qli_64, qli_96, qli_97, qli_99, qli_100, qli_101, qli_122, qli_126, qli_143, qli_144, qli_192, qli_200, qli_201, qli_216, qli_255, qli_256, qli_780, qli_799, qli_800, qli_801, qli_802, qli_880, qli_1000, qli_5760, qli_7040, qli_7920, qli_1000000, in_t, le_t, le_f, lt_t, lt_f, eq_t, eq_f, nI_add, nI_sub', nI_mul, nI_clamp, m1_ne, m1_ne', m1_lt, m1_le, m1_nlt, m1_nle, m1_add, eq_self, not_true_eq_false, not_false_eq_true, ne_eq, Nat.reduceLeDiff, Nat.reduceLT, and_true, true_and, and_self, or_true, true_or, or_false, false_or, false_and, and_false, qK_pi, qK_pr, qK_wi, qK_wl, qK_wo, qK_xi, qK_xo, qfr_pi', qfr_wi', qfr_wl', qfr_wo', qfr_xi', qfr_xo', qfi_pr, qfi_wi, qfi_wl, qfi_wo, qfi_xi, qfi_xo, qln_pi, qln_pr, qln_wi, qln_wl, qln_wo, qln_xi, qln_xo, qri_pi, qri_pr, qri_wl, qri_wo, qri_xo, qrl_pi, qrl_pr, qrl_wi, qrl_wo, qrl_xi, qrl_xo, qro_pi, qro_pr, qro_wi, qro_wl, qro_xi, qnx_pi, qnx_pr, qnx_wi, qnx_wl, qnx_wo, qnx_xi, qnx_xo, qsa_pi, qsa_wi, qsa_wl, qsa_pr, qsa_wo, fi_pi_at, fi_pi_nk, fi_pi_na, ri_wi_at, ri_wi_ne, ri_wi_nj, rl_wl_at, rl_wl_ne, rl_wl_nj, fr_pr_at, fr_pr_nk, fr_pr_na, hc, ↓c_s e]
    rw [show lg_cmp (lN 0) 0 = nI 0 from lc_0]
    simp (disch := first | omega | assumption | (repeat first | assumption | apply RS_pi | apply RS_wi | apply RS_wl | apply CS_pi | apply CS_wi | apply CS_wl | apply CS_wo | apply CS_xo | apply RI_w15 | apply RI_w16 | apply RI_w17 | apply RI_w26 | apply RI_w27 | apply RI_w28 | apply RI_p1000)) only [↓reduceIte, ↓xg, ↓xi, ↓xl_wi, ↓xl_wl, ↓xl_pi, ↓xlI, ↓xlL, ↓xlN, xl, ↓xn, ↓xc, ↓xon, ↓xos, ↓ln_1, ↓ln_2, ↓ln_3, ↓ln_8, qli_0, qli_1, qli_2, qli_3, qli_4, qli_5, qli_6, qli_7, qli_8, qli_9, qli_10, qli_11, qli_12, qli_13, qli_14, qli_15, qli_16, qli_17, qli_18, qli_19, qli_20, qli_21, qli_22, qli_23, qli_24, qli_25, qli_26, qli_31, qli_32, qli_37, qli_39, qli_40, qli_41, qli_42, qli_43, qli_45, qli_47, qli_48, qli_49, qli_50, qli_56, qli_57, qli_59, qli_60, qli_61, qli_63, qli_64, qli_96, qli_97, qli_99, qli_100, qli_101, qli_122, qli_126, qli_143, qli_144, qli_192, qli_200, qli_201, qli_216, qli_255, qli_256, qli_780, qli_799, qli_800, qli_801, qli_802, qli_880, qli_1000, qli_5760, qli_7040, qli_7920, qli_1000000, in_t, le_t, le_f, lt_t, lt_f, eq_t, eq_f, nI_add, nI_sub', nI_mul, nI_clamp, m1_ne, m1_ne', m1_lt, m1_le, m1_nlt, m1_nle, m1_add, eq_self, not_true_eq_false, not_false_eq_true, ne_eq, Nat.reduceLeDiff, Nat.reduceLT, and_true, true_and, and_self, or_true, true_or, or_false, false_or, false_and, and_false, qK_pi, qK_pr, qK_wi, qK_wl, qK_wo, qK_xi, qK_xo, qfr_pi', qfr_wi', qfr_wl', qfr_wo', qfr_xi', qfr_xo', qfi_pr, qfi_wi, qfi_wl, qfi_wo, qfi_xi, qfi_xo, qln_pi, qln_pr, qln_wi, qln_wl, qln_wo, qln_xi, qln_xo, qri_pi, qri_pr, qri_wl, qri_wo, qri_xo, qrl_pi, qrl_pr, qrl_wi, qrl_wo, qrl_xi, qrl_xo, qro_pi, qro_pr, qro_wi, qro_wl, qro_xi, qnx_pi, qnx_pr, qnx_wi, qnx_wl, qnx_wo, qnx_xi, qnx_xo, qsa_pi, qsa_wi, qsa_wl, qsa_pr, qsa_wo, fi_pi_at, fi_pi_nk, fi_pi_na, ri_wi_at, ri_wi_ne, ri_wi_nj, rl_wl_at, rl_wl_ne, rl_wl_nj, fr_pr_at, fr_pr_nk, fr_pr_na]
    exact ok_of rfl ⟨h, fc_rf⟩
  · rw [if_neg z]
    have e := e_wos h hw hs
    have e2 := lc_p (show sm (wv M s) (m_D M) < 2 ^ 62 by omega) z
    have e3 := lN_ne (show sm (wv M s) (m_D M) < 2 ^ 62 by omega) z
    have st : (c_g (st_K S x = 10) (c_c (f_X8_weightOfSort S x (nI s)) (fun (r2 : Int64) (T2 : st_T) => (c_i ((lg_cmp r2 0) = 0) (some ((), T2)) (c_c (f_X8_isWithin T2 (nI s) 0 4) (fun (r15 : Int32) (T15 : st_T) => (c_i (r15 = 0) (some ((), T15)) (c_w (b_X8_weighSort_25 x (nI s) r2) c_N (T15, 0))))))))) = c_w (b_X8_weighSort_25 x (nI s) (lN (sm (wv M s) (m_D M)))) c_N (S, nI 0) := by
      generalize c_N = N
      simp (disch := first | omega | assumption | (repeat first | assumption | apply RS_pi | apply RS_wi | apply RS_wl | apply CS_pi | apply CS_wi | apply CS_wl | apply CS_wo | apply CS_xo | apply RI_w15 | apply RI_w16 | apply RI_w17 | apply RI_w26 | apply RI_w27 | apply RI_w28 | apply RI_p1000)) only [↓reduceIte, ↓xg, ↓xi, ↓xl_wi, ↓xl_wl, ↓xl_pi, ↓xlI, ↓xlL, ↓xlN, xl, ↓xn, ↓xc, ↓xon, ↓xos, ↓ln_1, ↓ln_2, ↓ln_3, ↓ln_8, qli_0, qli_1, qli_2, qli_3, qli_4, qli_5, qli_6, qli_7, qli_8, qli_9, qli_10, qli_11, qli_12, qli_13, qli_14, qli_15, qli_16, qli_17, qli_18, qli_19, qli_20, qli_21, qli_22, qli_23, qli_24, qli_25, qli_26, qli_31, qli_32, qli_37, qli_39, qli_40, qli_41, qli_42, qli_43, qli_45, qli_47, qli_48, qli_49, qli_50, qli_56, qli_57, qli_59, qli_60, qli_61, qli_63, qli_64, qli_96, qli_97, qli_99, qli_100, qli_101, qli_122, qli_126, qli_143, qli_144, qli_192, qli_200, qli_201, qli_216, qli_255, qli_256, qli_780, qli_799, qli_800, qli_801, qli_802, qli_880, qli_1000, qli_5760, qli_7040, qli_7920, qli_1000000, in_t, le_t, le_f, lt_t, lt_f, eq_t, eq_f, nI_add, nI_sub', nI_mul, nI_clamp, m1_ne, m1_ne', m1_lt, m1_le, m1_nlt, m1_nle, m1_add, eq_self, not_true_eq_false, not_false_eq_true, ne_eq, Nat.reduceLeDiff, Nat.reduceLT, and_true, true_and, and_self, or_true, true_or, or_false, false_or, false_and, and_false, qK_pi, qK_pr, qK_wi, qK_wl, qK_wo, qK_xi, qK_xo, qfr_pi', qfr_wi', qfr_wl', qfr_wo', qfr_xi', qfr_xo', qfi_pr, qfi_wi, qfi_wl, qfi_wo, qfi_xi, qfi_xo, qln_pi, qln_pr, qln_wi, qln_wl, qln_wo, qln_xi, qln_xo, qri_pi, qri_pr, qri_wl, qri_wo, qri_xo, qrl_pi, qrl_pr, qrl_wi, qrl_wo, qrl_xi, qrl_xo, qro_pi, qro_pr, qro_wi, qro_wl, qro_xi, qnx_pi, qnx_pr, qnx_wi, qnx_wl, qnx_wo, qnx_xi, qnx_xo, qsa_pi, qsa_wi, qsa_wl, qsa_pr, qsa_wo, fi_pi_at, fi_pi_nk, fi_pi_na, ri_wi_at, ri_wi_ne, ri_wi_nj, rl_wl_at, rl_wl_ne, rl_wl_nj, fr_pr_at, fr_pr_nk, fr_pr_na, hc, ↓c_s e, ↓e2, ↓cW]
    rw [st]
    refine ok_cnt (Q := fun _ S' => CI S' x A (m_w M (wn M s (m_D M))) v ∧ fc x S S') (m_D M) (fun i a => ∃ S1, a = (S1, nI i) ∧ CI S1 x A (m_w M (wn M s i)) v ∧ fc x S S1) ?_ ?_ c_N 0 _ (by omega) ⟨S, rfl, by rw [wn_0]; exact h, fc_rf⟩ (N_big (by omega))
    · rintro i a rec hi ⟨S1, rfl, f1, f2⟩ hrec
      have hw1 : wM (m_w M (wn M s i)) := wM_w hw (fun j => wn_le hw (by omega))
      have hc1 := CI_s f1
      have hl := CI_dl f1
      have hi' : i < m_D (m_w M (wn M s i)) := hi
      have e4 := e_ios f1 hw1 hi' hs
      have d0 := (CI_d f1 hi').1
      have d5 : st_fi S1 205 (a_d A i) = nI (wn M s i i) := (CI_d f1 hi').2.2.2.2.2.1
      rw [wn_at] at d5
      have k5 : st_ri S1 (x + 23) s = nI (m_ct M s) := CI_ct f1 hs
      have e5 : sob (m_w M (wn M s i)) s i = sob M s i := rfl
      rw [e5] at e4
      have hl' : LSt S1 (x + 3) (a_ed A) (m_D M) (a_d A) := hl
      have e6 := wc_eq (w := m_dd M i 4) (c := m_ct M s) (W := sm (wv M s) (m_D M)) (wM_dd hw i).2.2.2.2 hct.2 hW
      have bd := AD_d (CI_ad f1) hi'
      rcases sob_01 (M := M) s i with q | q
      · rw [q] at e4
        simp (disch := first | omega | assumption | (repeat first | assumption | apply RS_pi | apply RS_wi | apply RS_wl | apply CS_pi | apply CS_wi | apply CS_wl | apply CS_wo | apply CS_xo | apply RI_w15 | apply RI_w16 | apply RI_w17 | apply RI_w26 | apply RI_w27 | apply RI_w28 | apply RI_p1000)) only [b_X8_weighSort_25, j_X8_weighSort_86, ↓reduceIte, ↓xg, ↓xi, ↓xl_wi, ↓xl_wl, ↓xl_pi, ↓xlI, ↓xlL, ↓xlN, xl, ↓xn, ↓xc, ↓xon, ↓xos, ↓ln_1, ↓ln_2, ↓ln_3, ↓ln_8, qli_0, qli_1, qli_2, qli_3, qli_4, qli_5, qli_6, qli_7, qli_8, qli_9, qli_10, qli_11, qli_12, qli_13, qli_14, qli_15, qli_16, qli_17, qli_18, qli_19, qli_20, qli_21, qli_22, qli_23, qli_24, qli_25, qli_26, qli_31, qli_32, qli_37, qli_39, qli_40, qli_41, qli_42, qli_43, qli_45, qli_47, qli_48, qli_49, qli_50, qli_56, qli_57, qli_59, qli_60, qli_61, qli_63, qli_64, qli_96, qli_97, qli_99, qli_100, qli_101, qli_122, qli_126, qli_143, qli_144, qli_192, qli_200, qli_201, qli_216, qli_255, qli_256, qli_780, qli_799, qli_800, qli_801, qli_802, qli_880, qli_1000, qli_5760, qli_7040, qli_7920, qli_1000000, in_t, le_t, le_f, lt_t, lt_f, eq_t, eq_f, nI_add, nI_sub', nI_mul, nI_clamp, m1_ne, m1_ne', m1_lt, m1_le, m1_nlt, m1_nle, m1_add, eq_self, not_true_eq_false, not_false_eq_true, ne_eq, Nat.reduceLeDiff, Nat.reduceLT, and_true, true_and, and_self, or_true, true_or, or_false, false_or, false_and, and_false, qK_pi, qK_pr, qK_wi, qK_wl, qK_wo, qK_xi, qK_xo, qfr_pi', qfr_wi', qfr_wl', qfr_wo', qfr_xi', qfr_xo', qfi_pr, qfi_wi, qfi_wl, qfi_wo, qfi_xi, qfi_xo, qln_pi, qln_pr, qln_wi, qln_wl, qln_wo, qln_xi, qln_xo, qri_pi, qri_pr, qri_wl, qri_wo, qri_xo, qrl_pi, qrl_pr, qrl_wi, qrl_wo, qrl_xi, qrl_xo, qro_pi, qro_pr, qro_wi, qro_wl, qro_xi, qnx_pi, qnx_pr, qnx_wi, qnx_wl, qnx_wo, qnx_xi, qnx_xo, qsa_pi, qsa_wi, qsa_wl, qsa_pr, qsa_wo, fi_pi_at, fi_pi_nk, fi_pi_na, ri_wi_at, ri_wi_ne, ri_wi_nj, rl_wl_at, rl_wl_ne, rl_wl_nj, fr_pr_at, fr_pr_nk, fr_pr_na, hc1, ↓cn_901, ↓cSl hl', ↓cGl hl' hi (by omega), d0, ↓c_s e4]
        exact hrec _ ⟨S1, rfl, by rw [wn_z q]; exact f1, f2⟩
      · rw [q] at e4
        simp (disch := first | omega | assumption | (repeat first | assumption | apply RS_pi | apply RS_wi | apply RS_wl | apply CS_pi | apply CS_wi | apply CS_wl | apply CS_wo | apply CS_xo | apply RI_w15 | apply RI_w16 | apply RI_w17 | apply RI_w26 | apply RI_w27 | apply RI_w28 | apply RI_p1000)) only [b_X8_weighSort_25, j_X8_weighSort_86, ↓reduceIte, ↓xg, ↓xi, ↓xl_wi, ↓xl_wl, ↓xl_pi, ↓xlI, ↓xlL, ↓xlN, xl, ↓xn, ↓xc, ↓xon, ↓xos, ↓ln_1, ↓ln_2, ↓ln_3, ↓ln_8, qli_0, qli_1, qli_2, qli_3, qli_4, qli_5, qli_6, qli_7, qli_8, qli_9, qli_10, qli_11, qli_12, qli_13, qli_14, qli_15, qli_16, qli_17, qli_18, qli_19, qli_20, qli_21, qli_22, qli_23, qli_24, qli_25, qli_26, qli_31, qli_32, qli_37, qli_39, qli_40, qli_41, qli_42, qli_43, qli_45, qli_47, qli_48, qli_49, qli_50, qli_56, qli_57, qli_59, qli_60, qli_61, qli_63, qli_64, qli_96, qli_97, qli_99, qli_100, qli_101, qli_122, qli_126, qli_143, qli_144, qli_192, qli_200, qli_201, qli_216, qli_255, qli_256, qli_780, qli_799, qli_800, qli_801, qli_802, qli_880, qli_1000, qli_5760, qli_7040, qli_7920, qli_1000000, in_t, le_t, le_f, lt_t, lt_f, eq_t, eq_f, nI_add, nI_sub', nI_mul, nI_clamp, m1_ne, m1_ne', m1_lt, m1_le, m1_nlt, m1_nle, m1_add, eq_self, not_true_eq_false, not_false_eq_true, ne_eq, Nat.reduceLeDiff, Nat.reduceLT, and_true, true_and, and_self, or_true, true_or, or_false, false_or, false_and, and_false, qK_pi, qK_pr, qK_wi, qK_wl, qK_wo, qK_xi, qK_xo, qfr_pi', qfr_wi', qfr_wl', qfr_wo', qfr_xi', qfr_xo', qfi_pr, qfi_wi, qfi_wl, qfi_wo, qfi_xi, qfi_xo, qln_pi, qln_pr, qln_wi, qln_wl, qln_wo, qln_xi, qln_xo, qri_pi, qri_pr, qri_wl, qri_wo, qri_xo, qrl_pi, qrl_pr, qrl_wi, qrl_wo, qrl_xi, qrl_xo, qro_pi, qro_pr, qro_wi, qro_wl, qro_xi, qnx_pi, qnx_pr, qnx_wi, qnx_wl, qnx_wo, qnx_xi, qnx_xo, qsa_pi, qsa_wi, qsa_wl, qsa_pr, qsa_wo, fi_pi_at, fi_pi_nk, fi_pi_na, ri_wi_at, ri_wi_ne, ri_wi_nj, rl_wl_at, rl_wl_ne, rl_wl_nj, fr_pr_at, fr_pr_nk, fr_pr_na, hc1, ↓cn_901, ↓cSl hl', ↓cGl hl' hi (by omega), d0, ↓c_s e4, ↓cn_907, e3, d5, k5]
        rw [e6]
        exact hrec _ ⟨_, rfl, cI_w f1 hi (wn_n (by omega)) wn_s, fc_pi f2 (by omega)⟩
    · rintro a rec ⟨S1, rfl, f1, f2⟩
      have hc1 := CI_s f1
      have hl := CI_dl f1
      have hl' : LSt S1 (x + 3) (a_ed A) (m_D M) (a_d A) := hl
      simp (disch := first | omega | assumption | (repeat first | assumption | apply RS_pi | apply RS_wi | apply RS_wl | apply CS_pi | apply CS_wi | apply CS_wl | apply CS_wo | apply CS_xo | apply RI_w15 | apply RI_w16 | apply RI_w17 | apply RI_w26 | apply RI_w27 | apply RI_w28 | apply RI_p1000)) only [b_X8_weighSort_25, ↓reduceIte, ↓xg, ↓xi, ↓xl_wi, ↓xl_wl, ↓xl_pi, ↓xlI, ↓xlL, ↓xlN, xl, ↓xn, ↓xc, ↓xon, ↓xos, ↓ln_1, ↓ln_2, ↓ln_3, ↓ln_8, qli_0, qli_1, qli_2, qli_3, qli_4, qli_5, qli_6, qli_7, qli_8, qli_9, qli_10, qli_11, qli_12, qli_13, qli_14, qli_15, qli_16, qli_17, qli_18, qli_19, qli_20, qli_21, qli_22, qli_23, qli_24, qli_25, qli_26, qli_31, qli_32, qli_37, qli_39, qli_40, qli_41, qli_42, qli_43, qli_45, qli_47, qli_48, qli_49, qli_50, qli_56, qli_57, qli_59, qli_60, qli_61, qli_63, qli_64, qli_96, qli_97, qli_99, qli_100, qli_101, qli_122, qli_126, qli_143, qli_144, qli_192, qli_200, qli_201, qli_216, qli_255, qli_256, qli_780, qli_799, qli_800, qli_801, qli_802, qli_880, qli_1000, qli_5760, qli_7040, qli_7920, qli_1000000, in_t, le_t, le_f, lt_t, lt_f, eq_t, eq_f, nI_add, nI_sub', nI_mul, nI_clamp, m1_ne, m1_ne', m1_lt, m1_le, m1_nlt, m1_nle, m1_add, eq_self, not_true_eq_false, not_false_eq_true, ne_eq, Nat.reduceLeDiff, Nat.reduceLT, and_true, true_and, and_self, or_true, true_or, or_false, false_or, false_and, and_false, qK_pi, qK_pr, qK_wi, qK_wl, qK_wo, qK_xi, qK_xo, qfr_pi', qfr_wi', qfr_wl', qfr_wo', qfr_xi', qfr_xo', qfi_pr, qfi_wi, qfi_wl, qfi_wo, qfi_xi, qfi_xo, qln_pi, qln_pr, qln_wi, qln_wl, qln_wo, qln_xi, qln_xo, qri_pi, qri_pr, qri_wl, qri_wo, qri_xo, qrl_pi, qrl_pr, qrl_wi, qrl_wo, qrl_xi, qrl_xo, qro_pi, qro_pr, qro_wi, qro_wl, qro_xi, qnx_pi, qnx_pr, qnx_wi, qnx_wl, qnx_wo, qnx_xi, qnx_xo, qsa_pi, qsa_wi, qsa_wl, qsa_pr, qsa_wo, fi_pi_at, fi_pi_nk, fi_pi_na, ri_wi_at, ri_wi_ne, ri_wi_nj, rl_wl_at, rl_wl_ne, rl_wl_nj, fr_pr_at, fr_pr_nk, fr_pr_na, hc1, ↓cn_901, ↓cSl hl']
      exact ok_of rfl ⟨f1, f2⟩
end WE
