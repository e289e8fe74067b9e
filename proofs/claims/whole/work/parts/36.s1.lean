/-! simple calls -/
/-- both hold M -/
def INV (S : st_T) (x : Nat) (A : aT) (M : mT) (v : Nat) : Prop := RI S (x + 24) M ∧ CI S x A M v ∧ wM M ∧ st_K S (x + 54) = 21 ∧ st_ln S (x + 54) = 1
/-- a call of both: one answer, and both hold the same behind it -/
def STEP (F G : st_T → Option (Int32 × st_T)) (S : st_T) (x v : Nat) : Prop := ∃ r S1 S2 A' M' v', F S = some (r, S1) ∧ G S1 = some (r, S2) ∧ INV S2 x A' M' v' ∧ v' ≤ v + 1
theorem STEP_of {F G : st_T → Option (Int32 × st_T)} {S S1 S2 : st_T} {x v v' : Nat} {A A' : aT} {M M' : mT} {r : Int32} (h : INV S x A M v) (hF : F S = some (r, S1)) (hG : G S1 = some (r, S2)) (hc : CI S1 x A' M' v') (g1 : fc x S S1) (g2 : fq (rR (x + 24)) (rF (x + 24)) S1 S2) (hr : RI S1 (x + 24) M → RI S2 (x + 24) M') (hw : wM M') (hv : v' ≤ v + 1) : STEP F G S x v := by
  obtain ⟨h1, h2, h3, h4, h5⟩ := h
  have g := g1 (x + 54) (by omega) (by omega)
  refine ⟨r, S1, S2, A', M', v', hF, hG, ⟨hr (RI_fc h1 g1), CI_fm hc g2, hw, ?_, ?_⟩, hv⟩
  · rw [fq_K g2, g.1]; exact h4
  · rw [fq_ln g2, g.2.1]; exact h5
/-- .. where nothing changes but what holds nothing -/
theorem STEP_q {F G : st_T → Option (Int32 × st_T)} {S S1 S2 : st_T} {x v : Nat} {A : aT} {M : mT} {r : Int32} (h : INV S x A M v) (hF : F S = some (r, S1)) (hG : G S1 = some (r, S2)) (hc : CI S1 x A M v) (g1 : fc x S S1) (g2 : fq (rZ (x + 24)) (rY (x + 24)) S1 S2) : STEP F G S x v :=
  STEP_of h hF hG hc g1 (fq_mono g2 (fun _ => rZ_rR) (fun _ _ => rY_rF)) (fun hr => RI_fq hr g2) h.2.2.1 (by omega)
theorem rY_0 {m : Nat} : rY m 1000 m := ⟨rfl, by simp⟩
theorem fq_th {S : st_T} {m : Nat} {u : Int32} : fq (rZ m) (rY m) S (st_pi S 1000 m u) := fq_pi fq_rf rY_0
def m_below (M : mT) (w o : Nat) : mT := (fun u => if u = w then o else m_tr M u, M.2)
section S1
variable {S : st_T} {m x v : Nat} {M : mT} {A : aT}
theorem rI_below {w o : Nat} (h : RI S m M) : RI (st_wi (st_pi S 1000 m 0) (m + 18) w (nI o)) m (m_below M w o) := by
  obtain ⟨a0, a1, a2, a3, a4, a5, a6, a7, a8, a9, a10, a11, a12⟩ := h
  refine ⟨RS_wi _ _ _ (RS_pi _ _ _ a0), ?_, ?_, ?_, ?_, ?_, ?_, ?_, ?_, ?_, ?_, ?_, ?_⟩
  · intro u hu
    show st_ri _ (m + 18) u = nI (if u = w then o else m_tr M u)
    by_cases e : u = w
    · rw [if_pos e, e, ri_wi_at]
    · rw [if_neg e, ri_wi_nj _ _ _ _ _ _ e]; exact a1 u hu
  · exact a2
  · intro i hi
    simp (disch := omega) only [ri_wi_ne, ri_pi]
    exact a3 i hi
  · simp (disch := omega) only [ri_wi_ne, ri_pi]; exact a4
  · simp (disch := omega) only [ri_wi_ne, ri_pi]; exact a5
  · exact a6
  · simp (disch := omega) only [ri_wi_ne, ri_pi]; exact a7
  · simp (disch := omega) only [ri_wi_ne, ri_pi]; exact a8
  · exact a9
  · exact a10
  · exact fun t ht => RT_ri (a11 t ht) (ri_wi_ne _ _ _ _ _ (by omega)) (ri_wi_ne _ _ _ _ _ (by omega)) (ri_wi_ne _ _ _ _ _ (by omega)) (ri_wi_ne _ _ _ _ _ (by omega)) (ri_wi_ne _ _ _ _ _ (by omega)) (ri_wi_ne _ _ _ _ _ (by omega))
  · exact a12
theorem wM_below {w o : Nat} (h : wM M) (h2 : o < w) (h3 : w ≤ 200) : wM (m_below M w o) := by
  obtain ⟨a1, a2⟩ := h
  refine ⟨fun u => ?_, a2⟩
  show (if u = w then o else m_tr M u) ≤ 200 ∧ ((if u = w then o else m_tr M u) < u ∨ (if u = w then o else m_tr M u) = 0)
  by_cases e : u = w
  · rw [if_pos e]; omega
  · rw [if_neg e]; exact a1 u
/-- the marks are old where the number is new -/
theorem CV_new {i : Nat} {M' : mT} (h : CV S A M v i) : CV S A M' (v + 1) i := by
  rcases h with h | ⟨u, h1, h2, h3⟩
  · exact Or.inl h
  · exact Or.inr ⟨u, by omega, h2, fun e => by omega⟩
theorem cI_below {w o : Nat} (h : CI S x A M v) : CI (st_pi (st_wi S (x + 2) w (nI o)) 909 x (nI (v + 1))) x A (m_below M w o) (v + 1) := by
  obtain ⟨c1, c2, c3, c4, c5, c6, c7, c8, c9, c10, c11, c12, c13, c14, c15⟩ := h
  refine ⟨CS_pi _ _ _ (CS_wi _ _ _ c1), SA_ag c2 rfl rfl rfl (fun a ha => ri_wi_ne _ _ _ _ _ (by omega)), ?_, LSt_ag c4 rfl rfl rfl rfl rfl (fi_pi_nk _ _ _ _ _ _ (by omega)), fun i hi => ?_, fun i hi => ?_, LSt_ag c7 rfl rfl rfl rfl rfl (fi_pi_nk _ _ _ _ _ _ (by omega)), fun t ht => ?_, ?_, ?_, ?_, ?_, ?_, ?_, c15⟩
  · intro u hu
    show st_ri (st_wi S (x + 2) w (nI o)) (x + 2) u = nI (if u = w then o else m_tr M u)
    by_cases e : u = w
    · rw [if_pos e, e, ri_wi_at]
    · rw [if_neg e, ri_wi_nj _ _ _ _ _ _ e]; exact c3 u hu
  · exact CDi_ag (A := A) (M := M) (c5 i hi) rfl rfl rfl rfl rfl (fi_pi_nk _ _ _ _ _ _ (by omega)) (fun k _ _ => fi_pi_nk _ _ _ _ _ _ (by omega)) (fun k hk j _ _ => fi_pi_nk _ _ _ _ _ _ (by omega))
  · exact CV_ag (CV_new (c6 i hi)) (fi_pi_nk _ _ _ _ _ _ (by omega)) (fun k hk j _ _ => fi_pi_nk _ _ _ _ _ _ (by omega))
  · exact TX_ag (c8 t ht) rfl rfl rfl (fi_pi_nk _ _ _ _ _ _ (by omega)) (fun j hj => ri_wi_ne _ _ _ _ _ (by have := AD_b c15 ht hj; omega))
  · exact (fi_pi_nk _ _ _ _ _ _ (by omega)).trans c9
  · intro j hj
    simp (disch := omega) only [ri_wi_ne, ri_pi]
    exact c10 j hj
  · intro j hj
    simp (disch := omega) only [ri_wi_ne, ri_pi]
    exact c11 j hj
  · exact (fi_pi_nk _ _ _ _ _ _ (by omega)).trans c12
  · exact fi_pi_at _ _ _ _
  · exact (fi_pi_nk _ _ _ _ _ _ (by omega)).trans c14
theorem sp_below (h : INV S x A M v) (x1 x2 : Int32) : STEP (fun S => f_X8_below S x x1 x2) (fun S => f_X9_below S (x + 24) x1 x2) S x v := by
  have hs := RI_s h.1
  have hc := CI_s h.2.1
  have hv := CI_ve h.2.1
  have bad : (x1 < nI 1 ∨ (¬ x1 < nI 1 ∧ nI 200 < x1) ∨ x2 < nI 1 ∨ ¬ x2 < x1) → STEP (fun S => f_X8_below S x x1 x2) (fun S => f_X9_below S (x + 24) x1 x2) S x v := by
    intro hx
    have e1 : f_X8_below S x x1 x2 = some (0, S) := by
      unfold f_X8_below
      by_cases g1 : x1 < nI 1 <;> by_cases g2 : nI 200 < x1 <;> by_cases g3 : x2 < nI 1 <;> by_cases g4 : x2 < x1 <;> by_cases g5 : nI 200 < x2 <;> simp (disch := first | omega | assumption | (repeat first | assumption | apply RS_pi | apply RS_wi | apply RS_wl | apply CS_pi | apply CS_wi | apply CS_wl | apply CS_wo | apply CS_xo | apply RI_w15 | apply RI_w16 | apply RI_w17 | apply RI_w26 | apply RI_w27 | apply RI_w28 | apply RI_p1000)) only [↓reduceIte, ↓xg, ↓xi, ↓xl, ↓xn, ↓xc, ↓xon, ↓xos, ↓ln_1, ↓ln_2, ↓ln_3, ↓ln_8, qli_0, qli_1, qli_2, qli_3, qli_4, qli_5, qli_6, qli_7, qli_8, qli_9, qli_10, qli_11, qli_12, qli_13, qli_14, qli_15, qli_16, qli_17, qli_18, qli_19, qli_20, qli_21, qli_22, qli_23, qli_24, qli_25, qli_26, qli_31, qli_32, qli_37, qli_39, qli_40, qli_41, qli_42, qli_43, qli_45, qli_47, qli_48, qli_49, qli_50, qli_56, qli_57, qli_59, qli_60, qli_61, qli_63, qli_64, qli_96, qli_97, qli_99, qli_100, qli_101, qli_122, qli_126, qli_143, qli_144, qli_192, qli_200, qli_201, qli_216, qli_255, qli_256, qli_780, qli_799, qli_800, qli_801, qli_802, qli_880, qli_1000, qli_5760, qli_7040, qli_7920, qli_1000000, in_t, le_t, le_f, lt_t, lt_f, eq_t, eq_f, nI_add, nI_sub', nI_mul, nI_clamp, m1_ne, m1_ne', m1_lt, m1_le, m1_nlt, m1_nle, m1_add, eq_self, not_true_eq_false, not_false_eq_true, ne_eq, Nat.reduceLeDiff, Nat.reduceLT, and_true, true_and, and_self, or_true, true_or, or_false, false_or, false_and, and_false, qK_pi, qK_pr, qK_wi, qK_wl, qK_wo, qK_xi, qK_xo, qfr_pi', qfr_wi', qfr_wl', qfr_wo', qfr_xi', qfr_xo', qfi_pr, qfi_wi, qfi_wl, qfi_wo, qfi_xi, qfi_xo, qln_pi, qln_pr, qln_wi, qln_wl, qln_wo, qln_xi, qln_xo, qri_pi, qri_pr, qri_wl, qri_wo, qri_xo, qrl_pi, qrl_pr, qrl_wi, qrl_wo, qrl_xi, qrl_xo, qro_pi, qro_pr, qro_wi, qro_wl, qro_xi, qnx_pi, qnx_pr, qnx_wi, qnx_wl, qnx_wo, qnx_xi, qnx_xo, qsa_pi, qsa_wi, qsa_wl, qsa_pr, qsa_wo, fi_pi_at, fi_pi_nk, fi_pi_na, ri_wi_at, ri_wi_ne, ri_wi_nj, rl_wl_at, rl_wl_ne, rl_wl_nj, fr_pr_at, fr_pr_nk, fr_pr_na, ↓cW, hc, g1, g2, g3, g4, g5]
      all_goals simp_all
    have e2 : f_X9_below S (x + 24) x1 x2 = some (0, st_pi S 1000 (x + 24) 0) := by
      unfold f_X9_below
      by_cases g1 : x1 < nI 1 <;> by_cases g2 : nI 200 < x1 <;> by_cases g3 : x2 < nI 1 <;> by_cases g4 : x2 < x1 <;> simp (disch := first | omega | assumption | (repeat first | assumption | apply RS_pi | apply RS_wi | apply RS_wl | apply CS_pi | apply CS_wi | apply CS_wl | apply CS_wo | apply CS_xo | apply RI_w15 | apply RI_w16 | apply RI_w17 | apply RI_w26 | apply RI_w27 | apply RI_w28 | apply RI_p1000)) only [↓reduceIte, ↓xg, ↓xi, ↓xl, ↓xn, ↓xc, ↓xon, ↓xos, ↓ln_1, ↓ln_2, ↓ln_3, ↓ln_8, qli_0, qli_1, qli_2, qli_3, qli_4, qli_5, qli_6, qli_7, qli_8, qli_9, qli_10, qli_11, qli_12, qli_13, qli_14, qli_15, qli_16, qli_17, qli_18, qli_19, qli_20, qli_21, qli_22, qli_23, qli_24, qli_25, qli_26, qli_31, qli_32, qli_37, qli_39, qli_40, qli_41, qli_42, qli_43, qli_45, qli_47, qli_48, qli_49, qli_50, qli_56, qli_57, qli_59, qli_60, qli_61, qli_63, qli_64, qli_96, qli_97, qli_99, qli_100, qli_101, qli_122, qli_126, qli_143, qli_144, qli_192, qli_200, qli_201, qli_216, qli_255, qli_256, qli_780, qli_799, qli_800, qli_801, qli_802, qli_880, qli_1000, qli_5760, qli_7040, qli_7920, qli_1000000, in_t, le_t, le_f, lt_t, lt_f, eq_t, eq_f, nI_add, nI_sub', nI_mul, nI_clamp, m1_ne, m1_ne', m1_lt, m1_le, m1_nlt, m1_nle, m1_add, eq_self, not_true_eq_false, not_false_eq_true, ne_eq, Nat.reduceLeDiff, Nat.reduceLT, and_true, true_and, and_self, or_true, true_or, or_false, false_or, false_and, and_false, qK_pi, qK_pr, qK_wi, qK_wl, qK_wo, qK_xi, qK_xo, qfr_pi', qfr_wi', qfr_wl', qfr_wo', qfr_xi', qfr_xo', qfi_pr, qfi_wi, qfi_wl, qfi_wo, qfi_xi, qfi_xo, qln_pi, qln_pr, qln_wi, qln_wl, qln_wo, qln_xi, qln_xo, qri_pi, qri_pr, qri_wl, qri_wo, qri_xo, qrl_pi, qrl_pr, qrl_wi, qrl_wo, qrl_xi, qrl_xo, qro_pi, qro_pr, qro_wi, qro_wl, qro_xi, qnx_pi, qnx_pr, qnx_wi, qnx_wl, qnx_wo, qnx_xi, qnx_xo, qsa_pi, qsa_wi, qsa_wl, qsa_pr, qsa_wo, fi_pi_at, fi_pi_nk, fi_pi_na, ri_wi_at, ri_wi_ne, ri_wi_nj, rl_wl_at, rl_wl_ne, rl_wl_nj, fr_pr_at, fr_pr_nk, fr_pr_na, hs, g1, g2, g3, g4]
      all_goals simp_all
    exact STEP_q h e1 e2 h.2.1 fc_rf fq_th
  rcases rg x1 1 200 (by omega) (by omega) with g | g | ⟨w, hw1, hw2, rfl⟩
  · exact bad (Or.inl g)
  · exact bad (Or.inr (Or.inl g))
  · rcases rg x2 1 (w - 1) (by omega) (by omega) with g | ⟨g, g2⟩ | ⟨o, ho1, ho2, rfl⟩
    · exact bad (Or.inr (Or.inr (Or.inl g)))
    · refine bad (Or.inr (Or.inr (Or.inr ?_)))
      rw [Int32.lt_iff_toInt_lt, nI_toInt (by omega)] at g2 ⊢
      omega
    · have e1 : f_X8_below S x (nI w) (nI o) = some (1, st_pi (st_wi S (x + 2) w (nI o)) 909 x (nI (v + 1))) := by
        unfold f_X8_below f_X7_putBelow
        simp (disch := first | omega | assumption | (repeat first | assumption | apply RS_pi | apply RS_wi | apply RS_wl | apply CS_pi | apply CS_wi | apply CS_wl | apply CS_wo | apply CS_xo | apply RI_w15 | apply RI_w16 | apply RI_w17 | apply RI_w26 | apply RI_w27 | apply RI_w28 | apply RI_p1000)) only [↓reduceIte, ↓xg, ↓xi, ↓xl, ↓xn, ↓xc, ↓xon, ↓xos, ↓ln_1, ↓ln_2, ↓ln_3, ↓ln_8, qli_0, qli_1, qli_2, qli_3, qli_4, qli_5, qli_6, qli_7, qli_8, qli_9, qli_10, qli_11, qli_12, qli_13, qli_14, qli_15, qli_16, qli_17, qli_18, qli_19, qli_20, qli_21, qli_22, qli_23, qli_24, qli_25, qli_26, qli_31, qli_32, qli_37, qli_39, qli_40, qli_41, qli_42, qli_43, qli_45, qli_47, qli_48, qli_49, qli_50, qli_56, qli_57, qli_59, qli_60, qli_61, qli_63, qli_64, qli_96, qli_97, qli_99, qli_100, qli_101, qli_122, qli_126, qli_143, qli_144, qli_192, qli_200, qli_201, qli_216, qli_255, qli_256, qli_780, qli_799, qli_800, qli_801, qli_802, qli_880, qli_1000, qli_5760, qli_7040, qli_7920, qli_1000000, in_t, le_t, le_f, lt_t, lt_f, eq_t, eq_f, nI_add, nI_sub', nI_mul, nI_clamp, m1_ne, m1_ne', m1_lt, m1_le, m1_nlt, m1_nle, m1_add, eq_self, not_true_eq_false, not_false_eq_true, ne_eq, Nat.reduceLeDiff, Nat.reduceLT, and_true, true_and, and_self, or_true, true_or, or_false, false_or, false_and, and_false, qK_pi, qK_pr, qK_wi, qK_wl, qK_wo, qK_xi, qK_xo, qfr_pi', qfr_wi', qfr_wl', qfr_wo', qfr_xi', qfr_xo', qfi_pr, qfi_wi, qfi_wl, qfi_wo, qfi_xi, qfi_xo, qln_pi, qln_pr, qln_wi, qln_wl, qln_wo, qln_xi, qln_xo, qri_pi, qri_pr, qri_wl, qri_wo, qri_xo, qrl_pi, qrl_pr, qrl_wi, qrl_wo, qrl_xi, qrl_xo, qro_pi, qro_pr, qro_wi, qro_wl, qro_xi, qnx_pi, qnx_pr, qnx_wi, qnx_wl, qnx_wo, qnx_xi, qnx_xo, qsa_pi, qsa_wi, qsa_wl, qsa_pr, qsa_wo, fi_pi_at, fi_pi_nk, fi_pi_na, ri_wi_at, ri_wi_ne, ri_wi_nj, rl_wl_at, rl_wl_ne, rl_wl_nj, fr_pr_at, fr_pr_nk, fr_pr_na, ↓cW, hc, ↓cn_900, ↓cn_800, hv]
      have e2 : f_X9_below (st_pi (st_wi S (x + 2) w (nI o)) 909 x (nI (v + 1))) (x + 24) (nI w) (nI o) = some (1, st_wi (st_pi (st_pi (st_wi S (x + 2) w (nI o)) 909 x (nI (v + 1))) 1000 (x + 24) 0) (x + 24 + 18) w (nI o)) := by
        unfold f_X9_below
        simp (disch := first | omega | assumption | (repeat first | assumption | apply RS_pi | apply RS_wi | apply RS_wl | apply CS_pi | apply CS_wi | apply CS_wl | apply CS_wo | apply CS_xo | apply RI_w15 | apply RI_w16 | apply RI_w17 | apply RI_w26 | apply RI_w27 | apply RI_w28 | apply RI_p1000)) only [↓reduceIte, ↓xg, ↓xi, ↓xl, ↓xn, ↓xc, ↓xon, ↓xos, ↓ln_1, ↓ln_2, ↓ln_3, ↓ln_8, qli_0, qli_1, qli_2, qli_3, qli_4, qli_5, qli_6, qli_7, qli_8, qli_9, qli_10, qli_11, qli_12, qli_13, qli_14, qli_15, qli_16, qli_17, qli_18, qli_19, qli_20, qli_21, qli_22, qli_23, qli_24, qli_25, qli_26, qli_31, qli_32, qli_37, qli_39, qli_40, qli_41, qli_42, qli_43, qli_45, qli_47, qli_48, qli_49, qli_50, qli_56, qli_57, qli_59, qli_60, qli_61, qli_63, qli_64, qli_96, qli_97, qli_99, qli_100, qli_101, qli_122, qli_126, qli_143, qli_144, qli_192, qli_200, qli_201, qli_216, qli_255, qli_256, qli_780, qli_799, qli_800, qli_801, qli_802, qli_880, qli_1000, qli_5760, qli_7040, qli_7920, qli_1000000, in_t, le_t, le_f, lt_t, lt_f, eq_t, eq_f, nI_add, nI_sub', nI_mul, nI_clamp, m1_ne, m1_ne', m1_lt, m1_le, m1_nlt, m1_nle, m1_add, eq_self, not_true_eq_false, not_false_eq_true, ne_eq, Nat.reduceLeDiff, Nat.reduceLT, and_true, true_and, and_self, or_true, true_or, or_false, false_or, false_and, and_false, qK_pi, qK_pr, qK_wi, qK_wl, qK_wo, qK_xi, qK_xo, qfr_pi', qfr_wi', qfr_wl', qfr_wo', qfr_xi', qfr_xo', qfi_pr, qfi_wi, qfi_wl, qfi_wo, qfi_xi, qfi_xo, qln_pi, qln_pr, qln_wi, qln_wl, qln_wo, qln_xi, qln_xo, qri_pi, qri_pr, qri_wl, qri_wo, qri_xo, qrl_pi, qrl_pr, qrl_wi, qrl_wo, qrl_xi, qrl_xo, qro_pi, qro_pr, qro_wi, qro_wl, qro_xi, qnx_pi, qnx_pr, qnx_wi, qnx_wl, qnx_wo, qnx_xi, qnx_xo, qsa_pi, qsa_wi, qsa_wl, qsa_pr, qsa_wo, fi_pi_at, fi_pi_nk, fi_pi_na, ri_wi_at, ri_wi_ne, ri_wi_nj, rl_wl_at, rl_wl_ne, rl_wl_nj, fr_pr_at, fr_pr_nk, fr_pr_na, hs, ↓rn_1026]
      refine STEP_of h e1 e2 (cI_below h.2.1) (fc_pi (fc_wi fc_rf (by omega)) (by omega)) (fq_wi (fq_pi fq_rf ⟨rfl, rfl⟩) (by unfold rR; omega)) (fun hr => rI_below hr) (wM_below h.2.2.1 (by omega) hw2) (by omega)

/-- the codes of a diary depend on the tree, its lines, its day and age, and the text in force -/
theorem cA_cg {M M' : mT} {d : Nat} (h1 : m_tr M' = m_tr M) (h2 : m_lv M' d = m_lv M d) (h3 : m_nl M' d = m_nl M d) (h4 : m_dd M' d 2 = m_dd M d 2) (h5 : m_dd M' d 3 = m_dd M d 3) (h6 : m_in M' = m_in M) (k a b : Nat) (ah : Int32) : cA M' d k a b ah = cA M d k a b ah := by
  have e : kn M' d k ah = kn M d k ah := by
    funext j
    unfold kn
    rw [h2, h4, h5]
  have e2 : nw M' d k = nw M d k := by
    unfold nw
    rw [h2, h3]
  unfold cA
  rw [e, e2, h1, h6]
theorem c1_cg {M M' : mT} {d : Nat} (h1 : m_tr M' = m_tr M) (h2 : m_lv M' d = m_lv M d) (h3 : m_nl M' d = m_nl M d) (h4 : m_dd M' d 2 = m_dd M d 2) (h5 : m_dd M' d 3 = m_dd M d 3) (h6 : m_in M' = m_in M) (k : Nat) : c1 M' d k = c1 M d k := by
  induction k with
  | zero =>
    show cA M' d 0 (m_lv M' d 0 2) (m_lv M' d 0 3) (-1) = cA M d 0 (m_lv M d 0 2) (m_lv M d 0 3) (-1)
    rw [cA_cg h1 h2 h3 h4 h5 h6, h2]
  | succ k ih =>
    show cA M' d (k + 1) (m_lv M' d (k + 1) 2) (m_lv M' d (k + 1) 3) (c1 M' d k) = cA M d (k + 1) (m_lv M d (k + 1) 2) (m_lv M d (k + 1) 3) (c1 M d k)
    rw [cA_cg h1 h2 h3 h4 h5 h6, h2, ih]
theorem ah_cg {M M' : mT} {d : Nat} (h1 : m_tr M' = m_tr M) (h2 : m_lv M' d = m_lv M d) (h3 : m_nl M' d = m_nl M d) (h4 : m_dd M' d 2 = m_dd M d 2) (h5 : m_dd M' d 3 = m_dd M d 3) (h6 : m_in M' = m_in M) (k : Nat) : ah M' d k = ah M d k := by
  cases k with
  | zero => rfl
  | succ k => exact c1_cg h1 h2 h3 h4 h5 h6 k
theorem c2_cg {M M' : mT} {d : Nat} (h1 : m_tr M' = m_tr M) (h2 : m_lv M' d = m_lv M d) (h3 : m_nl M' d = m_nl M d) (h4 : m_dd M' d 2 = m_dd M d 2) (h5 : m_dd M' d 3 = m_dd M d 3) (h6 : m_in M' = m_in M) (k : Nat) : c2 M' d k = c2 M d k := by
  unfold c2
  rw [cA_cg h1 h2 h3 h4 h5 h6, h2, ah_cg h1 h2 h3 h4 h5 h6]
theorem mn_cg {M M' : mT} {d : Nat} (h1 : m_tr M' = m_tr M) (h2 : m_lv M' d = m_lv M d) (h3 : m_nl M' d = m_nl M d) (h4 : m_dd M' d 2 = m_dd M d 2) (h5 : m_dd M' d 3 = m_dd M d 3) (h6 : m_in M' = m_in M) (k : Nat) : mn M' d k = mn M d k := by
  unfold mn gp
  rw [c1_cg h1 h2 h3 h4 h5 h6, h2, ah_cg h1 h2 h3 h4 h5 h6, h6]
theorem CV_cg {M M' : mT} {A A' : aT} {d : Nat} (h : CV S A M v d) (h1 : m_tr M' = m_tr M) (h2 : m_lv M' d = m_lv M d) (h3 : m_nl M' d = m_nl M d) (h4 : m_dd M' d 2 = m_dd M d 2) (h5 : m_dd M' d 3 = m_dd M d 3) (h6 : m_in M' = m_in M) (h7 : a_d A' d = a_d A d) (h8 : a_n A' d = a_n A d) : CV S A' M' v d := by
  unfold CV CO
  rw [h3, h7, h8]
  rcases h with h | ⟨u, g1, g2, g3⟩
  · exact Or.inl h
  · refine Or.inr ⟨u, g1, g2, fun e k hk => ?_⟩
    rw [c1_cg h1 h2 h3 h4 h5 h6, c2_cg h1 h2 h3 h4 h5 h6, mn_cg h1 h2 h3 h4 h5 h6]
    exact g3 e k hk
end S1
