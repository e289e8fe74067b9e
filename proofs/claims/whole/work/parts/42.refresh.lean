/-! the class codes a diary -/
section RF
variable {β : Type} {S S0 : st_T} {m x v : Nat} {M : mT} {A : aT}
/-- the start of rule r -/
def rs0 (R : List (Nat × Nat)) (r : Nat) : Nat := if r = 0 then 0 else (R.getD (r - 1) (0, 0)).2
theorem wR_drop {P : List (Nat × Nat)} : ∀ {R : List (Nat × Nat)} {s : Nat} (_ : wR P R s) (r : Nat), r ≤ R.length → wR P (R.drop r) (if r = 0 then s else (R.getD (r - 1) (0, 0)).2) := by
  intro R
  induction R with
  | nil =>
    intro s h r hr
    have : r = 0 := Nat.le_zero.mp hr
    subst this
    exact h
  | cons c R ih =>
    intro s h r hr
    cases r with
    | zero => exact h
    | succ r =>
      have h1 := ih h.2.2.2.2 r (by rw [List.length_cons] at hr; omega)
      rw [List.drop_succ_cons, if_neg (by omega), Nat.add_sub_cancel]
      cases r with
      | zero => exact h1
      | succ r =>
        rw [if_neg (by omega), Nat.add_sub_cancel] at h1
        exact h1
theorem dr_cons {R : List (Nat × Nat)} {r : Nat} (h : r < R.length) : R.drop r = R.getD r (0, 0) :: R.drop (r + 1) := by
  rw [List.drop_eq_getElem_cons h]
  congr 1
  simp [List.getD, h]
theorem wR_at {P R : List (Nat × Nat)} {r : Nat} (h : wR P R 0) (hr : r < R.length) : (R.getD r (0, 0)).1 ≤ 49 ∧ rs0 R r ≤ (R.getD r (0, 0)).2 ∧ (R.getD r (0, 0)).2 ≤ P.length ∧ dp (sg P (rs0 R r) (R.getD r (0, 0)).2) 0 = some 1 := by
  have h1 := wR_drop h r (by omega)
  rw [dr_cons hr] at h1
  exact ⟨h1.1, h1.2.1, h1.2.2.1, h1.2.2.2.1⟩
theorem rs0_s {R : List (Nat × Nat)} {r : Nat} : rs0 R (r + 1) = (R.getD r (0, 0)).2 := by
  unfold rs0
  rw [if_neg (by omega), Nat.add_sub_cancel]
theorem cB_drop {pf : Nat → Nat → Int32} {P R : List (Nat × Nat)} {r : Nat} (hr : r < R.length) : cB pf P (R.drop r) (rs0 R r) = if ev pf (sg P (rs0 R r) (R.getD r (0, 0)).2) ≠ 0 then nI (R.getD r (0, 0)).1 else cB pf P (R.drop (r + 1)) (rs0 R (r + 1)) := by
  rw [dr_cons hr, rs0_s]
  rfl
abbrev uR (x : Nat) : Nat → Prop := fun a => a = x + 22
abbrev uF (x : Nat) : Nat → Nat → Prop := fun k a => (k = 102 ∨ k = 103 ∨ k = 104) ∧ a = x + 21
/-- the same without the deeds -/
def CG (S : st_T) (x la da : Nat) (M : mT) (d k w3 : Nat) (ah : Int32) : Prop := CS S x ∧ (∀ w, w ≤ 200 → st_ri S (x + 2) w = nI (m_tr M w)) ∧ st_fi S 105 (x + 21) = nI w3 ∧ st_fi S 106 (x + 21) = ah ∧ CL S la (m_lv M d k) ∧ st_K S da = 3 ∧ st_fi S 203 da = nI (m_dd M d 3) ∧ st_fi S 202 da = nI (m_dd M d 2)
theorem e_codeAs {la da d k w1 w2 w3 ta : Nat} {tb : Nat → Nat} {t : tT} {ah : Int32} (h : CG S x la da M d k w3 ah) (hw : wM M) (hk : k < m_nl M d) (g1 : w1 ≤ 200) (g2 : w2 ≤ 200) (g3 : w3 ≤ 200) (ht : TX S ta tb t) (htb : ∀ j, j < 4 → tb j ≠ x + 22) (hta : ta ≠ x + 21) (hwt : wT t) :
    ok (f_X0_codeAs S (x + 21) (nI w1) (nI w2) la da ta) (fun r S' => r = cB (pv (m_tr M) (wd w1 w2 w3) (kn M d k ah)) t.2.1 t.1 0 ∧ fq (uR x) (uF x) S S') := by
  obtain ⟨n1, n2, n3, n4, n5⟩ := hwt
  have hs := h.1
  have st : f_X0_codeAs S (x + 21) (nI w1) (nI w2) la da ta = c_w (b_X0_codeAs_16 (x + 21) la da ta) c_N (st_pi (st_pi S 103 (x + 21) (nI w1)) 104 (x + 21) (nI w2), nI 0, nI 0) := by
    unfold f_X0_codeAs
    generalize c_N = N
    simp (disch := first | omega | assumption | (repeat first | assumption | apply RS_pi | apply RS_wi | apply RS_wl | apply CS_pi | apply CS_wi | apply CS_wl | apply CS_wo | apply CS_xo | apply RI_w15 | apply RI_w16 | apply RI_w17 | apply RI_w26 | apply RI_w27 | apply RI_w28 | apply RI_p1000)) only [↓reduceIte, ↓xg, ↓xi, ↓xl, ↓xn, ↓xc, ↓xon, ↓xos, ↓ln_1, ↓ln_2, ↓ln_3, ↓ln_8, qli_0, qli_1, qli_2, qli_3, qli_4, qli_5, qli_6, qli_7, qli_8, qli_9, qli_10, qli_11, qli_12, qli_13, qli_14, qli_15, qli_16, qli_17, qli_18, qli_19, qli_20, qli_21, qli_22, qli_23, qli_24, qli_25, qli_26, qli_31, qli_32, qli_37, qli_39, qli_40, qli_41, qli_42, qli_43, qli_45, qli_47, qli_48, qli_49, qli_50, qli_56, qli_57, qli_59, qli_60, qli_61, qli_63, qli_64, qli_96, qli_97, qli_99, qli_100, qli_101, qli_122, qli_126, qli_143, qli_144, qli_192, qli_200, qli_201, qli_216, qli_255, qli_256, qli_780, qli_799, qli_800, qli_801, qli_802, qli_880, qli_1000, qli_5760, qli_7040, qli_7920, qli_1000000, in_t, le_t, le_f, lt_t, lt_f, eq_t, eq_f, nI_add, nI_sub', nI_mul, nI_clamp, m1_ne, m1_ne', m1_lt, m1_le, m1_nlt, m1_nle, m1_add, eq_self, not_true_eq_false, not_false_eq_true, ne_eq, Nat.reduceLeDiff, Nat.reduceLT, and_true, true_and, and_self, or_true, true_or, or_false, false_or, false_and, and_false, qK_pi, qK_pr, qK_wi, qK_wl, qK_wo, qK_xi, qK_xo, qfr_pi', qfr_wi', qfr_wl', qfr_wo', qfr_xi', qfr_xo', qfi_pr, qfi_wi, qfi_wl, qfi_wo, qfi_xi, qfi_xo, qln_pi, qln_pr, qln_wi, qln_wl, qln_wo, qln_xi, qln_xo, qri_pi, qri_pr, qri_wl, qri_wo, qri_xo, qrl_pi, qrl_pr, qrl_wi, qrl_wo, qrl_xi, qrl_xo, qro_pi, qro_pr, qro_wi, qro_wl, qro_xi, qnx_pi, qnx_pr, qnx_wi, qnx_wl, qnx_wo, qnx_xi, qnx_xo, qsa_pi, qsa_wi, qsa_wl, qsa_pr, qsa_wo, fi_pi_at, fi_pi_nk, fi_pi_na, ri_wi_at, ri_wi_ne, ri_wi_nj, rl_wl_at, rl_wl_ne, rl_wl_nj, fr_pr_at, fr_pr_nk, fr_pr_na, hs]
  rw [st]
  generalize hS0 : st_pi (st_pi S 103 (x + 21) (nI w1)) 104 (x + 21) (nI w2) = S0
  have hf0 : fq (uR x) (uF x) S S0 := by rw [← hS0]; exact fq_pi (fq_pi fq_rf ⟨by omega, rfl⟩) ⟨by omega, rfl⟩
  have hh0 : CH S0 x la da M d k w1 w2 w3 ah := by
    obtain ⟨h1, h2, h5, h6, h7, h8, h9, h10⟩ := h
    rw [← hS0]
    refine ⟨CS_pi _ _ _ (CS_pi _ _ _ h1), h2, ?_, ?_, ?_, ?_, CL_ag h7 rfl (fun k _ _ => ?_), h8, ?_, ?_⟩ <;> simp (disch := omega) only [fi_pi_at, fi_pi_nk]
    · exact h5
    · exact h6
    · exact h9
    · exact h10
  have ht0 : TX S0 ta tb t := by
    rw [← hS0]
    exact TX_ag ht rfl rfl rfl (by simp (disch := omega) only [fi_pi_nk]) (fun j hj => rfl)
  refine ok_cnt (Q := fun r S' => r = cB (pv (m_tr M) (wd w1 w2 w3) (kn M d k ah)) t.2.1 t.1 0 ∧ fq (uR x) (uF x) S S') t.1.length (fun r a => ∃ S1, a = (S1, nI (rs0 t.1 r), nI r) ∧ fq (vR x) (vF x) S0 S1 ∧ cB (pv (m_tr M) (wd w1 w2 w3) (kn M d k ah)) t.2.1 (t.1.drop r) (rs0 t.1 r) = cB (pv (m_tr M) (wd w1 w2 w3) (kn M d k ah)) t.2.1 t.1 0) ?_ ?_ c_N 0 _ (by omega) ⟨S0, rfl, fq_rf, rfl⟩ (N_big (by omega))
  · rintro r a rec hr ⟨S1, rfl, f1, f2⟩ hrec
    have hh := CH_ag hh0 f1
    have hs1 := hh.1
    have ht1 := TX_ag ht0 (fq_K f1) (fq_fr f1) (fq_ln f1) (fq_fi f1 (by omega)) (fun j hj => fq_ri f1 (htb j hj))
    obtain ⟨u0, u1, u2, u3, u4, u5, u6, u7, u8, u9, u10, u11, u12, u13, u14, u15⟩ := id ht1
    obtain ⟨p1, p2, p3, p4⟩ := wR_at n5 hr
    have v1 := (u14 r hr).2
    rw [cB_drop hr, rs0_s] at f2
    simp (disch := first | omega | assumption | (repeat first | assumption | apply RS_pi | apply RS_wi | apply RS_wl | apply CS_pi | apply CS_wi | apply CS_wl | apply CS_wo | apply CS_xo | apply RI_w15 | apply RI_w16 | apply RI_w17 | apply RI_w26 | apply RI_w27 | apply RI_w28 | apply RI_p1000)) only [b_X0_codeAs_16, ↓reduceIte, ↓xg, ↓xi, ↓xl, ↓xn, ↓xc, ↓xon, ↓xos, ↓ln_1, ↓ln_2, ↓ln_3, ↓ln_8, qli_0, qli_1, qli_2, qli_3, qli_4, qli_5, qli_6, qli_7, qli_8, qli_9, qli_10, qli_11, qli_12, qli_13, qli_14, qli_15, qli_16, qli_17, qli_18, qli_19, qli_20, qli_21, qli_22, qli_23, qli_24, qli_25, qli_26, qli_31, qli_32, qli_37, qli_39, qli_40, qli_41, qli_42, qli_43, qli_45, qli_47, qli_48, qli_49, qli_50, qli_56, qli_57, qli_59, qli_60, qli_61, qli_63, qli_64, qli_96, qli_97, qli_99, qli_100, qli_101, qli_122, qli_126, qli_143, qli_144, qli_192, qli_200, qli_201, qli_216, qli_255, qli_256, qli_780, qli_799, qli_800, qli_801, qli_802, qli_880, qli_1000, qli_5760, qli_7040, qli_7920, qli_1000000, in_t, le_t, le_f, lt_t, lt_f, eq_t, eq_f, nI_add, nI_sub', nI_mul, nI_clamp, m1_ne, m1_ne', m1_lt, m1_le, m1_nlt, m1_nle, m1_add, eq_self, not_true_eq_false, not_false_eq_true, ne_eq, Nat.reduceLeDiff, Nat.reduceLT, and_true, true_and, and_self, or_true, true_or, or_false, false_or, false_and, and_false, qK_pi, qK_pr, qK_wi, qK_wl, qK_wo, qK_xi, qK_xo, qfr_pi', qfr_wi', qfr_wl', qfr_wo', qfr_xi', qfr_xo', qfi_pr, qfi_wi, qfi_wl, qfi_wo, qfi_xi, qfi_xo, qln_pi, qln_pr, qln_wi, qln_wl, qln_wo, qln_xi, qln_xo, qri_pi, qri_pr, qri_wl, qri_wo, qri_xo, qrl_pi, qrl_pr, qrl_wi, qrl_wo, qrl_xi, qrl_xo, qro_pi, qro_pr, qro_wi, qro_wl, qro_xi, qnx_pi, qnx_pr, qnx_wi, qnx_wl, qnx_wo, qnx_xi, qnx_xo, qsa_pi, qsa_wi, qsa_wl, qsa_pr, qsa_wo, fi_pi_at, fi_pi_nk, fi_pi_na, ri_wi_at, ri_wi_ne, ri_wi_nj, rl_wl_at, rl_wl_ne, rl_wl_nj, fr_pr_at, fr_pr_nk, fr_pr_na, hs1, u0, ↓n_s u1, u5, u9, ↓n_s u2, u6, u10, v1]
    refine ok_cc (e_valueOf hh hw hk g1 g2 g3 ht1 htb hta n4 p2 p3 n2 p4) (fun q S2 ⟨hq, hS2⟩ => ?_)
    have f3 := fq_tr f1 hS2
    have ht2 := TX_ag ht1 (fq_K hS2) (fq_fr hS2) (fq_ln hS2) (fq_fi hS2 (by omega)) (fun j hj => fq_ri hS2 (htb j hj))
    obtain ⟨w0, w1', w2', w3', w4, w5, w6, w7, w8, w9, w10, w11, w12, w13, w14, w15⟩ := id ht2
    have v2 := (w14 r hr).1
    have v3 := (w14 r hr).2
    by_cases c : q = nI 0
    · rw [if_neg (by rw [← hq]; exact fun z => z c)] at f2
      simp (disch := first | omega | assumption | (repeat first | assumption | apply RS_pi | apply RS_wi | apply RS_wl | apply CS_pi | apply CS_wi | apply CS_wl | apply CS_wo | apply CS_xo | apply RI_w15 | apply RI_w16 | apply RI_w17 | apply RI_w26 | apply RI_w27 | apply RI_w28 | apply RI_p1000)) only [↓reduceIte, ↓xg, ↓xi, ↓xl, ↓xn, ↓xc, ↓xon, ↓xos, ↓ln_1, ↓ln_2, ↓ln_3, ↓ln_8, qli_0, qli_1, qli_2, qli_3, qli_4, qli_5, qli_6, qli_7, qli_8, qli_9, qli_10, qli_11, qli_12, qli_13, qli_14, qli_15, qli_16, qli_17, qli_18, qli_19, qli_20, qli_21, qli_22, qli_23, qli_24, qli_25, qli_26, qli_31, qli_32, qli_37, qli_39, qli_40, qli_41, qli_42, qli_43, qli_45, qli_47, qli_48, qli_49, qli_50, qli_56, qli_57, qli_59, qli_60, qli_61, qli_63, qli_64, qli_96, qli_97, qli_99, qli_100, qli_101, qli_122, qli_126, qli_143, qli_144, qli_192, qli_200, qli_201, qli_216, qli_255, qli_256, qli_780, qli_799, qli_800, qli_801, qli_802, qli_880, qli_1000, qli_5760, qli_7040, qli_7920, qli_1000000, in_t, le_t, le_f, lt_t, lt_f, eq_t, eq_f, nI_add, nI_sub', nI_mul, nI_clamp, m1_ne, m1_ne', m1_lt, m1_le, m1_nlt, m1_nle, m1_add, eq_self, not_true_eq_false, not_false_eq_true, ne_eq, Nat.reduceLeDiff, Nat.reduceLT, and_true, true_and, and_self, or_true, true_or, or_false, false_or, false_and, and_false, qK_pi, qK_pr, qK_wi, qK_wl, qK_wo, qK_xi, qK_xo, qfr_pi', qfr_wi', qfr_wl', qfr_wo', qfr_xi', qfr_xo', qfi_pr, qfi_wi, qfi_wl, qfi_wo, qfi_xi, qfi_xo, qln_pi, qln_pr, qln_wi, qln_wl, qln_wo, qln_xi, qln_xo, qri_pi, qri_pr, qri_wl, qri_wo, qri_xo, qrl_pi, qrl_pr, qrl_wi, qrl_wo, qrl_xi, qrl_xo, qro_pi, qro_pr, qro_wi, qro_wl, qro_xi, qnx_pi, qnx_pr, qnx_wi, qnx_wl, qnx_wo, qnx_xi, qnx_xo, qsa_pi, qsa_wi, qsa_wl, qsa_pr, qsa_wo, fi_pi_at, fi_pi_nk, fi_pi_na, ri_wi_at, ri_wi_ne, ri_wi_nj, rl_wl_at, rl_wl_ne, rl_wl_nj, fr_pr_at, fr_pr_nk, fr_pr_na, c, w0, ↓n_s w2', w6, w10, v3]
      exact hrec _ ⟨S2, by rw [rs0_s], f3, by rw [rs0_s]; exact f2⟩
    · rw [if_pos (by rw [← hq]; exact c)] at f2
      simp (disch := first | omega | assumption | (repeat first | assumption | apply RS_pi | apply RS_wi | apply RS_wl | apply CS_pi | apply CS_wi | apply CS_wl | apply CS_wo | apply CS_xo | apply RI_w15 | apply RI_w16 | apply RI_w17 | apply RI_w26 | apply RI_w27 | apply RI_w28 | apply RI_p1000)) only [↓reduceIte, ↓xg, ↓xi, ↓xl, ↓xn, ↓xc, ↓xon, ↓xos, ↓ln_1, ↓ln_2, ↓ln_3, ↓ln_8, qli_0, qli_1, qli_2, qli_3, qli_4, qli_5, qli_6, qli_7, qli_8, qli_9, qli_10, qli_11, qli_12, qli_13, qli_14, qli_15, qli_16, qli_17, qli_18, qli_19, qli_20, qli_21, qli_22, qli_23, qli_24, qli_25, qli_26, qli_31, qli_32, qli_37, qli_39, qli_40, qli_41, qli_42, qli_43, qli_45, qli_47, qli_48, qli_49, qli_50, qli_56, qli_57, qli_59, qli_60, qli_61, qli_63, qli_64, qli_96, qli_97, qli_99, qli_100, qli_101, qli_122, qli_126, qli_143, qli_144, qli_192, qli_200, qli_201, qli_216, qli_255, qli_256, qli_780, qli_799, qli_800, qli_801, qli_802, qli_880, qli_1000, qli_5760, qli_7040, qli_7920, qli_1000000, in_t, le_t, le_f, lt_t, lt_f, eq_t, eq_f, nI_add, nI_sub', nI_mul, nI_clamp, m1_ne, m1_ne', m1_lt, m1_le, m1_nlt, m1_nle, m1_add, eq_self, not_true_eq_false, not_false_eq_true, ne_eq, Nat.reduceLeDiff, Nat.reduceLT, and_true, true_and, and_self, or_true, true_or, or_false, false_or, false_and, and_false, qK_pi, qK_pr, qK_wi, qK_wl, qK_wo, qK_xi, qK_xo, qfr_pi', qfr_wi', qfr_wl', qfr_wo', qfr_xi', qfr_xo', qfi_pr, qfi_wi, qfi_wl, qfi_wo, qfi_xi, qfi_xo, qln_pi, qln_pr, qln_wi, qln_wl, qln_wo, qln_xi, qln_xo, qri_pi, qri_pr, qri_wl, qri_wo, qri_xo, qrl_pi, qrl_pr, qrl_wi, qrl_wo, qrl_xi, qrl_xo, qro_pi, qro_pr, qro_wi, qro_wl, qro_xi, qnx_pi, qnx_pr, qnx_wi, qnx_wl, qnx_wo, qnx_xi, qnx_xo, qsa_pi, qsa_wi, qsa_wl, qsa_pr, qsa_wo, fi_pi_at, fi_pi_nk, fi_pi_na, ri_wi_at, ri_wi_ne, ri_wi_nj, rl_wl_at, rl_wl_ne, rl_wl_nj, fr_pr_at, fr_pr_nk, fr_pr_na, c, w0, ↓n_s w1', w5, w9, v2]
      exact ok_of rfl ⟨f2, fq_tr hf0 (fq_mono f3 (fun a h => h) (fun k a h => ⟨Or.inl h.1, h.2⟩))⟩
  · rintro a rec ⟨S1, rfl, f1, f2⟩
    obtain ⟨u0, u1, u2, u3, u4, u5, u6, u7, u8, u9, u10⟩ := TX_ag ht0 (fq_K f1) (fq_fr f1) (fq_ln f1) (fq_fi f1 (by omega)) (fun j hj => fq_ri f1 (htb j hj))
    rw [List.drop_length] at f2
    simp (disch := first | omega | assumption | (repeat first | assumption | apply RS_pi | apply RS_wi | apply RS_wl | apply CS_pi | apply CS_wi | apply CS_wl | apply CS_wo | apply CS_xo | apply RI_w15 | apply RI_w16 | apply RI_w17 | apply RI_w26 | apply RI_w27 | apply RI_w28 | apply RI_p1000)) only [b_X0_codeAs_16, ↓reduceIte, ↓xg, ↓xi, ↓xl, ↓xn, ↓xc, ↓xon, ↓xos, ↓ln_1, ↓ln_2, ↓ln_3, ↓ln_8, qli_0, qli_1, qli_2, qli_3, qli_4, qli_5, qli_6, qli_7, qli_8, qli_9, qli_10, qli_11, qli_12, qli_13, qli_14, qli_15, qli_16, qli_17, qli_18, qli_19, qli_20, qli_21, qli_22, qli_23, qli_24, qli_25, qli_26, qli_31, qli_32, qli_37, qli_39, qli_40, qli_41, qli_42, qli_43, qli_45, qli_47, qli_48, qli_49, qli_50, qli_56, qli_57, qli_59, qli_60, qli_61, qli_63, qli_64, qli_96, qli_97, qli_99, qli_100, qli_101, qli_122, qli_126, qli_143, qli_144, qli_192, qli_200, qli_201, qli_216, qli_255, qli_256, qli_780, qli_799, qli_800, qli_801, qli_802, qli_880, qli_1000, qli_5760, qli_7040, qli_7920, qli_1000000, in_t, le_t, le_f, lt_t, lt_f, eq_t, eq_f, nI_add, nI_sub', nI_mul, nI_clamp, m1_ne, m1_ne', m1_lt, m1_le, m1_nlt, m1_nle, m1_add, eq_self, not_true_eq_false, not_false_eq_true, ne_eq, Nat.reduceLeDiff, Nat.reduceLT, and_true, true_and, and_self, or_true, true_or, or_false, false_or, false_and, and_false, qK_pi, qK_pr, qK_wi, qK_wl, qK_wo, qK_xi, qK_xo, qfr_pi', qfr_wi', qfr_wl', qfr_wo', qfr_xi', qfr_xo', qfi_pr, qfi_wi, qfi_wl, qfi_wo, qfi_xi, qfi_xo, qln_pi, qln_pr, qln_wi, qln_wl, qln_wo, qln_xi, qln_xo, qri_pi, qri_pr, qri_wl, qri_wo, qri_xo, qrl_pi, qrl_pr, qrl_wi, qrl_wo, qrl_xi, qrl_xo, qro_pi, qro_pr, qro_wi, qro_wl, qro_xi, qnx_pi, qnx_pr, qnx_wi, qnx_wl, qnx_wo, qnx_xi, qnx_xo, qsa_pi, qsa_wi, qsa_wl, qsa_pr, qsa_wo, fi_pi_at, fi_pi_nk, fi_pi_na, ri_wi_at, ri_wi_ne, ri_wi_nj, rl_wl_at, rl_wl_ne, rl_wl_nj, fr_pr_at, fr_pr_nk, fr_pr_na, u0, ↓n_s u1, u5, u9]
    exact ok_of rfl ⟨f2, fq_tr hf0 (fq_mono f1 (fun a h => h) (fun k a h => ⟨Or.inl h.1, h.2⟩))⟩

/-- what coding a diary writes -/
def gF (x : Nat) (A : aT) (M : mT) (d k a : Nat) : Prop := (a = x + 21 ∧ 102 ≤ k ∧ k ≤ 106) ∨ (306 ≤ k ∧ k ≤ 308 ∧ ∃ j, j < m_nl M d ∧ a = a_n A d j) ∨ (k = 206 ∧ a = a_d A d)
theorem CI_rf {S' : st_T} {d : Nat} (h : CI S x A M v) (hd : d < m_D M) (g : fq (uR x) (gF x A M d) S S') (h6 : st_fi S' 206 (a_d A d) = nI v) (hco : CO S' A M d) : CI S' x A M v := by
  obtain ⟨c1, c2, c3, c4, c5, c6, c7, c8, c9, c10, c11, c12, c13, c14, c15⟩ := h
  have gi : ∀ k a, ¬ gF x A M d k a → st_fi S' k a = st_fi S k a := fun k a => fq_fi g
  have gl : ∀ k a, k ≠ 206 → ¬ (306 ≤ k ∧ k ≤ 308) → a ≠ x + 21 → st_fi S' k a = st_fi S k a := fun k a h1 h2 h3 => gi k a (by
    rintro (q | q | q)
    · exact h3 q.1
    · exact h2 ⟨q.1, q.2.1⟩
    · exact h1 q.1)
  refine ⟨CS_fq c1 g, SA_ag c2 (fq_K g) (fq_ln g) (fq_sa g) (fun a ha => fq_ri g (by omega)), ?_, LSt_ag c4 (fq_K g) (fq_fr g) (fq_ln g) (fq_sa g) (fq_ro g) (gl _ _ (by omega) (by omega) (by omega)), fun i hi => ?_, fun i hi => ?_, LSt_ag c7 (fq_K g) (fq_fr g) (fq_ln g) (fq_sa g) (fq_ro g) (gl _ _ (by omega) (by omega) (by omega)), fun t ht => ?_, ?_, ?_, ?_, ?_, ?_, ?_, by rw [fq_nx g]; exact c15⟩
  · rw [fq_ri g (by omega)]; exact c3
  · have b1 := AD_d c15 hi
    have b2 := AD_l c15 hi
    exact CDi_ag (c5 i hi) (fq_K g) (fq_fr g) (fq_ln g) (fq_sa g) (fq_ro g) (gl _ _ (by omega) (by omega) (by omega)) (fun k _ _ => gl _ _ (by omega) (by omega) (by omega)) (fun k hk j _ _ => gl _ _ (by omega) (by omega) (by have := AD_n c15 hi hk; omega))
  · by_cases e : i = d
    · subst e
      exact Or.inr ⟨v, Nat.le_refl _, h6, fun _ => hco⟩
    · have b1 := AD_d c15 hi
      refine CV_ag (c6 i hi) (gi _ _ ?_) (fun k hk j j1 j2 => gi _ _ ?_)
      · rintro (q | q | q)
        · omega
        · omega
        · exact e (AD_di c15 hi hd q.2)
      · have b3 := AD_n c15 hi hk
        rintro (q | ⟨-, -, l, hl, q⟩ | q)
        · omega
        · exact e (AD_ni c15 hi hk hd hl q).1
        · omega
  · have b1 := AD_t c15 ht
    exact TX_ag (c8 t ht) (fq_K g) (fq_fr g) (fq_ln g) (gl _ _ (by omega) (by omega) (by omega)) (fun j hj => fq_ri g (by have := AD_b c15 ht hj; omega))
  · rw [gl _ _ (by omega) (by omega) (by omega)]; exact c9
  · rw [fq_ri g (by omega)]; exact c10
  · rw [fq_ri g (by omega)]; exact c11
  · rw [gl _ _ (by omega) (by omega) (by omega)]; exact c12
  · rw [gl _ _ (by omega) (by omega) (by omega)]; exact c13
  · rw [gl _ _ (by omega) (by omega) (by omega)]; exact c14
theorem fc_rfh {S' : st_T} {d : Nat} (h : CI S x A M v) (hd : d < m_D M) (g : fq (uR x) (gF x A M d) S S') : fc x S S' := by
  have c15 := CI_ad h
  refine fc_fq g (fun a ha => by omega) (fun k a ha => ?_)
  rcases ha with q | ⟨-, -, l, hl, q⟩ | q
  · omega
  · have := AD_n c15 hd hl; omega
  · have := AD_d c15 hd; omega
/-- where the text in force lies -/
theorem tf_ne (h : CI S x A M v) (hw : wM M) : tfa x A M ≠ x + 21 ∧ ∀ j, j < 4 → tfb x A M j ≠ x + 22 := by
  have c15 := CI_ad h
  have hh := wM_ch hw
  unfold tfa tfb
  by_cases e : m_ch M = 0
  · rw [if_pos e, if_pos e]
    exact ⟨by omega, fun j hj => by omega⟩
  · rw [if_neg e, if_neg e]
    have := AD_t c15 (t := m_ch M - 1) (by omega)
    exact ⟨by omega, fun j hj => by have := AD_b c15 (t := m_ch M - 1) (by omega) hj; omega⟩
end RF
