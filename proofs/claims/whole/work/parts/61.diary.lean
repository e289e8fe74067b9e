/-! diary -/
section DI
variable {β : Type} {S S' S0 : st_T} {m x v : Nat} {M : mT} {A : aT}
theorem K_no_at {c b : Nat} (h : b = st_nx S) : st_K (st_no S c) b = c + 1 := by rw [K_no, if_pos h]
theorem K_no_ne {c b : Nat} (h : b ≠ st_nx S) : st_K (st_no S c) b = st_K S b := by rw [K_no, if_neg h]
theorem K_na_at {z n b : Nat} (h : b = st_nx S) : st_K (st_na S z n) b = z := by rw [K_na, if_pos h]
theorem K_na_ne {z n b : Nat} (h : b ≠ st_nx S) : st_K (st_na S z n) b = st_K S b := by rw [K_na, if_neg h]
theorem fi_no_at {c k b : Nat} (h : b = st_nx S) : st_fi (st_no S c) k b = nI 0 := by rw [fi_no, if_pos h]; rfl
theorem fi_no_ne {c k b : Nat} (h : b ≠ st_nx S) : st_fi (st_no S c) k b = st_fi S k b := by rw [fi_no, if_neg h]
theorem fr_no_at {c k b : Nat} (h : b = st_nx S) : st_fr (st_no S c) k b = none := by rw [fr_no, if_pos h]
theorem fr_no_ne {c k b : Nat} (h : b ≠ st_nx S) : st_fr (st_no S c) k b = st_fr S k b := by rw [fr_no, if_neg h]
theorem ln_na_at {z n b : Nat} (h : b = st_nx S) : st_ln (st_na S z n) b = n := by rw [ln_na, if_pos h]
theorem ln_na_ne {z n b : Nat} (h : b ≠ st_nx S) : st_ln (st_na S z n) b = st_ln S b := by rw [ln_na, if_neg h]
theorem ri_na_ne {z n b : Nat} (h : b ≠ st_nx S) : st_ri (st_na S z n) b = st_ri S b := by rw [ri_na, if_neg h]
theorem ri_na_at {z n j b : Nat} (h : b = st_nx S) : st_ri (st_na S z n) b j = nI 0 := by rw [ri_na, if_pos h]; rfl
theorem rl_na_ne {z n b : Nat} (h : b ≠ st_nx S) : st_rl (st_na S z n) b = st_rl S b := by rw [rl_na, if_neg h]
theorem ro_na_ne {z n b : Nat} (h : b ≠ st_nx S) : st_ro (st_na S z n) b = st_ro S b := by rw [ro_na, if_neg h]
theorem qfi_na (z n : Nat) : st_fi (st_na S z n) = st_fi S := id rfl
theorem qfr_na (z n : Nat) : st_fr (st_na S z n) = st_fr S := id rfl
theorem qln_no (c : Nat) : st_ln (st_no S c) = st_ln S := id rfl
theorem qri_no (c : Nat) : st_ri (st_no S c) = st_ri S := id rfl
theorem qrl_no (c : Nat) : st_rl (st_no S c) = st_rl S := id rfl
theorem qro_no (c : Nat) : st_ro (st_no S c) = st_ro S := id rfl
theorem qsa_no (c : Nat) : st_sa (st_no S c) = st_sa S := id rfl
theorem qsa_na (z n : Nat) : st_sa (st_na S z n) = st_sa S := id rfl
theorem qsa_xo (a : Nat) (f : Nat → Option Nat) : st_sa (st_xo S a f) = st_sa S := id rfl
theorem qsa_xi (a : Nat) (f : Nat → Int32) : st_sa (st_xi S a f) = st_sa S := id rfl
/-- a new diary's cells -/
def DSt (S : st_T) (h p d a : Int32) : st_T := st_pi (st_pi (st_pi (st_pi (st_pi (st_pi (st_pr (st_pr (st_pi (st_no (st_no S 2) 0) 0 (st_nx S + 1) (nI 0)) 1 (st_nx S + 1) (some (st_sa S 100))) 204 (st_nx S) (some (st_nx S + 1))) 205 (st_nx S) (nI 1000000)) 206 (st_nx S) m1) 200 (st_nx S) h) 201 (st_nx S) p) 202 (st_nx S) d) 203 (st_nx S) a
theorem e_newd (h p d a : Int32) : f_X1_init (st_no S 2) (st_nx S) h p d a = some ((), DSt S h p d a) := by
  have k1 : st_K (st_no (st_no S 2) 0) (st_nx S + 1) = 1 := by rw [K_no, if_pos (by rw [nx_no])]
  have k2 : st_K (st_no (st_no S 2) 0) (st_nx S) = 3 := by rw [K_no, if_neg (by rw [nx_no]; omega), K_no, if_pos rfl]
  unfold f_X1_init f_Jx4a65c_init_da8c8 f_Jxc12de_init_da8c8 f_Jxa1e45_init_da8c8
  simp (disch := first | omega | assumption | (repeat first | assumption | apply RS_pi | apply RS_wi | apply RS_wl | apply CS_pi | apply CS_wi | apply CS_wl | apply CS_wo | apply CS_xo | apply RI_w15 | apply RI_w16 | apply RI_w17 | apply RI_w26 | apply RI_w27 | apply RI_w28 | apply RI_p1000)) only [↓reduceIte, ↓xg, ↓xi, ↓xl_wi, ↓xl_wl, ↓xl_pi, ↓xlI, ↓xlL, ↓xlN, xl, ↓xn, ↓xc, ↓xon, ↓xos, ↓ln_1, ↓ln_2, ↓ln_3, ↓ln_8, qli_0, qli_1, qli_2, qli_3, qli_4, qli_5, qli_6, qli_7, qli_8, qli_9, qli_10, qli_11, qli_12, qli_13, qli_14, qli_15, qli_16, qli_17, qli_18, qli_19, qli_20, qli_21, qli_22, qli_23, qli_24, qli_25, qli_26, qli_31, qli_32, qli_37, qli_39, qli_40, qli_41, qli_42, qli_43, qli_45, qli_47, qli_48, qli_49, qli_50, qli_56, qli_57, qli_59, qli_60, qli_61, qli_63, qli_64, qli_96, qli_97, qli_99, qli_100, qli_101, qli_122, qli_126, qli_143, qli_144, qli_192, qli_200, qli_201, qli_216, qli_255, qli_256, qli_780, qli_799, qli_800, qli_801, qli_802, qli_880, qli_1000, qli_5760, qli_7040, qli_7920, qli_1000000, in_t, le_t, le_f, lt_t, lt_f, eq_t, eq_f, nI_add, nI_sub', nI_mul, nI_clamp, m1_ne, m1_ne', m1_lt, m1_le, m1_nlt, m1_nle, m1_add, eq_self, not_true_eq_false, not_false_eq_true, ne_eq, Nat.reduceLeDiff, Nat.reduceLT, and_true, true_and, and_self, or_true, true_or, or_false, false_or, false_and, and_false, qK_pi, qK_pr, qK_wi, qK_wl, qK_wo, qK_xi, qK_xo, qfr_pi', qfr_wi', qfr_wl', qfr_wo', qfr_xi', qfr_xo', qfi_pr, qfi_wi, qfi_wl, qfi_wo, qfi_xi, qfi_xo, qln_pi, qln_pr, qln_wi, qln_wl, qln_wo, qln_xi, qln_xo, qri_pi, qri_pr, qri_wl, qri_wo, qri_xo, qrl_pi, qrl_pr, qrl_wi, qrl_wo, qrl_xi, qrl_xo, qro_pi, qro_pr, qro_wi, qro_wl, qro_xi, qnx_pi, qnx_pr, qnx_wi, qnx_wl, qnx_wo, qnx_xi, qnx_xo, qsa_pi, qsa_wi, qsa_wl, qsa_pr, qsa_wo, fi_pi_at, fi_pi_nk, fi_pi_na, ri_wi_at, ri_wi_ne, ri_wi_nj, rl_wl_at, rl_wl_ne, rl_wl_nj, fr_pr_at, fr_pr_nk, fr_pr_na, nx_no, k1, k2, sa_pi, qsa_no]
  unfold DSt
  rfl

def nd (h p d a : Nat) (j : Nat) : Nat := if j = 0 then h else if j = 1 then p else if j = 2 then d else if j = 3 then a else 1000000
def m_diary (M : mT) (h p d a : Nat) : mT := (M.1, m_D M + 1, (fun i => if i = m_D M then nd h p d a else m_dd M i), M.2.2.2)
theorem wM_diary {h p d a : Nat} (hw : wM M) (hD : m_D M < 40) (h1 : h ≤ 9) (h2 : p ≤ 7) (h3 : d ≤ 6) (h4 : a ≤ 2) : wM (m_diary M h p d a) := by
  obtain ⟨a1, a2, a3, a4, a5, a6, a7, a8, a9, a10, a11, a12, a13, a14⟩ := hw
  refine ⟨a1, by show m_D M + 1 ≤ 40; omega, fun i => ?_, a4, fun i hi => a5 i (by have : m_D M + 1 ≤ i := hi; omega), a6, a7, a8, a9, a10, a11, a12, a13, fun i k hk => ?_⟩
  · show (if i = m_D M then nd h p d a else m_dd M i) 0 ≤ 9 ∧ (if i = m_D M then nd h p d a else m_dd M i) 1 ≤ 7 ∧ (if i = m_D M then nd h p d a else m_dd M i) 2 ≤ 6 ∧ (if i = m_D M then nd h p d a else m_dd M i) 3 ≤ 2 ∧ (if i = m_D M then nd h p d a else m_dd M i) 4 ≤ 1000000000
    by_cases e : i = m_D M
    · rw [if_pos e]
      exact ⟨h1, h2, h3, h4, by show 1000000 ≤ 1000000000; omega⟩
    · rw [if_neg e]
      exact a3 i
  · have hk' : k < m_nl M i := hk
    have hi : i ≠ m_D M := fun e => by rw [e, a5 _ (Nat.le_refl _)] at hk'; omega
    show m_lv M i k 5 / 2 ^ ((if i = m_D M then nd h p d a else m_dd M i) 1) % 2 = 0
    rw [if_neg hi]
    exact a14 i k hk'
theorem rI_diary {h p d a : Nat} (hr : RI S m M) (hw : wM M) (hD : m_D M < 40) : RI (st_pi (st_wi (st_wi (st_wi (st_wi (st_wi (st_pi S 1000 m (nI 0)) (m + 19) (m_D M) (nI h)) (m + 20) (m_D M) (nI p)) (m + 21) (m_D M) (nI d)) (m + 22) (m_D M) (nI a)) (m + 23) (m_D M) (nI 1000000)) 1027 m (nI (m_D M + 1))) m (m_diary M h p d a) := by
  obtain ⟨a0, a1, a2, a3, a4, a5, a6, a7, a8, a9, a10, a11, a12⟩ := hr
  refine ⟨RS_pi _ _ _ (RS_wi _ _ _ (RS_wi _ _ _ (RS_wi _ _ _ (RS_wi _ _ _ (RS_wi _ _ _ (RS_pi _ _ _ a0)))))), ?_, ?_, ?_, ?_, ?_, ?_, ?_, ?_, ?_, ?_, ?_, ?_⟩
  · simp (disch := omega) only [ri_wi_ne, qri_pi]; exact a1
  · exact fi_pi_at _ _ _ _
  · intro i hi
    have hi' : i < m_D M + 1 := hi
    show _ = nI ((if i = m_D M then nd h p d a else m_dd M i) 0) ∧ _ = nI ((if i = m_D M then nd h p d a else m_dd M i) 1) ∧ _ = nI ((if i = m_D M then nd h p d a else m_dd M i) 2) ∧ _ = nI ((if i = m_D M then nd h p d a else m_dd M i) 3) ∧ _ = nI ((if i = m_D M then nd h p d a else m_dd M i) 4)
    by_cases e : i = m_D M
    · rw [if_pos e, e]
      simp (disch := omega) only [ri_wi_ne, qri_pi, ri_wi_at]
      exact ⟨rfl, rfl, rfl, rfl, rfl⟩
    · rw [if_neg e]
      simp (disch := omega) only [ri_wi_nj, qri_pi]
      exact a3 i (by omega)
  · simp (disch := omega) only [ri_wi_ne, qri_pi]; exact a4
  · intro i k w hi hk hw'
    simp (disch := omega) only [ri_wi_ne, qri_pi]
    have hi' : i < m_D M + 1 := hi
    have hk' : k < m_nl M i := hk
    have : i ≠ m_D M := fun e => by rw [e, wM_n0 hw (Nat.le_refl _)] at hk'; omega
    exact a5 i k w (by omega) hk hw'
  · simp (disch := omega) only [fi_pi_nk, qfi_wi]; exact a6
  · simp (disch := omega) only [ri_wi_ne, qri_pi]; exact a7
  · simp (disch := omega) only [ri_wi_ne, qri_pi]; exact a8
  · simp (disch := omega) only [fi_pi_nk, qfi_wi]; exact a9
  · simp (disch := omega) only [fi_pi_nk, qfi_wi]; exact a10
  · intro t ht
    refine RT_ri (a11 t ht) ?_ ?_ ?_ ?_ ?_ ?_ <;> simp (disch := omega) only [ri_wi_ne, qri_pi]
  · simp only [qrl_pi, qrl_wi]; exact a12
/-- there is one of that house, person and day -/
def mt (M : mT) (h p d i : Nat) : Nat := if m_dd M i 0 = h ∧ m_dd M i 1 = p ∧ m_dd M i 2 = d then 1 else 0
theorem r_diaryOf {h p d : Nat} (hr : RI S m M) (hw : wM M) (h1 : h ≤ 9) (h2 : p ≤ 7) (h3 : d ≤ 6) : ok (f_X9_diaryOf S m (nI h) (nI p) (nI d)) (fun r S' => S' = S ∧ (sm (mt M h p d) (m_D M) = 0 → r = m1) ∧ (sm (mt M h p d) (m_D M) ≠ 0 → ∃ j, j < m_D M ∧ r = nI j)) := by
  have hs := RI_s hr
  have hD1 := RI_D hr
  have hD := wM_D hw
  unfold f_X9_diaryOf
  refine ok_cnt (Q := fun r S' => S' = S ∧ (sm (mt M h p d) (m_D M) = 0 → r = m1) ∧ (sm (mt M h p d) (m_D M) ≠ 0 → ∃ j, j < m_D M ∧ r = nI j)) (m_D M) (fun i a => ∃ y, a = (S, y, nI i) ∧ (sm (mt M h p d) i = 0 → y = m1) ∧ (sm (mt M h p d) i ≠ 0 → ∃ j, j < m_D M ∧ y = nI j)) ?_ ?_ c_N 0 _ (by omega) ⟨m1, rfl, fun _ => rfl, fun z => absurd rfl z⟩ (N_big (by omega))
  · rintro i a rec hi ⟨y, rfl, q1, q2⟩ hrec
    obtain ⟨i1, i2, i3, i4, i5⟩ := RI_dd hr hi
    obtain ⟨b1, b2, b3, b4, b5⟩ := wM_dd hw i
    have e9 : sm (mt M h p d) (i + 1) = sm (mt M h p d) i + mt M h p d i := rfl
    by_cases c : m_dd M i 0 = h ∧ m_dd M i 1 = p ∧ m_dd M i 2 = d
    · have e : mt M h p d i = 1 := by unfold mt; rw [if_pos c]
      obtain ⟨c1, c2, c3⟩ := c
      rw [c1] at i1
      rw [c2] at i2
      rw [c3] at i3
      have g : b_X9_diaryOf_6 m (nI h) (nI p) (nI d) rec (S, y, nI i) = rec (S, nI i, nI (i + 1)) := by
        simp (disch := first | omega | assumption | (repeat first | assumption | apply RS_pi | apply RS_wi | apply RS_wl | apply CS_pi | apply CS_wi | apply CS_wl | apply CS_wo | apply CS_xo | apply RI_w15 | apply RI_w16 | apply RI_w17 | apply RI_w26 | apply RI_w27 | apply RI_w28 | apply RI_p1000)) only [b_X9_diaryOf_6, j_X9_diaryOf_53, j_X9_diaryOf_55, ↓reduceIte, ↓xg, ↓xi, ↓xl_wi, ↓xl_wl, ↓xl_pi, ↓xlI, ↓xlL, ↓xlN, xl, ↓xn, ↓xc, ↓xon, ↓xos, ↓ln_1, ↓ln_2, ↓ln_3, ↓ln_8, qli_0, qli_1, qli_2, qli_3, qli_4, qli_5, qli_6, qli_7, qli_8, qli_9, qli_10, qli_11, qli_12, qli_13, qli_14, qli_15, qli_16, qli_17, qli_18, qli_19, qli_20, qli_21, qli_22, qli_23, qli_24, qli_25, qli_26, qli_31, qli_32, qli_37, qli_39, qli_40, qli_41, qli_42, qli_43, qli_45, qli_47, qli_48, qli_49, qli_50, qli_56, qli_57, qli_59, qli_60, qli_61, qli_63, qli_64, qli_96, qli_97, qli_99, qli_100, qli_101, qli_122, qli_126, qli_143, qli_144, qli_192, qli_200, qli_201, qli_216, qli_255, qli_256, qli_780, qli_799, qli_800, qli_801, qli_802, qli_880, qli_1000, qli_5760, qli_7040, qli_7920, qli_1000000, in_t, le_t, le_f, lt_t, lt_f, eq_t, eq_f, nI_add, nI_sub', nI_mul, nI_clamp, m1_ne, m1_ne', m1_lt, m1_le, m1_nlt, m1_nle, m1_add, eq_self, not_true_eq_false, not_false_eq_true, ne_eq, Nat.reduceLeDiff, Nat.reduceLT, and_true, true_and, and_self, or_true, true_or, or_false, false_or, false_and, and_false, qK_pi, qK_pr, qK_wi, qK_wl, qK_wo, qK_xi, qK_xo, qfr_pi', qfr_wi', qfr_wl', qfr_wo', qfr_xi', qfr_xo', qfi_pr, qfi_wi, qfi_wl, qfi_wo, qfi_xi, qfi_xo, qln_pi, qln_pr, qln_wi, qln_wl, qln_wo, qln_xi, qln_xo, qri_pi, qri_pr, qri_wl, qri_wo, qri_xo, qrl_pi, qrl_pr, qrl_wi, qrl_wo, qrl_xi, qrl_xo, qro_pi, qro_pr, qro_wi, qro_wl, qro_xi, qnx_pi, qnx_pr, qnx_wi, qnx_wl, qnx_wo, qnx_xi, qnx_xo, qsa_pi, qsa_wi, qsa_wl, qsa_pr, qsa_wo, fi_pi_at, fi_pi_nk, fi_pi_na, ri_wi_at, ri_wi_ne, ri_wi_nj, rl_wl_at, rl_wl_ne, rl_wl_nj, fr_pr_at, fr_pr_nk, fr_pr_na, hs, hD1, ↓rn_1028, ↓rn_1029, ↓rn_1030, i1, i2, i3]
      rw [g]
      exact hrec _ ⟨nI i, rfl, fun z => by omega, fun _ => ⟨i, hi, rfl⟩⟩
    · have e : mt M h p d i = 0 := by unfold mt; rw [if_neg c]
      have g : b_X9_diaryOf_6 m (nI h) (nI p) (nI d) rec (S, y, nI i) = rec (S, y, nI (i + 1)) := by
        by_cases c1 : m_dd M i 0 = h
        · by_cases c2 : m_dd M i 1 = p
          · have c3 : m_dd M i 2 ≠ d := fun z => c ⟨c1, c2, z⟩
            simp (disch := first | omega | assumption | (repeat first | assumption | apply RS_pi | apply RS_wi | apply RS_wl | apply CS_pi | apply CS_wi | apply CS_wl | apply CS_wo | apply CS_xo | apply RI_w15 | apply RI_w16 | apply RI_w17 | apply RI_w26 | apply RI_w27 | apply RI_w28 | apply RI_p1000)) only [b_X9_diaryOf_6, j_X9_diaryOf_53, j_X9_diaryOf_55, ↓reduceIte, ↓xg, ↓xi, ↓xl_wi, ↓xl_wl, ↓xl_pi, ↓xlI, ↓xlL, ↓xlN, xl, ↓xn, ↓xc, ↓xon, ↓xos, ↓ln_1, ↓ln_2, ↓ln_3, ↓ln_8, qli_0, qli_1, qli_2, qli_3, qli_4, qli_5, qli_6, qli_7, qli_8, qli_9, qli_10, qli_11, qli_12, qli_13, qli_14, qli_15, qli_16, qli_17, qli_18, qli_19, qli_20, qli_21, qli_22, qli_23, qli_24, qli_25, qli_26, qli_31, qli_32, qli_37, qli_39, qli_40, qli_41, qli_42, qli_43, qli_45, qli_47, qli_48, qli_49, qli_50, qli_56, qli_57, qli_59, qli_60, qli_61, qli_63, qli_64, qli_96, qli_97, qli_99, qli_100, qli_101, qli_122, qli_126, qli_143, qli_144, qli_192, qli_200, qli_201, qli_216, qli_255, qli_256, qli_780, qli_799, qli_800, qli_801, qli_802, qli_880, qli_1000, qli_5760, qli_7040, qli_7920, qli_1000000, in_t, le_t, le_f, lt_t, lt_f, eq_t, eq_f, nI_add, nI_sub', nI_mul, nI_clamp, m1_ne, m1_ne', m1_lt, m1_le, m1_nlt, m1_nle, m1_add, eq_self, not_true_eq_false, not_false_eq_true, ne_eq, Nat.reduceLeDiff, Nat.reduceLT, and_true, true_and, and_self, or_true, true_or, or_false, false_or, false_and, and_false, qK_pi, qK_pr, qK_wi, qK_wl, qK_wo, qK_xi, qK_xo, qfr_pi', qfr_wi', qfr_wl', qfr_wo', qfr_xi', qfr_xo', qfi_pr, qfi_wi, qfi_wl, qfi_wo, qfi_xi, qfi_xo, qln_pi, qln_pr, qln_wi, qln_wl, qln_wo, qln_xi, qln_xo, qri_pi, qri_pr, qri_wl, qri_wo, qri_xo, qrl_pi, qrl_pr, qrl_wi, qrl_wo, qrl_xi, qrl_xo, qro_pi, qro_pr, qro_wi, qro_wl, qro_xi, qnx_pi, qnx_pr, qnx_wi, qnx_wl, qnx_wo, qnx_xi, qnx_xo, qsa_pi, qsa_wi, qsa_wl, qsa_pr, qsa_wo, fi_pi_at, fi_pi_nk, fi_pi_na, ri_wi_at, ri_wi_ne, ri_wi_nj, rl_wl_at, rl_wl_ne, rl_wl_nj, fr_pr_at, fr_pr_nk, fr_pr_na, hs, hD1, ↓rn_1028, ↓rn_1029, ↓rn_1030, i1, i2, i3]
          · simp (disch := first | omega | assumption | (repeat first | assumption | apply RS_pi | apply RS_wi | apply RS_wl | apply CS_pi | apply CS_wi | apply CS_wl | apply CS_wo | apply CS_xo | apply RI_w15 | apply RI_w16 | apply RI_w17 | apply RI_w26 | apply RI_w27 | apply RI_w28 | apply RI_p1000)) only [b_X9_diaryOf_6, j_X9_diaryOf_53, j_X9_diaryOf_55, ↓reduceIte, ↓xg, ↓xi, ↓xl_wi, ↓xl_wl, ↓xl_pi, ↓xlI, ↓xlL, ↓xlN, xl, ↓xn, ↓xc, ↓xon, ↓xos, ↓ln_1, ↓ln_2, ↓ln_3, ↓ln_8, qli_0, qli_1, qli_2, qli_3, qli_4, qli_5, qli_6, qli_7, qli_8, qli_9, qli_10, qli_11, qli_12, qli_13, qli_14, qli_15, qli_16, qli_17, qli_18, qli_19, qli_20, qli_21, qli_22, qli_23, qli_24, qli_25, qli_26, qli_31, qli_32, qli_37, qli_39, qli_40, qli_41, qli_42, qli_43, qli_45, qli_47, qli_48, qli_49, qli_50, qli_56, qli_57, qli_59, qli_60, qli_61, qli_63, qli_64, qli_96, qli_97, qli_99, qli_100, qli_101, qli_122, qli_126, qli_143, qli_144, qli_192, qli_200, qli_201, qli_216, qli_255, qli_256, qli_780, qli_799, qli_800, qli_801, qli_802, qli_880, qli_1000, qli_5760, qli_7040, qli_7920, qli_1000000, in_t, le_t, le_f, lt_t, lt_f, eq_t, eq_f, nI_add, nI_sub', nI_mul, nI_clamp, m1_ne, m1_ne', m1_lt, m1_le, m1_nlt, m1_nle, m1_add, eq_self, not_true_eq_false, not_false_eq_true, ne_eq, Nat.reduceLeDiff, Nat.reduceLT, and_true, true_and, and_self, or_true, true_or, or_false, false_or, false_and, and_false, qK_pi, qK_pr, qK_wi, qK_wl, qK_wo, qK_xi, qK_xo, qfr_pi', qfr_wi', qfr_wl', qfr_wo', qfr_xi', qfr_xo', qfi_pr, qfi_wi, qfi_wl, qfi_wo, qfi_xi, qfi_xo, qln_pi, qln_pr, qln_wi, qln_wl, qln_wo, qln_xi, qln_xo, qri_pi, qri_pr, qri_wl, qri_wo, qri_xo, qrl_pi, qrl_pr, qrl_wi, qrl_wo, qrl_xi, qrl_xo, qro_pi, qro_pr, qro_wi, qro_wl, qro_xi, qnx_pi, qnx_pr, qnx_wi, qnx_wl, qnx_wo, qnx_xi, qnx_xo, qsa_pi, qsa_wi, qsa_wl, qsa_pr, qsa_wo, fi_pi_at, fi_pi_nk, fi_pi_na, ri_wi_at, ri_wi_ne, ri_wi_nj, rl_wl_at, rl_wl_ne, rl_wl_nj, fr_pr_at, fr_pr_nk, fr_pr_na, hs, hD1, ↓rn_1028, ↓rn_1029, ↓rn_1030, i1, i2, i3]
        · simp (disch := first | omega | assumption | (repeat first | assumption | apply RS_pi | apply RS_wi | apply RS_wl | apply CS_pi | apply CS_wi | apply CS_wl | apply CS_wo | apply CS_xo | apply RI_w15 | apply RI_w16 | apply RI_w17 | apply RI_w26 | apply RI_w27 | apply RI_w28 | apply RI_p1000)) only [b_X9_diaryOf_6, j_X9_diaryOf_53, j_X9_diaryOf_55, ↓reduceIte, ↓xg, ↓xi, ↓xl_wi, ↓xl_wl, ↓xl_pi, ↓xlI, ↓xlL, ↓xlN, xl, ↓xn, ↓xc, ↓xon, ↓xos, ↓ln_1, ↓ln_2, ↓ln_3, ↓ln_8, qli_0, qli_1, qli_2, qli_3, qli_4, qli_5, qli_6, qli_7, qli_8, qli_9, qli_10, qli_11, qli_12, qli_13, qli_14, qli_15, qli_16, qli_17, qli_18, qli_19, qli_20, qli_21, qli_22, qli_23, qli_24, qli_25, qli_26, qli_31, qli_32, qli_37, qli_39, qli_40, qli_41, qli_42, qli_43, qli_45, qli_47, qli_48, qli_49, qli_50, qli_56, qli_57, qli_59, qli_60, qli_61, qli_63, qli_64, qli_96, qli_97, qli_99, qli_100, qli_101, qli_122, qli_126, qli_143, qli_144, qli_192, qli_200, qli_201, qli_216, qli_255, qli_256, qli_780, qli_799, qli_800, qli_801, qli_802, qli_880, qli_1000, qli_5760, qli_7040, qli_7920, qli_1000000, in_t, le_t, le_f, lt_t, lt_f, eq_t, eq_f, nI_add, nI_sub', nI_mul, nI_clamp, m1_ne, m1_ne', m1_lt, m1_le, m1_nlt, m1_nle, m1_add, eq_self, not_true_eq_false, not_false_eq_true, ne_eq, Nat.reduceLeDiff, Nat.reduceLT, and_true, true_and, and_self, or_true, true_or, or_false, false_or, false_and, and_false, qK_pi, qK_pr, qK_wi, qK_wl, qK_wo, qK_xi, qK_xo, qfr_pi', qfr_wi', qfr_wl', qfr_wo', qfr_xi', qfr_xo', qfi_pr, qfi_wi, qfi_wl, qfi_wo, qfi_xi, qfi_xo, qln_pi, qln_pr, qln_wi, qln_wl, qln_wo, qln_xi, qln_xo, qri_pi, qri_pr, qri_wl, qri_wo, qri_xo, qrl_pi, qrl_pr, qrl_wi, qrl_wo, qrl_xi, qrl_xo, qro_pi, qro_pr, qro_wi, qro_wl, qro_xi, qnx_pi, qnx_pr, qnx_wi, qnx_wl, qnx_wo, qnx_xi, qnx_xo, qsa_pi, qsa_wi, qsa_wl, qsa_pr, qsa_wo, fi_pi_at, fi_pi_nk, fi_pi_na, ri_wi_at, ri_wi_ne, ri_wi_nj, rl_wl_at, rl_wl_ne, rl_wl_nj, fr_pr_at, fr_pr_nk, fr_pr_na, hs, hD1, ↓rn_1028, ↓rn_1029, ↓rn_1030, i1, i2, i3]
      rw [g]
      exact hrec _ ⟨y, rfl, fun z => q1 (by omega), fun z => q2 (by omega)⟩
  · rintro a rec ⟨y, rfl, q1, q2⟩
    simp (disch := first | omega | assumption | (repeat first | assumption | apply RS_pi | apply RS_wi | apply RS_wl | apply CS_pi | apply CS_wi | apply CS_wl | apply CS_wo | apply CS_xo | apply RI_w15 | apply RI_w16 | apply RI_w17 | apply RI_w26 | apply RI_w27 | apply RI_w28 | apply RI_p1000)) only [b_X9_diaryOf_6, ↓reduceIte, ↓xg, ↓xi, ↓xl_wi, ↓xl_wl, ↓xl_pi, ↓xlI, ↓xlL, ↓xlN, xl, ↓xn, ↓xc, ↓xon, ↓xos, ↓ln_1, ↓ln_2, ↓ln_3, ↓ln_8, qli_0, qli_1, qli_2, qli_3, qli_4, qli_5, qli_6, qli_7, qli_8, qli_9, qli_10, qli_11, qli_12, qli_13, qli_14, qli_15, qli_16, qli_17, qli_18, qli_19, qli_20, qli_21, qli_22, qli_23, qli_24, qli_25, qli_26, qli_31, qli_32, qli_37, qli_39, qli_40, qli_41, qli_42, qli_43, qli_45, qli_47, qli_48, qli_49, qli_50, qli_56, qli_57, qli_59, qli_60, qli_61, qli_63, qli_64, qli_96, qli_97, qli_99, qli_100, qli_101, qli_122, qli_126, qli_143, qli_144, qli_192, qli_200, qli_201, qli_216, qli_255, qli_256, qli_780, qli_799, qli_800, qli_801, qli_802, qli_880, qli_1000, qli_5760, qli_7040, qli_7920, qli_1000000, in_t, le_t, le_f, lt_t, lt_f, eq_t, eq_f, nI_add, nI_sub', nI_mul, nI_clamp, m1_ne, m1_ne', m1_lt, m1_le, m1_nlt, m1_nle, m1_add, eq_self, not_true_eq_false, not_false_eq_true, ne_eq, Nat.reduceLeDiff, Nat.reduceLT, and_true, true_and, and_self, or_true, true_or, or_false, false_or, false_and, and_false, qK_pi, qK_pr, qK_wi, qK_wl, qK_wo, qK_xi, qK_xo, qfr_pi', qfr_wi', qfr_wl', qfr_wo', qfr_xi', qfr_xo', qfi_pr, qfi_wi, qfi_wl, qfi_wo, qfi_xi, qfi_xo, qln_pi, qln_pr, qln_wi, qln_wl, qln_wo, qln_xi, qln_xo, qri_pi, qri_pr, qri_wl, qri_wo, qri_xo, qrl_pi, qrl_pr, qrl_wi, qrl_wo, qrl_xi, qrl_xo, qro_pi, qro_pr, qro_wi, qro_wl, qro_xi, qnx_pi, qnx_pr, qnx_wi, qnx_wl, qnx_wo, qnx_xi, qnx_xo, qsa_pi, qsa_wi, qsa_wl, qsa_pr, qsa_wo, fi_pi_at, fi_pi_nk, fi_pi_na, ri_wi_at, ri_wi_ne, ri_wi_nj, rl_wl_at, rl_wl_ne, rl_wl_nj, fr_pr_at, fr_pr_nk, fr_pr_na, hs, hD1]
    exact ok_of rfl ⟨rfl, q1, q2⟩

theorem CS_og2 {P : Nat → Prop} (h : CS S x) (g : og S S' P) (hp : ∀ i, i ≤ 23 → i ≠ 3 → i ≠ 4 → P (x + i)) (k3 : st_K S' (x + 3) = st_K S (x + 3)) (k4 : st_K S' (x + 4) = st_K S (x + 4)) : CS S' x := by
  have hK : ∀ i, i ≤ 23 → i ≠ 3 → i ≠ 4 → st_K S' (x + i) = st_K S (x + i) := fun i hi q1 q2 => (g _ (hp i hi q1 q2)).1
  have hL : ∀ i, i ≤ 23 → i ≠ 3 → i ≠ 4 → st_ln S' (x + i) = st_ln S (x + i) := fun i hi q1 q2 => (g _ (hp i hi q1 q2)).2.1
  have hF : ∀ i, i ≤ 23 → i ≠ 3 → i ≠ 4 → ∀ k, st_fr S' k (x + i) = st_fr S k (x + i) := fun i hi q1 q2 => (g _ (hp i hi q1 q2)).2.2.2.2.2.2
  have hK0 : st_K S' x = st_K S x := hK 0 (by omega) (by omega) (by omega)
  have hF0 : ∀ k, st_fr S' k x = st_fr S k x := hF 0 (by omega) (by omega) (by omega)
  unfold CS at h ⊢
  simp (disch := omega) only [hK0, hF0, hK, hL, hF, k3, k4]
  exact h
theorem c_newd {h p d a : Nat} (hI : CI S x A M v) (hw : wM M) (hD : m_D M < 40) (h1 : h ≤ 9) (h2 : p ≤ 7) (h3 : d ≤ 6) (h4 : a ≤ 2) :
    ok (f_Jx4a65c_add_9ea2d (DSt S (nI h) (nI p) (nI d) (nI a)) (x + 3) (st_nx S)) (fun _ S' => ∃ A', CI S' x A' (m_diary M h p d a) v ∧ fc x S S') := by
  obtain ⟨c1, c2, c3, c4, c5, c6, c7, c8, c9, c10, c11, c12, c13, c14, c15⟩ := hI
  have hx := AD_x c15
  obtain ⟨T, hT⟩ : ∃ T, T = DSt S (nI h) (nI p) (nI d) (nI a) := ⟨_, rfl⟩
  rw [← hT]
  have o1 : og S T (fun b => b < st_nx S) := by
    rw [hT]
    unfold DSt
    exact og_pi (og_pi (og_pi (og_pi (og_pi (og_pi (og_pr (og_pr (og_pi (og_no (og_no og_rf (by omega)) (by rw [nx_no]; omega)) (by omega)) (by omega)) (by omega)) (by omega)) (by omega)) (by omega)) (by omega)) (by omega)) (by omega)
  have tx : st_nx T = st_nx S + 2 := by rw [hT]; rfl
  have tsa : st_sa T = st_sa S := by rw [hT]; rfl
  have kD : st_K T (st_nx S) = 3 := by rw [hT]; unfold DSt; simp only [qK_pi, qK_pr]; rw [K_no, if_neg (by rw [nx_no]; omega), K_no, if_pos rfl]
  have kL : st_K T (st_nx S + 1) = 1 := by rw [hT]; unfold DSt; simp only [qK_pi, qK_pr]; rw [K_no, if_pos (by rw [nx_no])]
  have f0 : st_fi T 200 (st_nx S) = nI h := by rw [hT]; unfold DSt; simp (disch := omega) only [fi_pi_at, fi_pi_nk]
  have f1 : st_fi T 201 (st_nx S) = nI p := by rw [hT]; unfold DSt; simp (disch := omega) only [fi_pi_at, fi_pi_nk]
  have f2 : st_fi T 202 (st_nx S) = nI d := by rw [hT]; unfold DSt; simp (disch := omega) only [fi_pi_at, fi_pi_nk]
  have f3 : st_fi T 203 (st_nx S) = nI a := by rw [hT]; unfold DSt; simp (disch := omega) only [fi_pi_at, fi_pi_nk]
  have f5 : st_fi T 205 (st_nx S) = nI 1000000 := by rw [hT]; unfold DSt; simp (disch := omega) only [fi_pi_at, fi_pi_nk]
  have f6 : st_fi T 206 (st_nx S) = m1 := by rw [hT]; unfold DSt; simp (disch := omega) only [fi_pi_at, fi_pi_nk]
  have f4 : st_fr T 204 (st_nx S) = some (st_nx S + 1) := by rw [hT]; unfold DSt; simp (disch := omega) only [qfr_pi', fr_pr_at]
  have fl : st_fr T 1 (st_nx S + 1) = some (st_sa S 100) := by rw [hT]; unfold DSt; simp (disch := omega) only [qfr_pi', fr_pr_nk, fr_pr_at]
  have f22 : st_fi T 2 (st_nx S + 1) = nI 0 := by
    rw [hT]
    unfold DSt
    simp (disch := omega) only [fi_pi_nk, qfi_pr]
    rw [fi_no, if_pos (by rw [nx_no])]
    rfl
  have hsa := c2.2.2.2
  have ksa : st_K T (st_sa S 100) = 30 ∧ st_ln T (st_sa S 100) = 0 := by
    have := o1 (st_sa S 100) (by omega)
    rw [this.1, this.2.1]
    exact ⟨c2.2.1, c2.2.2.1⟩
  have hed : a_ed A < st_nx S := by have := AD_ed c15; omega
  have l3 : LSt T (x + 3) (a_ed A) (m_D M) (a_d A) := LSt_og c4 o1 (by omega) hed tsa
  refine ok_imp (e_add l3 (by omega) (by rw [kD]; omega) (by omega) (by omega) (fun i hi => ?_) (by omega) (by omega) ?_) (fun _ S' ⟨e', w1, w2, w3, w4, w5, w6⟩ => ?_)
  · have b1 := AD_d c15 hi
    have := o1 (a_d A i) b1.2
    rw [this.1, (c5 i hi).1, tx]
    omega
  · have := AD_ed c15; omega
  · have ge : (e' = a_ed A ∧ x + 54 < e') ∨ e' = st_nx S + 2 := by
      rcases w2 with q | q
      · left
        refine ⟨q.1, ?_⟩
        rw [q.1]
        have hk := q.2
        rw [(o1 (a_ed A) hed).1] at hk
        rcases c4.2.2.2.1 with y | y
        · omega
        · have := AD_ed c15; omega
      · right; omega
    have knd : ∀ b, b < st_nx S → st_K S b ≠ 24 → b ≠ e' := by
      intro b hb hk z
      rcases w2 with q | q
      · have hk2 := q.2
        rw [(o1 (a_ed A) hed).1, ← q.1, ← z] at hk2
        exact hk hk2
      · omega
    obtain ⟨A', hA⟩ : ∃ A' : aT, A' = (e', (fun i => if i = m_D M then st_nx S else a_d A i), (fun i => if i = m_D M then st_nx S + 1 else a_l A i), (fun i => if i = m_D M then st_sa S 100 else a_e A i), A.2.2.2.2) := ⟨_, rfl⟩
    have d_n : ∀ i, a_d A' i = if i = m_D M then st_nx S else a_d A i := fun i => by rw [hA]; rfl
    have l_n : ∀ i, a_l A' i = if i = m_D M then st_nx S + 1 else a_l A i := fun i => by rw [hA]; rfl
    have e_n : ∀ i, a_e A' i = if i = m_D M then st_sa S 100 else a_e A i := fun i => by rw [hA]; rfl
    have n_n : a_n A' = a_n A := by rw [hA]; rfl
    have t_n : a_t A' = a_t A := by rw [hA]; rfl
    have b_n : a_b A' = a_b A := by rw [hA]; rfl
    have ed_n : a_ed A' = e' := by rw [hA]; rfl
    have et_n : a_et A' = a_et A := by rw [hA]; rfl
    have nl0 : m_nl M (m_D M) = 0 := wM_n0 hw (Nat.le_refl _)
    -- what is as it was
    have o2 : og S S' (fun b => b < st_nx S ∧ b ≠ x + 3 ∧ b ≠ e') := og_tr (og_mono o1 (fun b hb => hb.1)) (og_mono w6 (fun b hb => ⟨by omega, hb.2.1, hb.2.2⟩))
    have o3 : og T S' (fun b => (b = st_nx S ∨ b = st_nx S + 1) ∧ b ≠ e') := og_mono w6 (fun b hb => ⟨by omega, by omega, hb.2⟩)
    have hne : e' ≠ st_nx S ∧ e' ≠ st_nx S + 1 := by rcases ge with q | q <;> omega
    have gD := o3 (st_nx S) ⟨Or.inl rfl, fun z => hne.1 z.symm⟩
    have gL := o3 (st_nx S + 1) ⟨Or.inr rfl, fun z => hne.2 z.symm⟩
    have hs' : st_sa S' = st_sa S := w5.trans tsa
    have gS := o2 (st_sa S 100) ⟨by omega, by omega, by rcases ge with q | q <;> omega⟩
    refine ⟨A', ⟨?_, SA_og c2 o2 hs' (fun a ha => ⟨by omega, by omega, by rcases ge with q | q <;> omega⟩), ?_, ?_, ?_, ?_, ?_, ?_, ?_, ?_, ?_, ?_, ?_, ?_, ?_⟩, fc_og o2 (fun a g1 g2 => ⟨by omega, by omega, by rcases ge with q | q <;> omega⟩)⟩
    · exact CS_og2 c1 o2 (fun i h1 h2 h3 => ⟨by omega, by omega, by rcases ge with q | q <;> omega⟩) (by rw [w1.1, c4.1]) ((o2 (x + 4) ⟨by omega, by omega, by rcases ge with q | q <;> omega⟩).1)
    · intro w hw'
      rw [(o2 (x + 2) ⟨by omega, by omega, by rcases ge with q | q <;> omega⟩).2.2.1]
      exact c3 w hw'
    · rw [ed_n]
      have : a_d A' = fun i => if i = m_D M then st_nx S else a_d A i := funext d_n
      rw [this]
      exact w1
    · intro i hi
      have hi' : i < m_D M + 1 := hi
      by_cases e : i = m_D M
      · unfold CDi
        rw [d_n, l_n, e_n, if_pos e, if_pos e, if_pos e]
        have dd : ∀ j, m_dd (m_diary M h p d a) i j = nd h p d a j := fun j => by
          show (if i = m_D M then nd h p d a else m_dd M i) j = _
          rw [if_pos e]
        have nn : m_nl (m_diary M h p d a) i = 0 := by
          show m_nl M i = 0
          rw [e]; exact nl0
        rw [dd, dd, dd, dd, dd, nn, gD.1, gD.2.2.2.2.2.1, gD.2.2.2.2.2.1, gD.2.2.2.2.2.1, gD.2.2.2.2.2.1, gD.2.2.2.2.2.1, gD.2.2.2.2.2.2]
        refine ⟨kD, f0, f1, f2, f3, f5, f4, ⟨?_, ?_, ?_, Or.inl ⟨rfl, by rw [hs'], ?_, ?_⟩, fun j hj => by omega⟩, fun j hj => by omega⟩
        · rw [gL.1]; exact kL
        · rw [gL.2.2.2.2.2.2]; exact fl
        · rw [gL.2.2.2.2.2.1]; exact f22
        · rw [gS.1]; exact c2.2.1
        · rw [gS.2.1]; exact c2.2.2.1
      · have hi2 : i < m_D M := by omega
        have q := CDi_og (S' := S') (c5 i hi2) o2 hs' ⟨(AD_d c15 hi2).2, by have := AD_d c15 hi2; omega, ?_⟩ ⟨(AD_l c15 hi2).2, by have := AD_l c15 hi2; omega, ?_⟩ ⟨?_, ?_, ?_⟩ (fun k hk => ⟨(AD_n c15 hi2 hk).2, by have := AD_n c15 hi2 hk; omega, ?_⟩)
        · unfold CDi at q ⊢
          rw [d_n, l_n, e_n, n_n, if_neg e, if_neg e, if_neg e]
          have dd : m_dd (m_diary M h p d a) i = m_dd M i := by
            show (if i = m_D M then nd h p d a else m_dd M i) = _
            rw [if_neg e]
          rw [dd]
          exact q
        · exact knd _ (AD_d c15 hi2).2 (by rw [(c5 i hi2).1]; omega)
        · exact knd _ (AD_l c15 hi2).2 (by rw [(c5 i hi2).2.2.2.2.2.2.2.1.1]; omega)
        · have := AD_e c15 hi2; omega
        · have := AD_e c15 hi2; omega
        · intro z
          rcases ge with q | q
          · have := AD_ee c15 hi2 (Or.inl (z.trans q.1))
            omega
          · have := AD_e c15 hi2; omega
        · exact knd _ (AD_n c15 hi2 hk).2 (by rw [((c5 i hi2).2.2.2.2.2.2.2.2 k hk).1]; omega)
    · intro i hi
      have hi' : i < m_D M + 1 := hi
      by_cases e : i = m_D M
      · left
        rw [d_n, if_pos e, gD.2.2.2.2.2.1]
        exact f6
      · have hi2 : i < m_D M := by omega
        have q := CV_og (S' := S') (c6 i hi2) o2 ⟨(AD_d c15 hi2).2, by have := AD_d c15 hi2; omega, knd _ (AD_d c15 hi2).2 (by rw [(c5 i hi2).1]; omega)⟩ (fun k hk => ⟨(AD_n c15 hi2 hk).2, by have := AD_n c15 hi2 hk; omega, knd _ (AD_n c15 hi2 hk).2 (by rw [((c5 i hi2).2.2.2.2.2.2.2.2 k hk).1]; omega)⟩)
        have dd : m_dd (m_diary M h p d a) i = m_dd M i := by
          show (if i = m_D M then nd h p d a else m_dd M i) = _
          rw [if_neg e]
        exact CV_cg q rfl rfl rfl (by rw [dd]) (by rw [dd]) rfl (by rw [d_n, if_neg e]) (by rw [n_n])
    · rw [et_n, t_n]
      have := AD_et c15
      refine LSt_og c7 o2 ⟨by omega, by omega, by rcases ge with q | q <;> omega⟩ ⟨by omega, by omega, ?_⟩ hs'
      intro z
      rcases ge with q | q
      · have := AD_eq c15 (q.1.symm.trans z.symm); omega
      · omega
    · intro t ht
      rw [t_n, b_n]
      have b1 := AD_t c15 ht
      refine TX_og (c8 t ht) o2 ⟨b1.2, by omega, knd _ b1.2 (by rw [(c8 t ht).1]; omega)⟩ (fun j hj => ?_)
      have b2 := AD_b c15 ht hj
      refine ⟨b2.2, by omega, knd _ b2.2 ?_⟩
      have k := c8 t ht
      have key : j = 0 ∨ j = 1 ∨ j = 2 ∨ j = 3 := by omega
      rcases key with z | z | z | z <;> subst z
      · rw [k.2.2.2.2.2.1]; omega
      · rw [k.2.2.2.2.2.2.1]; omega
      · rw [k.2.2.2.2.2.2.2.1]; omega
      · rw [k.2.2.2.2.2.2.2.2.1]; omega
    · rw [(o2 (x + 10) ⟨by omega, by omega, by rcases ge with q | q <;> omega⟩).2.2.2.2.2.1]; exact c9
    · rw [(o2 (x + 11) ⟨by omega, by omega, by rcases ge with q | q <;> omega⟩).2.2.1]; exact c10
    · rw [(o2 (x + 23) ⟨by omega, by omega, by rcases ge with q | q <;> omega⟩).2.2.1]; exact c11
    · rw [(o2 x ⟨by omega, by omega, by rcases ge with q | q <;> omega⟩).2.2.2.2.2.1]; exact c12
    · rw [(o2 x ⟨by omega, by omega, by rcases ge with q | q <;> omega⟩).2.2.2.2.2.1]; exact c13
    · rw [(o2 (x + 5) ⟨by omega, by omega, by rcases ge with q | q <;> omega⟩).2.2.2.2.2.1]; exact c14
    · have D' : m_D (m_diary M h p d a) = m_D M + 1 := rfl
      have L' : ∀ i, m_nl (m_diary M h p d a) i = m_nl M i := fun _ => rfl
      have T' : m_T (m_diary M h p d a) = m_T M := rfl
      unfold AD
      rw [D', T', ed_n, et_n, n_n, t_n, b_n]
      refine ⟨by omega, fun i hi => ?_, ?_, ?_, fun i j hi hj => ?_, fun i j hi hj => ?_, fun i j hi hj => ?_, fun i hi => ?_, ?_, fun i k hi hk => ?_, fun i k j l hi hk hj hl => ?_, fun t ht => ?_, fun t j ht hj => ?_⟩
      · rw [d_n, l_n, e_n]
        by_cases e : i = m_D M
        · rw [if_pos e, if_pos e, if_pos e]; omega
        · rw [if_neg e, if_neg e, if_neg e]
          have b1 := AD_d c15 (show i < m_D M by omega)
          have b2 := AD_l c15 (show i < m_D M by omega)
          have b3 := AD_e c15 (show i < m_D M by omega)
          omega
      · right; rcases ge with q | q <;> omega
      · have := AD_et c15; omega
      · rw [d_n, d_n]
        by_cases e : i = m_D M
        · by_cases e2 : j = m_D M
          · omega
          · rw [if_pos e, if_neg e2]
            have := AD_d c15 (show j < m_D M by omega)
            omega
        · by_cases e2 : j = m_D M
          · rw [if_neg e, if_pos e2]
            have := AD_d c15 (show i < m_D M by omega)
            omega
          · rw [if_neg e, if_neg e2]
            exact AD_di c15 (by omega) (by omega)
      · rw [l_n, l_n]
        by_cases e : i = m_D M
        · by_cases e2 : j = m_D M
          · omega
          · rw [if_pos e, if_neg e2]
            have := AD_l c15 (show j < m_D M by omega)
            omega
        · by_cases e2 : j = m_D M
          · rw [if_neg e, if_pos e2]
            have := AD_l c15 (show i < m_D M by omega)
            omega
          · rw [if_neg e, if_neg e2]
            exact AD_li c15 (by omega) (by omega)
      · rw [e_n, e_n]
        by_cases e : i = m_D M
        · rw [if_pos e]; omega
        · rw [if_neg e]
          by_cases e2 : j = m_D M
          · rw [if_pos e2]; omega
          · rw [if_neg e2]
            exact AD_ei c15 (by omega) (by omega)
      · rw [e_n]
        by_cases e : i = m_D M
        · rw [if_pos e]; omega
        · rw [if_neg e]
          intro z
          have b3 := AD_e c15 (show i < m_D M by omega)
          rcases z with z | z
          · rcases ge with q | q
            · exact AD_ee c15 (by omega) (Or.inl (z.trans q.1))
            · omega
          · exact AD_ee c15 (by omega) (Or.inr z)
      · intro z
        rcases ge with q | q
        · have := AD_eq c15 (q.1.symm.trans z); omega
        · have := AD_et c15; omega
      · have hk' : k < m_nl M i := hk
        have hne2 : i ≠ m_D M := fun e => by rw [e, nl0] at hk'; omega
        have := AD_n c15 (show i < m_D M by omega) hk'
        omega
      · have hk' : k < m_nl M i := hk
        have hl' : l < m_nl M j := hl
        have n1 : i ≠ m_D M := fun e => by rw [e, nl0] at hk'; omega
        have n2 : j ≠ m_D M := fun e => by rw [e, nl0] at hl'; omega
        exact AD_ni c15 (by omega) hk' (by omega) hl'
      · have := AD_t c15 ht; omega
      · have := AD_b c15 ht hj; omega
end DI
