/-! text: the class reads -/
section CT
variable {β : Type} {S S' S0 T : st_T} {m x v n z : Nat} {M : mT} {A : aT} {L : List (Nat × Nat × Nat)} {w p : Nat} {st rs : List (Nat × Nat)} {mn e : Nat} {ts : Nat → Nat}
theorem wkf_rg (l : List Nat) : ∀ f, f ≤ 14 → wkf l f = 0 ∨ (10 ≤ wkf l f ∧ wkf l f ≤ 23) := by
  intro f
  induction f with
  | zero => intro _; exact Or.inl rfl
  | succ f ih =>
    intro hf
    unfold wkf
    by_cases c : l = st_tx (13 - f)
    · rw [if_pos c]; right; omega
    · rw [if_neg c]; exact ih (by omega)
theorem wk_rg (l : List Nat) : wk l = 0 ∨ (10 ≤ wk l ∧ wk l ≤ 23) := by
  unfold wk
  split
  · exact Or.inl rfl
  · exact wkf_rg l 14 (by omega)
theorem ks_rg (c : Nat) : ks c = 0 ∨ (3 ≤ ks c ∧ ks c ≤ 9) := by
  unfold ks
  split
  · right; omega
  split
  · right; omega
  split
  · right; omega
  split
  · right; omega
  split
  · right; omega
  split
  · right; omega
  split
  · right; omega
  · left; rfl
theorem tn_rg {a : Nat} (hz : z ≤ 800) (h : a < z) : (tn' z ts a).1 ≠ 1 ∧ (tn' z ts a).1 ≤ 23 ∧ (tn' z ts a).2.1 < 10000 ∧ (tn' z ts a).2.2 ≤ 800 := by
  unfold tn'
  by_cases c1 : 97 ≤ ts a ∧ ts a ≤ 122
  · rw [if_pos c1]
    have := wk_rg (sl ts a (te z ts a - a))
    exact ⟨by show wk _ ≠ 1; omega, by show wk _ ≤ 23; omega, by show 0 < 10000; omega, by show a ≤ 800; omega⟩
  · rw [if_neg c1]
    by_cases c2 : 48 ≤ ts a ∧ ts a ≤ 57
    · rw [if_pos c2]
      by_cases c3 : te z ts a - a ≤ 4
      · rw [if_pos c3]
        have t1 : te z ts a = er z ts 48 57 800 a := by unfold te; rw [if_neg c1, if_pos c2]
        have t3 := (er_spec (z := z) (ts := ts) (lo := 48) (hi := 57) 800 a (by omega) (by omega)).2.2.1
        rw [← t1] at t3
        have lt := nv_lt (ts := ts) (a := a) (te z ts a - a) (fun j hj => (t3 (a + j) (by omega) (by omega)).2)
        have le : 10 ^ (te z ts a - a) ≤ 10 ^ 4 := Nat.pow_le_pow_right (by omega) c3
        exact ⟨by show 2 ≠ 1; omega, by show 2 ≤ 23; omega, by show nv _ < 10000; omega, by show a ≤ 800; omega⟩
      · rw [if_neg c3]
        exact ⟨by show 0 ≠ 1; omega, by show 0 ≤ 23; omega, by show 0 < 10000; omega, by show a ≤ 800; omega⟩
    · rw [if_neg c2]
      have := ks_rg (ts a)
      exact ⟨by show ks _ ≠ 1; omega, by show ks _ ≤ 23; omega, by show 0 < 10000; omega, by show a ≤ 800; omega⟩
theorem toks_rg (hz : z ≤ 800) : ∀ (f a : Nat), ∀ q ∈ toks z ts f a, q.1 ≠ 1 ∧ q.1 ≤ 23 ∧ q.2.1 < 10000 ∧ q.2.2 ≤ 800 := by
  intro f
  induction f with
  | zero => intro a q hq; cases hq
  | succ f ih =>
    intro a q hq
    unfold toks at hq
    by_cases c : a < z
    · rw [if_pos c] at hq
      by_cases c2 : ts a = 10 ∨ ts a = 32
      · rw [if_pos c2] at hq
        exact ih _ q hq
      · rw [if_neg c2] at hq
        rcases List.mem_cons.mp hq with e | e
        · rw [e]; exact tn_rg hz c
        · exact ih _ q e
    · rw [if_neg c] at hq
      cases hq
theorem LG_tks (hw : wM M) : LG (tks M) (toks (m_tz M) (m_ts M) 800 0).length := by
  have hz := wM_tz hw
  have hl := toks_len (ts := m_ts M) hz 800 0 (by omega)
  have hr := toks_rg (ts := m_ts M) hz 800 0
  unfold tks
  generalize toks (m_tz M) (m_ts M) 800 0 = L0 at *
  have at_ : ∀ i, i < L0.length → (L0 ++ [(1, 0, m_tz M)]).getD i (0, 0, 0) ∈ L0 := by
    intro i hi
    rw [getD_app hi, gD hi]
    exact List.getElem_mem hi
  have end_ : (L0 ++ [(1, 0, m_tz M)]).getD L0.length (0, 0, 0) = (1, 0, m_tz M) := getD_app_at
  refine ⟨by rw [List.length_append]; rfl, by omega, ?_, fun i hi => (hr _ (at_ i hi)).1, fun i hi => ?_⟩
  · unfold tK
    rw [end_]
  · unfold tK tV tP
    by_cases c : i = L0.length
    · rw [c, end_]
      exact ⟨by show 1 ≤ 23; omega, by show 0 < 10000; omega, hz⟩
    · exact (hr _ (at_ i (by omega))).2
theorem p_move0 (hc : CS T x) (ht : TokS T x L) (hL : LG L n) {p' : Nat} (hp : p' ≤ n) : f_X3_moveTo T (x + 12) (nI p') = some ((), st_pi (st_pi T 409 (x + 12) (nI p')) 410 (x + 12) (nI (tK L p'))) := by
  have t1 := ht.1
  have hn := hL.2.1
  rw [hL.1] at t1
  have t2 := (ht.2 p' (by rw [hL.1]; omega)).1
  unfold f_X3_moveTo tK
  generalize (L.getD p' (0, 0, 0)).1 = u at *
  clear ht hL
  simp (disch := first | omega | assumption | (repeat first | assumption | apply RS_pi | apply RS_wi | apply RS_wl | apply CS_pi | apply CS_wi | apply CS_wl | apply CS_wo | apply CS_xo | apply RI_w15 | apply RI_w16 | apply RI_w17 | apply RI_w26 | apply RI_w27 | apply RI_w28 | apply RI_p1000)) only [↓reduceIte, ↓xg, ↓xi, ↓xl_wi, ↓xl_wl, ↓xl_pi, ↓xlI, ↓xlL, ↓xlN, xl, ↓xn, ↓xc, ↓xon, ↓xos, ↓ln_1, ↓ln_2, ↓ln_3, ↓ln_8, qli_0, qli_1, qli_2, qli_3, qli_4, qli_5, qli_6, qli_7, qli_8, qli_9, qli_10, qli_11, qli_12, qli_13, qli_14, qli_15, qli_16, qli_17, qli_18, qli_19, qli_20, qli_21, qli_22, qli_23, qli_24, qli_25, qli_26, qli_31, qli_32, qli_37, qli_39, qli_40, qli_41, qli_42, qli_43, qli_45, qli_47, qli_48, qli_49, qli_50, qli_56, qli_57, qli_59, qli_60, qli_61, qli_63, qli_64, qli_96, qli_97, qli_99, qli_100, qli_101, qli_122, qli_126, qli_143, qli_144, qli_192, qli_200, qli_201, qli_216, qli_255, qli_256, qli_780, qli_799, qli_800, qli_801, qli_802, qli_880, qli_1000, qli_5760, qli_7040, qli_7920, qli_1000000, in_t, le_t, le_f, lt_t, lt_f, eq_t, eq_f, nI_add, nI_sub', nI_mul, nI_clamp, m1_ne, m1_ne', m1_lt, m1_le, m1_nlt, m1_nle, m1_add, eq_self, not_true_eq_false, not_false_eq_true, ne_eq, Nat.reduceLeDiff, Nat.reduceLT, and_true, true_and, and_self, or_true, true_or, or_false, false_or, false_and, and_false, qK_pi, qK_pr, qK_wi, qK_wl, qK_wo, qK_xi, qK_xo, qfr_pi', qfr_wi', qfr_wl', qfr_wo', qfr_xi', qfr_xo', qfi_pr, qfi_wi, qfi_wl, qfi_wo, qfi_xi, qfi_xo, qln_pi, qln_pr, qln_wi, qln_wl, qln_wo, qln_xi, qln_xo, qri_pi, qri_pr, qri_wl, qri_wo, qri_xo, qrl_pi, qrl_pr, qrl_wi, qrl_wo, qrl_xi, qrl_xo, qro_pi, qro_pr, qro_wi, qro_wl, qro_xi, qnx_pi, qnx_pr, qnx_wi, qnx_wl, qnx_wo, qnx_xi, qnx_xo, qsa_pi, qsa_wi, qsa_wl, qsa_pr, qsa_wo, fi_pi_at, fi_pi_nk, fi_pi_na, ri_wi_at, ri_wi_ne, ri_wi_nj, rl_wl_at, rl_wl_ne, rl_wl_nj, fr_pr_at, fr_pr_nk, fr_pr_na, hc, t1, t2, ↓cn_400, ↓cn_700]
theorem c_readL (hcS : CS S x) (hL : LG L n) (h : PG S x L T 0 [] [] 0) : ok (c_w (b_X3_read_35 (x + 12)) c_N (T, nI 0)) (fun r T' => PQ S x L r T' (xRd L 24 0 [] [])) := by
  have hn := hL.2.1
  obtain ⟨G, hG⟩ : ∃ G, G = xRd L 24 0 [] [] := ⟨_, rfl⟩
  rw [← hG]
  have exB : ∀ (rec : st_T × Int32 → Option (Int32 × st_T)) (T : st_T) (i e : Nat), i ≤ 25 → PB S x L T e → b_X3_read_35 (x + 12) rec (T, nI i) = j_X3_read_108 (x + 12) T := by
    intro rec T i e hi h
    have hc := CS_fq hcS h.1
    have k4 := h.2.2.1
    clear h hcS
    unfold b_X3_read_35
    generalize j_X3_read_108 = J
    by_cases c : i = 25
    · simp (disch := first | omega | assumption | (repeat first | assumption | apply RS_pi | apply RS_wi | apply RS_wl | apply CS_pi | apply CS_wi | apply CS_wl | apply CS_wo | apply CS_xo | apply RI_w15 | apply RI_w16 | apply RI_w17 | apply RI_w26 | apply RI_w27 | apply RI_w28 | apply RI_p1000)) only [↓reduceIte, ↓xg, ↓xi, ↓xl_wi, ↓xl_wl, ↓xl_pi, ↓xlI, ↓xlL, ↓xlN, xl, ↓xn, ↓xc, ↓xon, ↓xos, ↓ln_1, ↓ln_2, ↓ln_3, ↓ln_8, qli_0, qli_1, qli_2, qli_3, qli_4, qli_5, qli_6, qli_7, qli_8, qli_9, qli_10, qli_11, qli_12, qli_13, qli_14, qli_15, qli_16, qli_17, qli_18, qli_19, qli_20, qli_21, qli_22, qli_23, qli_24, qli_25, qli_26, qli_31, qli_32, qli_37, qli_39, qli_40, qli_41, qli_42, qli_43, qli_45, qli_47, qli_48, qli_49, qli_50, qli_56, qli_57, qli_59, qli_60, qli_61, qli_63, qli_64, qli_96, qli_97, qli_99, qli_100, qli_101, qli_122, qli_126, qli_143, qli_144, qli_192, qli_200, qli_201, qli_216, qli_255, qli_256, qli_780, qli_799, qli_800, qli_801, qli_802, qli_880, qli_1000, qli_5760, qli_7040, qli_7920, qli_1000000, in_t, le_t, le_f, lt_t, lt_f, eq_t, eq_f, nI_add, nI_sub', nI_mul, nI_clamp, m1_ne, m1_ne', m1_lt, m1_le, m1_nlt, m1_nle, m1_add, eq_self, not_true_eq_false, not_false_eq_true, ne_eq, Nat.reduceLeDiff, Nat.reduceLT, and_true, true_and, and_self, or_true, true_or, or_false, false_or, false_and, and_false, qK_pi, qK_pr, qK_wi, qK_wl, qK_wo, qK_xi, qK_xo, qfr_pi', qfr_wi', qfr_wl', qfr_wo', qfr_xi', qfr_xo', qfi_pr, qfi_wi, qfi_wl, qfi_wo, qfi_xi, qfi_xo, qln_pi, qln_pr, qln_wi, qln_wl, qln_wo, qln_xi, qln_xo, qri_pi, qri_pr, qri_wl, qri_wo, qri_xo, qrl_pi, qrl_pr, qrl_wi, qrl_wo, qrl_xi, qrl_xo, qro_pi, qro_pr, qro_wi, qro_wl, qro_xi, qnx_pi, qnx_pr, qnx_wi, qnx_wl, qnx_wo, qnx_xi, qnx_xo, qsa_pi, qsa_wi, qsa_wl, qsa_pr, qsa_wo, fi_pi_at, fi_pi_nk, fi_pi_na, ri_wi_at, ri_wi_ne, ri_wi_nj, rl_wl_at, rl_wl_ne, rl_wl_nj, fr_pr_at, fr_pr_nk, fr_pr_na]
    · simp (disch := first | omega | assumption | (repeat first | assumption | apply RS_pi | apply RS_wi | apply RS_wl | apply CS_pi | apply CS_wi | apply CS_wl | apply CS_wo | apply CS_xo | apply RI_w15 | apply RI_w16 | apply RI_w17 | apply RI_w26 | apply RI_w27 | apply RI_w28 | apply RI_p1000)) only [↓reduceIte, ↓xg, ↓xi, ↓xl_wi, ↓xl_wl, ↓xl_pi, ↓xlI, ↓xlL, ↓xlN, xl, ↓xn, ↓xc, ↓xon, ↓xos, ↓ln_1, ↓ln_2, ↓ln_3, ↓ln_8, qli_0, qli_1, qli_2, qli_3, qli_4, qli_5, qli_6, qli_7, qli_8, qli_9, qli_10, qli_11, qli_12, qli_13, qli_14, qli_15, qli_16, qli_17, qli_18, qli_19, qli_20, qli_21, qli_22, qli_23, qli_24, qli_25, qli_26, qli_31, qli_32, qli_37, qli_39, qli_40, qli_41, qli_42, qli_43, qli_45, qli_47, qli_48, qli_49, qli_50, qli_56, qli_57, qli_59, qli_60, qli_61, qli_63, qli_64, qli_96, qli_97, qli_99, qli_100, qli_101, qli_122, qli_126, qli_143, qli_144, qli_192, qli_200, qli_201, qli_216, qli_255, qli_256, qli_780, qli_799, qli_800, qli_801, qli_802, qli_880, qli_1000, qli_5760, qli_7040, qli_7920, qli_1000000, in_t, le_t, le_f, lt_t, lt_f, eq_t, eq_f, nI_add, nI_sub', nI_mul, nI_clamp, m1_ne, m1_ne', m1_lt, m1_le, m1_nlt, m1_nle, m1_add, eq_self, not_true_eq_false, not_false_eq_true, ne_eq, Nat.reduceLeDiff, Nat.reduceLT, and_true, true_and, and_self, or_true, true_or, or_false, false_or, false_and, and_false, qK_pi, qK_pr, qK_wi, qK_wl, qK_wo, qK_xi, qK_xo, qfr_pi', qfr_wi', qfr_wl', qfr_wo', qfr_xi', qfr_xo', qfi_pr, qfi_wi, qfi_wl, qfi_wo, qfi_xi, qfi_xo, qln_pi, qln_pr, qln_wi, qln_wl, qln_wo, qln_xi, qln_xo, qri_pi, qri_pr, qri_wl, qri_wo, qri_xo, qrl_pi, qrl_pr, qrl_wi, qrl_wo, qrl_xi, qrl_xo, qro_pi, qro_pr, qro_wi, qro_wl, qro_xi, qnx_pi, qnx_pr, qnx_wi, qnx_wl, qnx_wo, qnx_xi, qnx_xo, qsa_pi, qsa_wi, qsa_wl, qsa_pr, qsa_wo, fi_pi_at, fi_pi_nk, fi_pi_na, ri_wi_at, ri_wi_ne, ri_wi_nj, rl_wl_at, rl_wl_ne, rl_wl_nj, fr_pr_at, fr_pr_nk, fr_pr_na, hc, k4]
  refine ok_cnt 25 (fun i q => ∃ T', q = (T', nI i) ∧ ((∃ p st rs, PG S x L T' p st rs 0 ∧ p ≤ n ∧ st.length ≤ p ∧ rs.length = i ∧ i ≤ 24 ∧ xRd L (24 - i) p rs st = G) ∨ ∃ e, PB S x L T' e ∧ G = .inl e)) ?_ ?_ c_N 0 _ (by omega) ⟨T, rfl, Or.inl ⟨0, [], [], h, by omega, by show 0 ≤ 0; omega, rfl, by omega, hG.symm⟩⟩ (N_big (by omega))
  · rintro i q rec hi ⟨T', rfl, hh⟩ hrec
    rcases hh with ⟨p, st, rs, h1, h2, h3, h5, h6, h4⟩ | ⟨e, h1, h2⟩
    · have hc := CS_fq hcS h1.1
      have k4 := h1.2.2.2.1
      have k8 := h1.2.2.2.2.2.2.2.1
      have kb := (hL.2.2.2.2 p h2).1
      rw [h5] at k8
      by_cases c : tK L p = 11
      · have lt := LG_lt hL h2 (by omega)
        by_cases c24 : i = 24
        · have e0 : 24 - i = 0 := by omega
          rw [e0, xRd, if_pos c] at h4
          have stp : b_X3_read_35 (x + 12) rec (T', nI i) = c_c (f_X3_fail T' (x + 12) (nI 5)) (fun _ T61 => j_X3_read_108 (x + 12) T61) := by
            clear h h1 hcS hrec exB h4
            rw [c] at k4
            subst c24
            unfold b_X3_read_35
            generalize j_X3_read_108 = J
            simp (disch := first | omega | assumption | (repeat first | assumption | apply RS_pi | apply RS_wi | apply RS_wl | apply CS_pi | apply CS_wi | apply CS_wl | apply CS_wo | apply CS_xo | apply RI_w15 | apply RI_w16 | apply RI_w17 | apply RI_w26 | apply RI_w27 | apply RI_w28 | apply RI_p1000)) only [↓reduceIte, ↓xg, ↓xi, ↓xl_wi, ↓xl_wl, ↓xl_pi, ↓xlI, ↓xlL, ↓xlN, xl, ↓xn, ↓xc, ↓xon, ↓xos, ↓ln_1, ↓ln_2, ↓ln_3, ↓ln_8, qli_0, qli_1, qli_2, qli_3, qli_4, qli_5, qli_6, qli_7, qli_8, qli_9, qli_10, qli_11, qli_12, qli_13, qli_14, qli_15, qli_16, qli_17, qli_18, qli_19, qli_20, qli_21, qli_22, qli_23, qli_24, qli_25, qli_26, qli_31, qli_32, qli_37, qli_39, qli_40, qli_41, qli_42, qli_43, qli_45, qli_47, qli_48, qli_49, qli_50, qli_56, qli_57, qli_59, qli_60, qli_61, qli_63, qli_64, qli_96, qli_97, qli_99, qli_100, qli_101, qli_122, qli_126, qli_143, qli_144, qli_192, qli_200, qli_201, qli_216, qli_255, qli_256, qli_780, qli_799, qli_800, qli_801, qli_802, qli_880, qli_1000, qli_5760, qli_7040, qli_7920, qli_1000000, in_t, le_t, le_f, lt_t, lt_f, eq_t, eq_f, nI_add, nI_sub', nI_mul, nI_clamp, m1_ne, m1_ne', m1_lt, m1_le, m1_nlt, m1_nle, m1_add, eq_self, not_true_eq_false, not_false_eq_true, ne_eq, Nat.reduceLeDiff, Nat.reduceLT, and_true, true_and, and_self, or_true, true_or, or_false, false_or, false_and, and_false, qK_pi, qK_pr, qK_wi, qK_wl, qK_wo, qK_xi, qK_xo, qfr_pi', qfr_wi', qfr_wl', qfr_wo', qfr_xi', qfr_xo', qfi_pr, qfi_wi, qfi_wl, qfi_wo, qfi_xi, qfi_xo, qln_pi, qln_pr, qln_wi, qln_wl, qln_wo, qln_xi, qln_xo, qri_pi, qri_pr, qri_wl, qri_wo, qri_xo, qrl_pi, qrl_pr, qrl_wi, qrl_wo, qrl_xi, qrl_xo, qro_pi, qro_pr, qro_wi, qro_wl, qro_xi, qnx_pi, qnx_pr, qnx_wi, qnx_wl, qnx_wo, qnx_xi, qnx_xo, qsa_pi, qsa_wi, qsa_wl, qsa_pr, qsa_wo, fi_pi_at, fi_pi_nk, fi_pi_na, ri_wi_at, ri_wi_ne, ri_wi_nj, rl_wl_at, rl_wl_ne, rl_wl_nj, fr_pr_at, fr_pr_nk, fr_pr_na, hc, k4, k8]
          rw [stp, ← h4]
          exact ok_cc (p_fail (how := 5) hcS hL h1 h2 (by omega) (by omega) (by omega) (by omega)) (fun _ T1 q1 => c_r108B hcS q1)
        · obtain ⟨f, hf⟩ : ∃ f, 24 - i = f + 1 := ⟨23 - i, by omega⟩
          have hf2 : 24 - (i + 1) = f := by omega
          rw [hf, xRd, if_pos c] at h4
          have stp : b_X3_read_35 (x + 12) rec (T', nI i) = c_c (f_X3_take T' (x + 12) (nI 11)) (fun _ T70 => c_g (st_K T70 (x + 12) = 5) (c_c (f_X3_takeNumber T70 (x + 12) (nI 0) (nI 49)) (fun r77 T77 => c_g (st_K T77 (x + 12) = 5) (c_c (f_X3_take T77 (x + 12) (nI 12)) (fun _ T84 => c_g (st_K T84 (x + 12) = 5) (c_c (f_X3_expr 8 T84 (x + 12) (nI 0)) (fun _ T89 => c_g (st_K T89 (x + 12) = 5) (c_c (f_X3_take T89 (x + 12) (nI 5)) (fun _ T94 => c_g (st_K T94 (x + 12) = 5) (c_c (f_X3_endRule T94 (x + 12) r77) (fun _ T99 => rec (T99, nI (i + 1))))))))))))) := by
            clear h h1 hcS hrec exB h4
            rw [c] at k4
            have hi24 : i < 24 := by omega
            unfold b_X3_read_35
            generalize j_X3_read_108 = J
            generalize f_X3_expr 8 = E8
            simp (disch := first | omega | assumption | (repeat first | assumption | apply RS_pi | apply RS_wi | apply RS_wl | apply CS_pi | apply CS_wi | apply CS_wl | apply CS_wo | apply CS_xo | apply RI_w15 | apply RI_w16 | apply RI_w17 | apply RI_w26 | apply RI_w27 | apply RI_w28 | apply RI_p1000)) only [↓reduceIte, ↓xg, ↓xi, ↓xl_wi, ↓xl_wl, ↓xl_pi, ↓xlI, ↓xlL, ↓xlN, xl, ↓xn, ↓xc, ↓xon, ↓xos, ↓ln_1, ↓ln_2, ↓ln_3, ↓ln_8, qli_0, qli_1, qli_2, qli_3, qli_4, qli_5, qli_6, qli_7, qli_8, qli_9, qli_10, qli_11, qli_12, qli_13, qli_14, qli_15, qli_16, qli_17, qli_18, qli_19, qli_20, qli_21, qli_22, qli_23, qli_24, qli_25, qli_26, qli_31, qli_32, qli_37, qli_39, qli_40, qli_41, qli_42, qli_43, qli_45, qli_47, qli_48, qli_49, qli_50, qli_56, qli_57, qli_59, qli_60, qli_61, qli_63, qli_64, qli_96, qli_97, qli_99, qli_100, qli_101, qli_122, qli_126, qli_143, qli_144, qli_192, qli_200, qli_201, qli_216, qli_255, qli_256, qli_780, qli_799, qli_800, qli_801, qli_802, qli_880, qli_1000, qli_5760, qli_7040, qli_7920, qli_1000000, in_t, le_t, le_f, lt_t, lt_f, eq_t, eq_f, nI_add, nI_sub', nI_mul, nI_clamp, m1_ne, m1_ne', m1_lt, m1_le, m1_nlt, m1_nle, m1_add, eq_self, not_true_eq_false, not_false_eq_true, ne_eq, Nat.reduceLeDiff, Nat.reduceLT, and_true, true_and, and_self, or_true, true_or, or_false, false_or, false_and, and_false, qK_pi, qK_pr, qK_wi, qK_wl, qK_wo, qK_xi, qK_xo, qfr_pi', qfr_wi', qfr_wl', qfr_wo', qfr_xi', qfr_xo', qfi_pr, qfi_wi, qfi_wl, qfi_wo, qfi_xi, qfi_xo, qln_pi, qln_pr, qln_wi, qln_wl, qln_wo, qln_xi, qln_xo, qri_pi, qri_pr, qri_wl, qri_wo, qri_xo, qrl_pi, qrl_pr, qrl_wi, qrl_wo, qrl_xi, qrl_xo, qro_pi, qro_pr, qro_wi, qro_wl, qro_xi, qnx_pi, qnx_pr, qnx_wi, qnx_wl, qnx_wo, qnx_xi, qnx_xo, qsa_pi, qsa_wi, qsa_wl, qsa_pr, qsa_wo, fi_pi_at, fi_pi_nk, fi_pi_na, ri_wi_at, ri_wi_ne, ri_wi_nj, rl_wl_at, rl_wl_ne, rl_wl_nj, fr_pr_at, fr_pr_nk, fr_pr_na, hc, k4, k8]
          rw [stp]
          have B5 : ∀ (T9 : st_T) (e : Nat) (cc : Int32), PB S x L T9 e → G = .inl e → ok (c_g (st_K T9 (x + 12) = 5) (c_c (f_X3_endRule T9 (x + 12) cc) (fun _ T99 => rec (T99, nI (i + 1))))) (fun r T' => PQ S x L r T' G) := by
            intro T9 e cc q1 q2
            refine ok_gt (k12 (CS_fq hcS q1.1)) ?_
            exact ok_cc (p_endB hcS q1) (fun _ T10 q3 => hrec _ ⟨T10, rfl, Or.inr ⟨e, q3, q2⟩⟩)
          have B4 : ∀ (T9 : st_T) (e : Nat) (cc : Int32), PB S x L T9 e → G = .inl e → ok (c_g (st_K T9 (x + 12) = 5) (c_c (f_X3_take T9 (x + 12) (nI 5)) (fun _ T94 => c_g (st_K T94 (x + 12) = 5) (c_c (f_X3_endRule T94 (x + 12) cc) (fun _ T99 => rec (T99, nI (i + 1))))))) (fun r T' => PQ S x L r T' G) := by
            intro T9 e cc q1 q2
            refine ok_gt (k12 (CS_fq hcS q1.1)) ?_
            exact ok_cc (p_takeB hcS q1 (by omega) (by omega)) (fun _ T10 q3 => B5 T10 e cc q3 q2)
          have B3 : ∀ (T9 : st_T) (e : Nat) (cc : Int32), PB S x L T9 e → G = .inl e → ok (c_g (st_K T9 (x + 12) = 5) (c_c (f_X3_expr 8 T9 (x + 12) (nI 0)) (fun _ T89 => c_g (st_K T89 (x + 12) = 5) (c_c (f_X3_take T89 (x + 12) (nI 5)) (fun _ T94 => c_g (st_K T94 (x + 12) = 5) (c_c (f_X3_endRule T94 (x + 12) cc) (fun _ T99 => rec (T99, nI (i + 1))))))))) (fun r T' => PQ S x L r T' G) := by
            intro T9 e cc q1 q2
            refine ok_gt (k12 (CS_fq hcS q1.1)) ?_
            exact ok_cc ((c_expr hcS hL 8 0 (by omega) (by omega)).2 T9 e q1) (fun _ T10 q3 => B4 T10 e cc q3 q2)
          refine ok_cc (p_take (k := 11) hcS hL h1 h2 (by omega) (by omega) (by omega) (by omega)) (fun _ T1 q1 => ?_)
          rw [if_pos c] at q1
          refine ok_gt (k12 (CS_fq hcS q1.1)) ?_
          refine ok_cc (p_num (lo := 0) (hi := 49) hcS hL q1 (by omega) (by omega) (by omega) (by omega) (by omega)) (fun r T2 q2 => ?_)
          unfold xRule at h4
          by_cases c2 : tK L (p + 1) = 2
          · rw [if_pos c2] at q2 h4
            obtain ⟨rfl, q2⟩ := q2
            have l1 := LG_lt hL (show p + 1 ≤ n by omega) (by omega)
            by_cases c3 : tV L (p + 1) ≤ 49
            · rw [if_pos ⟨by omega, c3⟩] at q2
              rw [if_pos c3] at h4
              refine ok_gt (k12 (CS_fq hcS q2.1)) ?_
              refine ok_cc (p_take (k := 12) hcS hL q2 (by omega) (by omega) (by omega) (by omega) (by omega)) (fun _ T3 q3 => ?_)
              by_cases c4 : tK L (p + 2) = 12
              · have l2 := LG_lt hL (show p + 2 ≤ n by omega) (by omega)
                rw [if_pos c4] at q3 h4
                refine ok_gt (k12 (CS_fq hcS q3.1)) ?_
                refine ok_cc ((c_expr hcS hL 8 0 (by omega) (by omega)).1 T3 (p + 3) st rs 0 q3 (by omega) (by omega) (by omega)) (fun _ T4 q4 => ?_)
                have ad := xE_adv hL 8 0 (p + 3) (by omega)
                cases hr : xE L 8 0 (p + 3) with
                | inl e =>
                  rw [hr] at q4 h4
                  exact B4 T4 e _ q4 h4.symm
                | inr q =>
                  obtain ⟨q, o⟩ := q
                  rw [hr] at q4 h4
                  have a1 := ad.1 q o hr
                  have q4' : PG S x L T4 q (st ++ o) rs 0 := q4
                  refine ok_gt (k12 (CS_fq hcS q4'.1)) ?_
                  refine ok_cc (p_take (k := 5) hcS hL q4' (by omega) (by rw [List.length_append]; omega) (by omega) (by omega) (by omega)) (fun _ T5 q5 => ?_)
                  rw [rb_r] at h4
                  by_cases c5 : tK L q = 5
                  · have l3 := LG_lt hL a1.2.1 (by omega)
                    rw [if_pos c5] at q5 h4
                    rw [rb_r] at h4
                    refine ok_gt (k12 (CS_fq hcS q5.1)) ?_
                    refine ok_cc (p_end hcS q5 (by omega)) (fun _ T6 q6 => ?_)
                    rw [List.length_append] at q6
                    refine hrec _ ⟨T6, rfl, Or.inl ⟨q + 1, st ++ o, _, q6, by omega, by rw [List.length_append]; omega, ?_, by omega, ?_⟩⟩
                    · rw [List.length_append]
                      simp only [List.length_cons, List.length_nil]
                      omega
                    · rw [hf2]; exact h4
                  · rw [if_neg c5] at q5 h4
                    exact B5 T5 _ _ q5 h4.symm
              · rw [if_neg c4] at q3 h4
                exact B3 T3 _ _ q3 h4.symm
            · rw [if_neg (fun z => c3 z.2)] at q2
              rw [if_neg c3] at h4
              refine ok_gt (k12 (CS_fq hcS q2.1)) ?_
              exact ok_cc (p_takeB (k := 12) hcS q2 (by omega) (by omega)) (fun _ T3 q3 => B3 T3 _ _ q3 h4.symm)
          · rw [if_neg c2] at q2 h4
            refine ok_gt (k12 (CS_fq hcS q2.1)) ?_
            exact ok_cc (p_takeB (k := 12) hcS q2 (by omega) (by omega)) (fun _ T3 q3 => B3 T3 _ _ q3 h4.symm)
      · have e4 : xTail L p rs st = G := by
          rw [← h4]
          cases 24 - i with
          | zero => rw [xRd, if_neg c]
          | succ f => rw [xRd, if_neg c]
        have stp : b_X3_read_35 (x + 12) rec (T', nI i) = j_X3_read_108 (x + 12) T' := by
          clear h h1 hcS hrec exB h4 e4
          unfold b_X3_read_35
          generalize j_X3_read_108 = J
          simp (disch := first | omega | assumption | (repeat first | assumption | apply RS_pi | apply RS_wi | apply RS_wl | apply CS_pi | apply CS_wi | apply CS_wl | apply CS_wo | apply CS_xo | apply RI_w15 | apply RI_w16 | apply RI_w17 | apply RI_w26 | apply RI_w27 | apply RI_w28 | apply RI_p1000)) only [↓reduceIte, ↓xg, ↓xi, ↓xl_wi, ↓xl_wl, ↓xl_pi, ↓xlI, ↓xlL, ↓xlN, xl, ↓xn, ↓xc, ↓xon, ↓xos, ↓ln_1, ↓ln_2, ↓ln_3, ↓ln_8, qli_0, qli_1, qli_2, qli_3, qli_4, qli_5, qli_6, qli_7, qli_8, qli_9, qli_10, qli_11, qli_12, qli_13, qli_14, qli_15, qli_16, qli_17, qli_18, qli_19, qli_20, qli_21, qli_22, qli_23, qli_24, qli_25, qli_26, qli_31, qli_32, qli_37, qli_39, qli_40, qli_41, qli_42, qli_43, qli_45, qli_47, qli_48, qli_49, qli_50, qli_56, qli_57, qli_59, qli_60, qli_61, qli_63, qli_64, qli_96, qli_97, qli_99, qli_100, qli_101, qli_122, qli_126, qli_143, qli_144, qli_192, qli_200, qli_201, qli_216, qli_255, qli_256, qli_780, qli_799, qli_800, qli_801, qli_802, qli_880, qli_1000, qli_5760, qli_7040, qli_7920, qli_1000000, in_t, le_t, le_f, lt_t, lt_f, eq_t, eq_f, nI_add, nI_sub', nI_mul, nI_clamp, m1_ne, m1_ne', m1_lt, m1_le, m1_nlt, m1_nle, m1_add, eq_self, not_true_eq_false, not_false_eq_true, ne_eq, Nat.reduceLeDiff, Nat.reduceLT, and_true, true_and, and_self, or_true, true_or, or_false, false_or, false_and, and_false, qK_pi, qK_pr, qK_wi, qK_wl, qK_wo, qK_xi, qK_xo, qfr_pi', qfr_wi', qfr_wl', qfr_wo', qfr_xi', qfr_xo', qfi_pr, qfi_wi, qfi_wl, qfi_wo, qfi_xi, qfi_xo, qln_pi, qln_pr, qln_wi, qln_wl, qln_wo, qln_xi, qln_xo, qri_pi, qri_pr, qri_wl, qri_wo, qri_xo, qrl_pi, qrl_pr, qrl_wi, qrl_wo, qrl_xi, qrl_xo, qro_pi, qro_pr, qro_wi, qro_wl, qro_xi, qnx_pi, qnx_pr, qnx_wi, qnx_wl, qnx_wo, qnx_xi, qnx_xo, qsa_pi, qsa_wi, qsa_wl, qsa_pr, qsa_wo, fi_pi_at, fi_pi_nk, fi_pi_na, ri_wi_at, ri_wi_ne, ri_wi_nj, rl_wl_at, rl_wl_ne, rl_wl_nj, fr_pr_at, fr_pr_nk, fr_pr_na, hc, k4]
        rw [stp, ← e4]
        exact c_r108 hcS hL h1 h2 (by omega) (by omega)
    · rw [exB rec T' i e (by omega) h1, h2]
      exact c_r108B hcS h1
  · rintro q rec ⟨T', rfl, hh⟩
    rcases hh with ⟨p, st, rs, h1, h2, h3, h5, h6, h4⟩ | ⟨e, h1, h2⟩
    · omega
    · rw [exB rec T' 25 e (by omega) h1, h2]
      exact c_r108B hcS h1
theorem c_read (h : CI S x A M v) (hw : wM M) : ok (f_X3_read S (x + 12) (x + 10)) (fun r T => PQ S x (tks M) r T (xRd (tks M) 24 0 [] [])) := by
  have hcS := CI_s h
  have hL := LG_tks hw
  obtain ⟨_, T, f1, f2, f3⟩ := c_scan h hw
  have hcT := CS_fq hcS f3
  obtain ⟨T1, hT1⟩ : ∃ T1, T1 = st_pi (st_pi (st_pi (st_pi T 405 (x + 12) (nI 0)) 406 (x + 12) (nI 0)) 407 (x + 12) (nI 0)) 408 (x + 12) (nI 0) := ⟨_, rfl⟩
  have hc1 : CS T1 x := by rw [hT1]; exact CS_pi _ _ _ (CS_pi _ _ _ (CS_pi _ _ _ (CS_pi _ _ _ hcT)))
  have ht1 : TokS T1 x (tks M) := by rw [hT1]; exact TokS_pi (TokS_pi (TokS_pi (TokS_pi f2 (by omega)) (by omega)) (by omega)) (by omega)
  have mv := p_move0 hc1 ht1 hL (p' := 0) (by omega)
  have st0 : f_X3_read S (x + 12) (x + 10) = c_w (b_X3_read_35 (x + 12)) c_N (st_pi (st_pi T1 409 (x + 12) (nI 0)) 410 (x + 12) (nI (tK (tks M) 0)), nI 0) := by
    unfold f_X3_read
    rw [g_t (k12 hcS), cn_400 hcS, g_t hcS.2.2.2.2.2.2.2.2.2.2.2.2.2.1, c_s f1, g_t (k12 hcT)]
    have mv' : f_X3_moveTo (st_pi (st_pi (st_pi (st_pi T 405 (x + 12) 0) 406 (x + 12) 0) 407 (x + 12) 0) 408 (x + 12) 0) (x + 12) 0 = some ((), st_pi (st_pi T1 409 (x + 12) (nI 0)) 410 (x + 12) (nI (tK (tks M) 0))) := by
      rw [hT1] at mv ⊢
      exact mv
    simp only [↓xl]
    rw [c_s mv']
    rfl
  rw [st0]
  refine c_readL hcS hL ?_
  refine ⟨?_, TokS_pi (TokS_pi ht1 (by omega)) (by omega), ?_, fi_pi_at _ _ _ _, ?_, ?_, fun i hi => absurd hi (Nat.not_lt_zero _), ?_, fun i hi => absurd hi (Nat.not_lt_zero _), ?_⟩
  · rw [hT1]
    exact fq_pi (fq_pi (fq_pi (fq_pi (fq_pi (fq_pi f3 (kF_12 (by omega) (by omega))) (kF_12 (by omega) (by omega))) (kF_12 (by omega) (by omega))) (kF_12 (by omega) (by omega))) (kF_12 (by omega) (by omega))) (kF_12 (by omega) (by omega))
  · rw [fi_pi_nk _ _ _ _ _ _ (by omega), fi_pi_at]
  · rw [hT1]; simp (disch := omega) only [fi_pi_nk, fi_pi_at]
  · rw [hT1]; simp (disch := omega) only [fi_pi_nk, fi_pi_at]; rfl
  · rw [hT1]; simp (disch := omega) only [fi_pi_nk, fi_pi_at]; rfl
  · rw [hT1]; simp (disch := omega) only [fi_pi_nk, fi_pi_at]
end CT
