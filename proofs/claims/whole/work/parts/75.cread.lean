/-! text: the class's parser, expressions and rules -/
section CR
variable {β : Type} {S S' S0 T : st_T} {m x v n : Nat} {M : mT} {A : aT} {L : List (Nat × Nat × Nat)} {w p : Nat} {st rs : List (Nat × Nat)} {mn e : Nat} {Ef : st_T → Nat → Int32 → Option (Unit × st_T)} {E : Nat → rT} {F F1 F2 : st_T → Option (Unit × st_T)} {g g1 g2 : Nat → rT}
theorem PR_app {o : List (Nat × Nat)} {r : rT} (h : PR S x L T (st ++ o) rs mn r) : PR S x L T st rs mn (rb r (fun p2 o2 => .inr (p2, o ++ o2))) := by
  cases r with
  | inl e => exact h
  | inr q =>
    have h' : PG S x L T q.1 (st ++ o ++ q.2) rs mn := h
    show PG S x L T q.1 (st ++ (o ++ q.2)) rs mn
    rw [← List.append_assoc]
    exact h'
theorem OKc_seq (h1 : OKc S x L n F1 g1) (h2 : OKc S x L n F2 g2) (ha : ∀ p, p ≤ n → adw n p (g1 p)) : OKc S x L n (fun T => c_c (F1 T) (fun _ T' => F2 T')) (fun p => rb (g1 p) (fun p1 o1 => rb (g2 p1) (fun p2 o2 => .inr (p2, o1 ++ o2)))) := by
  refine ⟨fun T p st rs mn h hp hst hrs => ?_, fun T e h => ok_cc (h1.2 T e h) (fun _ T1 q1 => h2.2 T1 e q1)⟩
  refine ok_cc (h1.1 T p st rs mn h hp hst hrs) (fun _ T1 q1 => ?_)
  show ok (F2 T1) (fun _ T' => PR S x L T' st rs mn (rb (g1 p) (fun p1 o1 => rb (g2 p1) (fun p2 o2 => .inr (p2, o1 ++ o2)))))
  cases hr : g1 p with
  | inl e =>
    rw [hr] at q1
    exact h2.2 T1 e q1
  | inr q =>
    obtain ⟨q, o⟩ := q
    rw [hr] at q1
    have a1 := (ha p hp).1 q o hr
    have q1' : PG S x L T1 q (st ++ o) rs mn := q1
    refine ok_imp (h2.1 T1 q (st ++ o) rs mn q1' a1.2.1 (by rw [List.length_append]; omega) hrs) (fun _ T2 q2 => ?_)
    rw [rb_r]
    exact PR_app q2
theorem OKc_g (hcS : CS S x) (h : OKc S x L n F g) : OKc S x L n (fun T => c_g (st_K T (x + 12) = 5) (F T)) g :=
  ⟨fun T p st rs mn h1 hp hst hrs => ok_gt (k12 (CS_fq hcS h1.1)) (h.1 T p st rs mn h1 hp hst hrs), fun T e h1 => ok_gt (k12 (CS_fq hcS h1.1)) (h.2 T e h1)⟩
theorem c_sum (hcS : CS S x) (hL : LG L n) (hP : OKc S x L n (fun T => f_X3_part Ef T (x + 12) (nI w)) (xPart L E w)) (hA : ∀ q, q ≤ n → w < 5 → adv n q (E q)) : OKc S x L n (fun T => f_X3_sum Ef T (x + 12) (nI w)) (xSum L E w) :=
  OKc_g hcS (OKc_seq hP (c_sumL hcS hL hP hA) (fun p hp => adv_w (part_adv hL hA hp)))
theorem c_test (hcS : CS S x) (hL : LG L n) (hP : OKc S x L n (fun T => f_X3_sum Ef T (x + 12) (nI w)) (xSum L E w)) (hA : ∀ q, q ≤ n → w < 5 → adv n q (E q)) : OKc S x L n (fun T => f_X3_test Ef T (x + 12) (nI w)) (xTest L E w) := by
  have hn := hL.2.1
  refine ⟨fun T p st rs mn h hp hst hrs => ?_, fun T e h => ?_⟩
  · show ok (f_X3_test Ef T (x + 12) (nI w)) _
    unfold f_X3_test xTest
    refine ok_gt (k12 (CS_fq hcS h.1)) ?_
    refine ok_cc (hP.1 T p st rs mn h hp hst hrs) (fun _ T1 q1 => ?_)
    cases hr : xSum L E w p with
    | inl e =>
      rw [hr] at q1
      have q1' : PB S x L T1 e := q1
      refine ok_gt (k12 (CS_fq hcS q1'.1)) ?_
      rw [q1'.2.2.1, ok_l]
      refine ok_if (neF (a := 0) (b := 6) (by omega) (by omega) (by omega)) ?_
      refine ok_if (neF (a := 0) (b := 7) (by omega) (by omega) (by omega)) ?_
      exact ok_of rfl q1'
    | inr q =>
      obtain ⟨q, o⟩ := q
      rw [hr] at q1
      have a1 := (sum_adv hL hA hp).1 q o hr
      have q1' : PG S x L T1 q (st ++ o) rs mn := q1
      have kb := (hL.2.2.2.2 q a1.2.1).1
      have ll : (st ++ o).length ≤ q := by rw [List.length_append]; omega
      refine ok_gt (k12 (CS_fq hcS q1'.1)) ?_
      rw [q1'.2.2.2.1, ok_l, rb_r]
      by_cases c : tK L q = 6 ∨ tK L q = 7
      · simp only [if_pos c]
        have lt := LG_lt hL a1.2.1 (by omega)
        have key : ok (j_X3_test_22 Ef (x + 12) (nI w) (nI (tK L q)) T1) (fun _ T' => PR S x L T' st rs mn (rb (xSum L E w (q + 1)) (fun p2 o2 => Sum.inr (p2, o ++ (o2 ++ [(tK L q, 0)]))))) := by
          unfold j_X3_test_22
          refine ok_gt (k12 (CS_fq hcS q1'.1)) ?_
          refine ok_cc (p_take (k := tK L q) hcS hL q1' a1.2.1 (by omega) hrs (by omega) (by omega)) (fun _ T2 q2 => ?_)
          rw [if_pos rfl] at q2
          refine ok_gt (k12 (CS_fq hcS q2.1)) ?_
          refine ok_cc (hP.1 T2 (q + 1) (st ++ o) rs mn q2 (by omega) (by omega) hrs) (fun _ T3 q3 => ?_)
          cases hr2 : xSum L E w (q + 1) with
          | inl e =>
            rw [hr2] at q3
            have q3' : PB S x L T3 e := q3
            refine ok_gt (k12 (CS_fq hcS q3'.1)) ?_
            exact ok_cc (p_emitB hcS q3') (fun _ T4 q4 => ok_of rfl q4)
          | inr q2 =>
            obtain ⟨q', o2⟩ := q2
            rw [hr2] at q3
            have a2 := (sum_adv hL hA (show q + 1 ≤ n by omega)).1 q' o2 hr2
            have q3' : PG S x L T3 q' (st ++ o ++ o2) rs mn := q3
            refine ok_gt (k12 (CS_fq hcS q3'.1)) ?_
            refine ok_cc (p_emit (u := 0) hcS q3' (by rw [List.length_append]; omega)) (fun _ T4 q4 => ok_of rfl ?_)
            show PG S x L T4 q' (st ++ (o ++ (o2 ++ [(tK L q, 0)]))) rs mn
            simp only [List.append_assoc] at q4
            exact q4
        by_cases c6 : tK L q = 6
        · exact ok_it (eqT c6) key
        · refine ok_if (neF (a := tK L q) (b := 6) c6 (by omega) (by omega)) ?_
          exact ok_it (eqT (show tK L q = 7 by omega)) key
      · simp only [if_neg c]
        refine ok_if (neF (a := tK L q) (b := 6) (by omega) (by omega) (by omega)) ?_
        refine ok_if (neF (a := tK L q) (b := 7) (by omega) (by omega) (by omega)) ?_
        exact ok_of rfl q1'
  · show ok (f_X3_test Ef T (x + 12) (nI w)) _
    unfold f_X3_test
    refine ok_gt (k12 (CS_fq hcS h.1)) ?_
    refine ok_cc (hP.2 T e h) (fun _ T1 q1' => ?_)
    refine ok_gt (k12 (CS_fq hcS q1'.1)) ?_
    rw [q1'.2.2.1, ok_l]
    refine ok_if (neF (a := 0) (b := 6) (by omega) (by omega) (by omega)) ?_
    refine ok_if (neF (a := 0) (b := 7) (by omega) (by omega) (by omega)) ?_
    exact ok_of rfl q1'
theorem c_andL (hcS : CS S x) (hL : LG L n) (hP : OKc S x L n (fun T => f_X3_test Ef T (x + 12) (nI w)) (xTest L E w)) (hA : ∀ q, q ≤ n → w < 5 → adv n q (E q)) : OKc S x L n (fun T => c_w (b_X3_expression_7 Ef (x + 12) (nI w)) c_N (T, nI 0)) (xAndR L E w 800) := by
  have hn := hL.2.1
  have exB : ∀ (rec : st_T × Int32 → Option (Unit × st_T)) (T : st_T) (i e : Nat), i ≤ 800 → PB S x L T e → b_X3_expression_7 Ef (x + 12) (nI w) rec (T, nI i) = some ((), T) := by
    intro rec T i e hi h
    have hc := CS_fq hcS h.1
    have k4 := h.2.2.1
    clear h hP hA hcS
    by_cases c : i = 800
    · simp (disch := first | omega | assumption | (repeat first | assumption | apply RS_pi | apply RS_wi | apply RS_wl | apply CS_pi | apply CS_wi | apply CS_wl | apply CS_wo | apply CS_xo | apply RI_w15 | apply RI_w16 | apply RI_w17 | apply RI_w26 | apply RI_w27 | apply RI_w28 | apply RI_p1000)) only [b_X3_expression_7, ↓reduceIte, ↓xg, ↓xi, ↓xl_wi, ↓xl_wl, ↓xl_pi, ↓xlI, ↓xlL, ↓xlN, xl, ↓xn, ↓xc, ↓xon, ↓xos, ↓ln_1, ↓ln_2, ↓ln_3, ↓ln_8, qli_0, qli_1, qli_2, qli_3, qli_4, qli_5, qli_6, qli_7, qli_8, qli_9, qli_10, qli_11, qli_12, qli_13, qli_14, qli_15, qli_16, qli_17, qli_18, qli_19, qli_20, qli_21, qli_22, qli_23, qli_24, qli_25, qli_26, qli_31, qli_32, qli_37, qli_39, qli_40, qli_41, qli_42, qli_43, qli_45, qli_47, qli_48, qli_49, qli_50, qli_56, qli_57, qli_59, qli_60, qli_61, qli_63, qli_64, qli_96, qli_97, qli_99, qli_100, qli_101, qli_122, qli_126, qli_143, qli_144, qli_192, qli_200, qli_201, qli_216, qli_255, qli_256, qli_780, qli_799, qli_800, qli_801, qli_802, qli_880, qli_1000, qli_5760, qli_7040, qli_7920, qli_1000000, in_t, le_t, le_f, lt_t, lt_f, eq_t, eq_f, nI_add, nI_sub', nI_mul, nI_clamp, m1_ne, m1_ne', m1_lt, m1_le, m1_nlt, m1_nle, m1_add, eq_self, not_true_eq_false, not_false_eq_true, ne_eq, Nat.reduceLeDiff, Nat.reduceLT, and_true, true_and, and_self, or_true, true_or, or_false, false_or, false_and, and_false, qK_pi, qK_pr, qK_wi, qK_wl, qK_wo, qK_xi, qK_xo, qfr_pi', qfr_wi', qfr_wl', qfr_wo', qfr_xi', qfr_xo', qfi_pr, qfi_wi, qfi_wl, qfi_wo, qfi_xi, qfi_xo, qln_pi, qln_pr, qln_wi, qln_wl, qln_wo, qln_xi, qln_xo, qri_pi, qri_pr, qri_wl, qri_wo, qri_xo, qrl_pi, qrl_pr, qrl_wi, qrl_wo, qrl_xi, qrl_xo, qro_pi, qro_pr, qro_wi, qro_wl, qro_xi, qnx_pi, qnx_pr, qnx_wi, qnx_wl, qnx_wo, qnx_xi, qnx_xo, qsa_pi, qsa_wi, qsa_wl, qsa_pr, qsa_wo, fi_pi_at, fi_pi_nk, fi_pi_na, ri_wi_at, ri_wi_ne, ri_wi_nj, rl_wl_at, rl_wl_ne, rl_wl_nj, fr_pr_at, fr_pr_nk, fr_pr_na]
    · simp (disch := first | omega | assumption | (repeat first | assumption | apply RS_pi | apply RS_wi | apply RS_wl | apply CS_pi | apply CS_wi | apply CS_wl | apply CS_wo | apply CS_xo | apply RI_w15 | apply RI_w16 | apply RI_w17 | apply RI_w26 | apply RI_w27 | apply RI_w28 | apply RI_p1000)) only [b_X3_expression_7, ↓reduceIte, ↓xg, ↓xi, ↓xl_wi, ↓xl_wl, ↓xl_pi, ↓xlI, ↓xlL, ↓xlN, xl, ↓xn, ↓xc, ↓xon, ↓xos, ↓ln_1, ↓ln_2, ↓ln_3, ↓ln_8, qli_0, qli_1, qli_2, qli_3, qli_4, qli_5, qli_6, qli_7, qli_8, qli_9, qli_10, qli_11, qli_12, qli_13, qli_14, qli_15, qli_16, qli_17, qli_18, qli_19, qli_20, qli_21, qli_22, qli_23, qli_24, qli_25, qli_26, qli_31, qli_32, qli_37, qli_39, qli_40, qli_41, qli_42, qli_43, qli_45, qli_47, qli_48, qli_49, qli_50, qli_56, qli_57, qli_59, qli_60, qli_61, qli_63, qli_64, qli_96, qli_97, qli_99, qli_100, qli_101, qli_122, qli_126, qli_143, qli_144, qli_192, qli_200, qli_201, qli_216, qli_255, qli_256, qli_780, qli_799, qli_800, qli_801, qli_802, qli_880, qli_1000, qli_5760, qli_7040, qli_7920, qli_1000000, in_t, le_t, le_f, lt_t, lt_f, eq_t, eq_f, nI_add, nI_sub', nI_mul, nI_clamp, m1_ne, m1_ne', m1_lt, m1_le, m1_nlt, m1_nle, m1_add, eq_self, not_true_eq_false, not_false_eq_true, ne_eq, Nat.reduceLeDiff, Nat.reduceLT, and_true, true_and, and_self, or_true, true_or, or_false, false_or, false_and, and_false, qK_pi, qK_pr, qK_wi, qK_wl, qK_wo, qK_xi, qK_xo, qfr_pi', qfr_wi', qfr_wl', qfr_wo', qfr_xi', qfr_xo', qfi_pr, qfi_wi, qfi_wl, qfi_wo, qfi_xi, qfi_xo, qln_pi, qln_pr, qln_wi, qln_wl, qln_wo, qln_xi, qln_xo, qri_pi, qri_pr, qri_wl, qri_wo, qri_xo, qrl_pi, qrl_pr, qrl_wi, qrl_wo, qrl_xi, qrl_xo, qro_pi, qro_pr, qro_wi, qro_wl, qro_xi, qnx_pi, qnx_pr, qnx_wi, qnx_wl, qnx_wo, qnx_xi, qnx_xo, qsa_pi, qsa_wi, qsa_wl, qsa_pr, qsa_wo, fi_pi_at, fi_pi_nk, fi_pi_na, ri_wi_at, ri_wi_ne, ri_wi_nj, rl_wl_at, rl_wl_ne, rl_wl_nj, fr_pr_at, fr_pr_nk, fr_pr_na, hc, k4]
  refine ⟨fun T p st rs mn h hp hst hrs => ?_, fun T e h => ?_⟩
  · obtain ⟨G, hG⟩ : ∃ G, G = xAndR L E w 800 p := ⟨_, rfl⟩
    show ok (c_w (b_X3_expression_7 Ef (x + 12) (nI w)) c_N (T, nI 0)) (fun _ T' => PR S x L T' st rs mn (xAndR L E w 800 p))
    rw [← hG]
    refine ok_cnt 800 (fun i q => ∃ T', q = (T', nI i) ∧ ((∃ p' o, PG S x L T' p' (st ++ o) rs mn ∧ p' ≤ n ∧ (st ++ o).length ≤ p' ∧ rb (xAndR L E w (800 - i) p') (fun p2 o2 => .inr (p2, o ++ o2)) = G) ∨ ∃ e, PB S x L T' e ∧ G = .inl e)) ?_ ?_ c_N 0 _ (by omega) ⟨T, rfl, Or.inl ⟨p, [], by rw [List.append_nil]; exact h, hp, by rw [List.append_nil]; exact hst, ?_⟩⟩ (N_big (by omega))
    · rintro i q rec hi ⟨T', rfl, hh⟩ hrec
      rcases hh with ⟨p', o, h1, h2, h3, h4⟩ | ⟨e, h1, h2⟩
      · have hc := CS_fq hcS h1.1
        have k4 := h1.2.2.2.1
        have kb := (hL.2.2.2.2 p' h2).1
        obtain ⟨f, hf⟩ : ∃ f, 800 - i = f + 1 := ⟨799 - i, by omega⟩
        have hf2 : 800 - (i + 1) = f := by omega
        rw [hf, xAndR] at h4
        by_cases c : tK L p' = 10
        · rw [if_pos c] at h4
          have lt := LG_lt hL h2 (by omega)
          have stp : b_X3_expression_7 Ef (x + 12) (nI w) rec (T', nI i) = c_c (f_X3_take T' (x + 12) (nI 10)) (fun _ T39 => c_g (st_K T39 (x + 12) = 5) (c_c (f_X3_test Ef T39 (x + 12) (nI w)) (fun _ T44 => c_g (st_K T44 (x + 12) = 5) (c_c (f_X3_emit T44 (x + 12) (nI 10) (nI 0)) (fun _ T50 => rec (T50, nI (i + 1))))))) := by
            clear h h1 hP hA hcS hrec exB h4
            rw [c] at k4
            simp (disch := first | omega | assumption | (repeat first | assumption | apply RS_pi | apply RS_wi | apply RS_wl | apply CS_pi | apply CS_wi | apply CS_wl | apply CS_wo | apply CS_xo | apply RI_w15 | apply RI_w16 | apply RI_w17 | apply RI_w26 | apply RI_w27 | apply RI_w28 | apply RI_p1000)) only [b_X3_expression_7, ↓reduceIte, ↓xg, ↓xi, ↓xl_wi, ↓xl_wl, ↓xl_pi, ↓xlI, ↓xlL, ↓xlN, xl, ↓xn, ↓xc, ↓xon, ↓xos, ↓ln_1, ↓ln_2, ↓ln_3, ↓ln_8, qli_0, qli_1, qli_2, qli_3, qli_4, qli_5, qli_6, qli_7, qli_8, qli_9, qli_10, qli_11, qli_12, qli_13, qli_14, qli_15, qli_16, qli_17, qli_18, qli_19, qli_20, qli_21, qli_22, qli_23, qli_24, qli_25, qli_26, qli_31, qli_32, qli_37, qli_39, qli_40, qli_41, qli_42, qli_43, qli_45, qli_47, qli_48, qli_49, qli_50, qli_56, qli_57, qli_59, qli_60, qli_61, qli_63, qli_64, qli_96, qli_97, qli_99, qli_100, qli_101, qli_122, qli_126, qli_143, qli_144, qli_192, qli_200, qli_201, qli_216, qli_255, qli_256, qli_780, qli_799, qli_800, qli_801, qli_802, qli_880, qli_1000, qli_5760, qli_7040, qli_7920, qli_1000000, in_t, le_t, le_f, lt_t, lt_f, eq_t, eq_f, nI_add, nI_sub', nI_mul, nI_clamp, m1_ne, m1_ne', m1_lt, m1_le, m1_nlt, m1_nle, m1_add, eq_self, not_true_eq_false, not_false_eq_true, ne_eq, Nat.reduceLeDiff, Nat.reduceLT, and_true, true_and, and_self, or_true, true_or, or_false, false_or, false_and, and_false, qK_pi, qK_pr, qK_wi, qK_wl, qK_wo, qK_xi, qK_xo, qfr_pi', qfr_wi', qfr_wl', qfr_wo', qfr_xi', qfr_xo', qfi_pr, qfi_wi, qfi_wl, qfi_wo, qfi_xi, qfi_xo, qln_pi, qln_pr, qln_wi, qln_wl, qln_wo, qln_xi, qln_xo, qri_pi, qri_pr, qri_wl, qri_wo, qri_xo, qrl_pi, qrl_pr, qrl_wi, qrl_wo, qrl_xi, qrl_xo, qro_pi, qro_pr, qro_wi, qro_wl, qro_xi, qnx_pi, qnx_pr, qnx_wi, qnx_wl, qnx_wo, qnx_xi, qnx_xo, qsa_pi, qsa_wi, qsa_wl, qsa_pr, qsa_wo, fi_pi_at, fi_pi_nk, fi_pi_na, ri_wi_at, ri_wi_ne, ri_wi_nj, rl_wl_at, rl_wl_ne, rl_wl_nj, fr_pr_at, fr_pr_nk, fr_pr_na, hc, k4]
          rw [stp]
          refine ok_cc (p_take (k := 10) hcS hL h1 h2 (by omega) hrs (by omega) (by omega)) (fun _ T1 g1 => ?_)
          rw [if_pos c] at g1
          refine ok_gt (k12 (CS_fq hcS g1.1)) ?_
          refine ok_cc (hP.1 T1 (p' + 1) (st ++ o) rs mn g1 (by omega) (by omega) hrs) (fun _ T2 g2 => ?_)
          have ad := test_adv hL hA (show p' + 1 ≤ n by omega)
          cases hr : xTest L E w (p' + 1) with
          | inl e =>
            rw [hr] at g2 h4
            have g2' : PB S x L T2 e := g2
            refine ok_gt (k12 (CS_fq hcS g2'.1)) ?_
            refine ok_cc (p_emitB hcS g2') (fun _ T3 g3 => ?_)
            exact hrec _ ⟨T3, rfl, Or.inr ⟨e, g3, h4.symm⟩⟩
          | inr q =>
            obtain ⟨q, o1⟩ := q
            rw [hr] at g2 h4
            have g2' : PG S x L T2 q (st ++ o ++ o1) rs mn := g2
            have a1 := ad.1 q o1 hr
            have ll : (st ++ o ++ o1).length < 800 := by rw [List.length_append]; omega
            refine ok_gt (k12 (CS_fq hcS g2'.1)) ?_
            refine ok_cc (p_emit hcS g2' ll) (fun _ T3 g3 => ?_)
            have e1 : st ++ o ++ o1 ++ [(10, 0)] = st ++ (o ++ (o1 ++ [(10, 0)])) := by simp only [List.append_assoc]
            rw [e1] at g3
            refine hrec _ ⟨T3, rfl, Or.inl ⟨q, o ++ (o1 ++ [(10, 0)]), g3, a1.2.1, ?_, ?_⟩⟩
            · rw [← e1, List.length_append, List.length_append]
              simp only [List.length_cons, List.length_nil]
              omega
            · rw [hf2]
              rw [rb_r, rb_a] at h4
              rw [← h4]
              refine rb_cg (fun p2 o2 _ => ?_)
              rw [rb_r]
              simp only [List.append_assoc, List.cons_append, List.nil_append]
        · rw [if_neg c, rb_r, List.append_nil] at h4
          have stp : b_X3_expression_7 Ef (x + 12) (nI w) rec (T', nI i) = some ((), T') := by
            clear h h1 hP hA hcS hrec exB h4
            simp (disch := first | omega | assumption | (repeat first | assumption | apply RS_pi | apply RS_wi | apply RS_wl | apply CS_pi | apply CS_wi | apply CS_wl | apply CS_wo | apply CS_xo | apply RI_w15 | apply RI_w16 | apply RI_w17 | apply RI_w26 | apply RI_w27 | apply RI_w28 | apply RI_p1000)) only [b_X3_expression_7, ↓reduceIte, ↓xg, ↓xi, ↓xl_wi, ↓xl_wl, ↓xl_pi, ↓xlI, ↓xlL, ↓xlN, xl, ↓xn, ↓xc, ↓xon, ↓xos, ↓ln_1, ↓ln_2, ↓ln_3, ↓ln_8, qli_0, qli_1, qli_2, qli_3, qli_4, qli_5, qli_6, qli_7, qli_8, qli_9, qli_10, qli_11, qli_12, qli_13, qli_14, qli_15, qli_16, qli_17, qli_18, qli_19, qli_20, qli_21, qli_22, qli_23, qli_24, qli_25, qli_26, qli_31, qli_32, qli_37, qli_39, qli_40, qli_41, qli_42, qli_43, qli_45, qli_47, qli_48, qli_49, qli_50, qli_56, qli_57, qli_59, qli_60, qli_61, qli_63, qli_64, qli_96, qli_97, qli_99, qli_100, qli_101, qli_122, qli_126, qli_143, qli_144, qli_192, qli_200, qli_201, qli_216, qli_255, qli_256, qli_780, qli_799, qli_800, qli_801, qli_802, qli_880, qli_1000, qli_5760, qli_7040, qli_7920, qli_1000000, in_t, le_t, le_f, lt_t, lt_f, eq_t, eq_f, nI_add, nI_sub', nI_mul, nI_clamp, m1_ne, m1_ne', m1_lt, m1_le, m1_nlt, m1_nle, m1_add, eq_self, not_true_eq_false, not_false_eq_true, ne_eq, Nat.reduceLeDiff, Nat.reduceLT, and_true, true_and, and_self, or_true, true_or, or_false, false_or, false_and, and_false, qK_pi, qK_pr, qK_wi, qK_wl, qK_wo, qK_xi, qK_xo, qfr_pi', qfr_wi', qfr_wl', qfr_wo', qfr_xi', qfr_xo', qfi_pr, qfi_wi, qfi_wl, qfi_wo, qfi_xi, qfi_xo, qln_pi, qln_pr, qln_wi, qln_wl, qln_wo, qln_xi, qln_xo, qri_pi, qri_pr, qri_wl, qri_wo, qri_xo, qrl_pi, qrl_pr, qrl_wi, qrl_wo, qrl_xi, qrl_xo, qro_pi, qro_pr, qro_wi, qro_wl, qro_xi, qnx_pi, qnx_pr, qnx_wi, qnx_wl, qnx_wo, qnx_xi, qnx_xo, qsa_pi, qsa_wi, qsa_wl, qsa_pr, qsa_wo, fi_pi_at, fi_pi_nk, fi_pi_na, ri_wi_at, ri_wi_ne, ri_wi_nj, rl_wl_at, rl_wl_ne, rl_wl_nj, fr_pr_at, fr_pr_nk, fr_pr_na, hc, k4]
          rw [stp, ← h4]
          exact ok_of rfl h1
      · rw [exB rec T' i e (by omega) h1, h2]
        exact ok_of rfl h1
    · rintro q rec ⟨T', rfl, hh⟩
      rcases hh with ⟨p', o, h1, h2, h3, h4⟩ | ⟨e, h1, h2⟩
      · have stp : b_X3_expression_7 Ef (x + 12) (nI w) rec (T', nI 800) = some ((), T') := by
          clear h h1 hP hA hcS exB h4
          simp (disch := first | omega | assumption | (repeat first | assumption | apply RS_pi | apply RS_wi | apply RS_wl | apply CS_pi | apply CS_wi | apply CS_wl | apply CS_wo | apply CS_xo | apply RI_w15 | apply RI_w16 | apply RI_w17 | apply RI_w26 | apply RI_w27 | apply RI_w28 | apply RI_p1000)) only [b_X3_expression_7, ↓reduceIte, ↓xg, ↓xi, ↓xl_wi, ↓xl_wl, ↓xl_pi, ↓xlI, ↓xlL, ↓xlN, xl, ↓xn, ↓xc, ↓xon, ↓xos, ↓ln_1, ↓ln_2, ↓ln_3, ↓ln_8, qli_0, qli_1, qli_2, qli_3, qli_4, qli_5, qli_6, qli_7, qli_8, qli_9, qli_10, qli_11, qli_12, qli_13, qli_14, qli_15, qli_16, qli_17, qli_18, qli_19, qli_20, qli_21, qli_22, qli_23, qli_24, qli_25, qli_26, qli_31, qli_32, qli_37, qli_39, qli_40, qli_41, qli_42, qli_43, qli_45, qli_47, qli_48, qli_49, qli_50, qli_56, qli_57, qli_59, qli_60, qli_61, qli_63, qli_64, qli_96, qli_97, qli_99, qli_100, qli_101, qli_122, qli_126, qli_143, qli_144, qli_192, qli_200, qli_201, qli_216, qli_255, qli_256, qli_780, qli_799, qli_800, qli_801, qli_802, qli_880, qli_1000, qli_5760, qli_7040, qli_7920, qli_1000000, in_t, le_t, le_f, lt_t, lt_f, eq_t, eq_f, nI_add, nI_sub', nI_mul, nI_clamp, m1_ne, m1_ne', m1_lt, m1_le, m1_nlt, m1_nle, m1_add, eq_self, not_true_eq_false, not_false_eq_true, ne_eq, Nat.reduceLeDiff, Nat.reduceLT, and_true, true_and, and_self, or_true, true_or, or_false, false_or, false_and, and_false, qK_pi, qK_pr, qK_wi, qK_wl, qK_wo, qK_xi, qK_xo, qfr_pi', qfr_wi', qfr_wl', qfr_wo', qfr_xi', qfr_xo', qfi_pr, qfi_wi, qfi_wl, qfi_wo, qfi_xi, qfi_xo, qln_pi, qln_pr, qln_wi, qln_wl, qln_wo, qln_xi, qln_xo, qri_pi, qri_pr, qri_wl, qri_wo, qri_xo, qrl_pi, qrl_pr, qrl_wi, qrl_wo, qrl_xi, qrl_xo, qro_pi, qro_pr, qro_wi, qro_wl, qro_xi, qnx_pi, qnx_pr, qnx_wi, qnx_wl, qnx_wo, qnx_xi, qnx_xo, qsa_pi, qsa_wi, qsa_wl, qsa_pr, qsa_wo, fi_pi_at, fi_pi_nk, fi_pi_na, ri_wi_at, ri_wi_ne, ri_wi_nj, rl_wl_at, rl_wl_ne, rl_wl_nj, fr_pr_at, fr_pr_nk, fr_pr_na]
        have h4' : rb (Sum.inr (p', []) : rT) (fun p2 o2 => (Sum.inr (p2, o ++ o2) : rT)) = G := h4
        rw [rb_r, List.append_nil] at h4'
        rw [stp, ← h4']
        exact ok_of rfl h1
      · rw [exB rec T' 800 e (by omega) h1, h2]
        exact ok_of rfl h1
    · rw [hG]
      show rb (xAndR L E w 800 p) _ = _
      cases xAndR L E w 800 p with
      | inl e => rfl
      | inr q => rfl
  · show ok (c_w (b_X3_expression_7 Ef (x + 12) (nI w)) c_N (T, nI 0)) _
    have : c_w (b_X3_expression_7 Ef (x + 12) (nI w)) c_N (T, nI 0) = some ((), T) := w_cnt0 0 (fun i => (T, nI i)) (fun i hi => absurd hi (Nat.not_lt_zero _)) (fun rec => exB rec T 0 e (by omega) h) c_N 0 (by omega) (N_big (by omega))
    rw [this]
    exact ok_of rfl h
theorem c_expr (hcS : CS S x) (hL : LG L n) : ∀ d w, w ≤ 5 → 6 ≤ w + d → OKc S x L n (fun T => f_X3_expr d T (x + 12) (nI w)) (xE L d w) := by
  intro d
  induction d with
  | zero => intro w h1 h2; omega
  | succ d ih =>
    intro w h1 h2
    have hA : ∀ q, q ≤ n → w < 5 → adv n q (xE L d (w + 1) q) := fun q hq _ => xE_adv hL d (w + 1) q hq
    have hP := c_part (w := w) (Ef := f_X3_expr d) (E := xE L d (w + 1)) hcS hL (fun h5 => ih (w + 1) (by omega) (by omega)) hA h1
    have hT := c_test hcS hL (c_sum hcS hL hP hA) hA
    exact OKc_g hcS (OKc_seq hT (c_andL hcS hL hT hA) (fun p hp => adv_w (test_adv hL hA hp)))
theorem p_end {c : Nat} (hcS : CS S x) (h : PG S x L T p st rs mn) (hrs : rs.length < 24) : ok (f_X3_endRule T (x + 12) (nI c)) (fun _ T' => PG S x L T' p st (rs ++ [(c, st.length)]) mn) := by
  have hc := CS_fq hcS h.1
  obtain ⟨g1, g2, g3, g4, g5, g6, g7, g8, g9, g10⟩ := h
  have st0 : f_X3_endRule T (x + 12) (nI c) = some ((), st_pi (st_wi (st_wi T (x + 17) rs.length (nI c)) (x + 18) rs.length (nI st.length)) 405 (x + 12) (nI (rs.length + 1))) := by
    unfold f_X3_endRule
    clear g1 g2 g7 g9
    simp (disch := first | omega | assumption | (repeat first | assumption | apply RS_pi | apply RS_wi | apply RS_wl | apply CS_pi | apply CS_wi | apply CS_wl | apply CS_wo | apply CS_xo | apply RI_w15 | apply RI_w16 | apply RI_w17 | apply RI_w26 | apply RI_w27 | apply RI_w28 | apply RI_p1000)) only [↓reduceIte, ↓xg, ↓xi, ↓xl_wi, ↓xl_wl, ↓xl_pi, ↓xlI, ↓xlL, ↓xlN, xl, ↓xn, ↓xc, ↓xon, ↓xos, ↓ln_1, ↓ln_2, ↓ln_3, ↓ln_8, qli_0, qli_1, qli_2, qli_3, qli_4, qli_5, qli_6, qli_7, qli_8, qli_9, qli_10, qli_11, qli_12, qli_13, qli_14, qli_15, qli_16, qli_17, qli_18, qli_19, qli_20, qli_21, qli_22, qli_23, qli_24, qli_25, qli_26, qli_31, qli_32, qli_37, qli_39, qli_40, qli_41, qli_42, qli_43, qli_45, qli_47, qli_48, qli_49, qli_50, qli_56, qli_57, qli_59, qli_60, qli_61, qli_63, qli_64, qli_96, qli_97, qli_99, qli_100, qli_101, qli_122, qli_126, qli_143, qli_144, qli_192, qli_200, qli_201, qli_216, qli_255, qli_256, qli_780, qli_799, qli_800, qli_801, qli_802, qli_880, qli_1000, qli_5760, qli_7040, qli_7920, qli_1000000, in_t, le_t, le_f, lt_t, lt_f, eq_t, eq_f, nI_add, nI_sub', nI_mul, nI_clamp, m1_ne, m1_ne', m1_lt, m1_le, m1_nlt, m1_nle, m1_add, eq_self, not_true_eq_false, not_false_eq_true, ne_eq, Nat.reduceLeDiff, Nat.reduceLT, and_true, true_and, and_self, or_true, true_or, or_false, false_or, false_and, and_false, qK_pi, qK_pr, qK_wi, qK_wl, qK_wo, qK_xi, qK_xo, qfr_pi', qfr_wi', qfr_wl', qfr_wo', qfr_xi', qfr_xo', qfi_pr, qfi_wi, qfi_wl, qfi_wo, qfi_xi, qfi_xo, qln_pi, qln_pr, qln_wi, qln_wl, qln_wo, qln_xi, qln_xo, qri_pi, qri_pr, qri_wl, qri_wo, qri_xo, qrl_pi, qrl_pr, qrl_wi, qrl_wo, qrl_xi, qrl_xo, qro_pi, qro_pr, qro_wi, qro_wl, qro_xi, qnx_pi, qnx_pr, qnx_wi, qnx_wl, qnx_wo, qnx_xi, qnx_xo, qsa_pi, qsa_wi, qsa_wl, qsa_pr, qsa_wo, fi_pi_at, fi_pi_nk, fi_pi_na, ri_wi_at, ri_wi_ne, ri_wi_nj, rl_wl_at, rl_wl_ne, rl_wl_nj, fr_pr_at, fr_pr_nk, fr_pr_na, hc, g6, g8, ↓cn_401, ↓cn_402]
  refine ok_of st0 ⟨?_, ?_, ?_, ?_, ?_, ?_, ?_, ?_, fun i hi => ?_, ?_⟩
  · refine fq_pi (fq_wi (fq_wi g1 ?_) ?_) (kF_12 (by omega) (by omega))
    · unfold kR; omega
    · unfold kR; omega
  · refine TokS_pi (T := st_wi (st_wi T (x + 17) rs.length (nI c)) (x + 18) rs.length (nI st.length)) ⟨g2.1, fun i hi => ?_⟩ (by omega)
    simp (disch := omega) only [ri_wi_ne]
    exact g2.2 i hi
  · simp (disch := omega) only [fi_pi_nk, qfi_wi]; exact g3
  · simp (disch := omega) only [fi_pi_nk, qfi_wi]; exact g4
  · simp (disch := omega) only [fi_pi_nk, qfi_wi]; exact g5
  · simp (disch := omega) only [fi_pi_nk, qfi_wi]; exact g6
  · simp (disch := omega) only [qri_pi, ri_wi_ne]; exact g7
  · rw [fi_pi_at, List.length_append]; rfl
  · rw [List.length_append] at hi
    have hi' : i < rs.length + 1 := hi
    by_cases q : i = rs.length
    · rw [q, getD_app_at]
      simp (disch := omega) only [qri_pi, ri_wi_ne, ri_wi_at]
      refine ⟨?_, ?_⟩ <;> first | trivial | rfl
    · rw [getD_app (by omega)]
      simp (disch := omega) only [qri_pi, ri_wi_ne, ri_wi_nj]
      exact g9 i (by omega)
  · simp (disch := omega) only [fi_pi_nk, qfi_wi]; exact g10
theorem p_endB {c : Int32} (hcS : CS S x) (h : PB S x L T e) : ok (f_X3_endRule T (x + 12) c) (fun _ T' => PB S x L T' e) := by
  have hc := CS_fq hcS h.1
  obtain ⟨g1, g2, g3, g4, g5, g6, ⟨u, u1, u2⟩, ⟨r, r1, r2⟩⟩ := id h
  by_cases q : r = 24
  · have st0 : f_X3_endRule T (x + 12) c = some ((), T) := by
      unfold f_X3_endRule
      clear g1 g2 h
      simp (disch := first | omega | assumption | (repeat first | assumption | apply RS_pi | apply RS_wi | apply RS_wl | apply CS_pi | apply CS_wi | apply CS_wl | apply CS_wo | apply CS_xo | apply RI_w15 | apply RI_w16 | apply RI_w17 | apply RI_w26 | apply RI_w27 | apply RI_w28 | apply RI_p1000)) only [↓reduceIte, ↓xg, ↓xi, ↓xl_wi, ↓xl_wl, ↓xl_pi, ↓xlI, ↓xlL, ↓xlN, xl, ↓xn, ↓xc, ↓xon, ↓xos, ↓ln_1, ↓ln_2, ↓ln_3, ↓ln_8, qli_0, qli_1, qli_2, qli_3, qli_4, qli_5, qli_6, qli_7, qli_8, qli_9, qli_10, qli_11, qli_12, qli_13, qli_14, qli_15, qli_16, qli_17, qli_18, qli_19, qli_20, qli_21, qli_22, qli_23, qli_24, qli_25, qli_26, qli_31, qli_32, qli_37, qli_39, qli_40, qli_41, qli_42, qli_43, qli_45, qli_47, qli_48, qli_49, qli_50, qli_56, qli_57, qli_59, qli_60, qli_61, qli_63, qli_64, qli_96, qli_97, qli_99, qli_100, qli_101, qli_122, qli_126, qli_143, qli_144, qli_192, qli_200, qli_201, qli_216, qli_255, qli_256, qli_780, qli_799, qli_800, qli_801, qli_802, qli_880, qli_1000, qli_5760, qli_7040, qli_7920, qli_1000000, in_t, le_t, le_f, lt_t, lt_f, eq_t, eq_f, nI_add, nI_sub', nI_mul, nI_clamp, m1_ne, m1_ne', m1_lt, m1_le, m1_nlt, m1_nle, m1_add, eq_self, not_true_eq_false, not_false_eq_true, ne_eq, Nat.reduceLeDiff, Nat.reduceLT, and_true, true_and, and_self, or_true, true_or, or_false, false_or, false_and, and_false, qK_pi, qK_pr, qK_wi, qK_wl, qK_wo, qK_xi, qK_xo, qfr_pi', qfr_wi', qfr_wl', qfr_wo', qfr_xi', qfr_xo', qfi_pr, qfi_wi, qfi_wl, qfi_wo, qfi_xi, qfi_xo, qln_pi, qln_pr, qln_wi, qln_wl, qln_wo, qln_xi, qln_xo, qri_pi, qri_pr, qri_wl, qri_wo, qri_xo, qrl_pi, qrl_pr, qrl_wi, qrl_wo, qrl_xi, qrl_xo, qro_pi, qro_pr, qro_wi, qro_wl, qro_xi, qnx_pi, qnx_pr, qnx_wi, qnx_wl, qnx_wo, qnx_xi, qnx_xo, qsa_pi, qsa_wi, qsa_wl, qsa_pr, qsa_wo, fi_pi_at, fi_pi_nk, fi_pi_na, ri_wi_at, ri_wi_ne, ri_wi_nj, rl_wl_at, rl_wl_ne, rl_wl_nj, fr_pr_at, fr_pr_nk, fr_pr_na, hc, r2]
    exact ok_of st0 h
  · have st0 : f_X3_endRule T (x + 12) c = some ((), st_pi (st_wi (st_wi T (x + 17) r c) (x + 18) r (nI u)) 405 (x + 12) (nI (r + 1))) := by
      unfold f_X3_endRule
      clear g1 g2 h
      simp (disch := first | omega | assumption | (repeat first | assumption | apply RS_pi | apply RS_wi | apply RS_wl | apply CS_pi | apply CS_wi | apply CS_wl | apply CS_wo | apply CS_xo | apply RI_w15 | apply RI_w16 | apply RI_w17 | apply RI_w26 | apply RI_w27 | apply RI_w28 | apply RI_p1000)) only [↓reduceIte, ↓xg, ↓xi, ↓xl_wi, ↓xl_wl, ↓xl_pi, ↓xlI, ↓xlL, ↓xlN, xl, ↓xn, ↓xc, ↓xon, ↓xos, ↓ln_1, ↓ln_2, ↓ln_3, ↓ln_8, qli_0, qli_1, qli_2, qli_3, qli_4, qli_5, qli_6, qli_7, qli_8, qli_9, qli_10, qli_11, qli_12, qli_13, qli_14, qli_15, qli_16, qli_17, qli_18, qli_19, qli_20, qli_21, qli_22, qli_23, qli_24, qli_25, qli_26, qli_31, qli_32, qli_37, qli_39, qli_40, qli_41, qli_42, qli_43, qli_45, qli_47, qli_48, qli_49, qli_50, qli_56, qli_57, qli_59, qli_60, qli_61, qli_63, qli_64, qli_96, qli_97, qli_99, qli_100, qli_101, qli_122, qli_126, qli_143, qli_144, qli_192, qli_200, qli_201, qli_216, qli_255, qli_256, qli_780, qli_799, qli_800, qli_801, qli_802, qli_880, qli_1000, qli_5760, qli_7040, qli_7920, qli_1000000, in_t, le_t, le_f, lt_t, lt_f, eq_t, eq_f, nI_add, nI_sub', nI_mul, nI_clamp, m1_ne, m1_ne', m1_lt, m1_le, m1_nlt, m1_nle, m1_add, eq_self, not_true_eq_false, not_false_eq_true, ne_eq, Nat.reduceLeDiff, Nat.reduceLT, and_true, true_and, and_self, or_true, true_or, or_false, false_or, false_and, and_false, qK_pi, qK_pr, qK_wi, qK_wl, qK_wo, qK_xi, qK_xo, qfr_pi', qfr_wi', qfr_wl', qfr_wo', qfr_xi', qfr_xo', qfi_pr, qfi_wi, qfi_wl, qfi_wo, qfi_xi, qfi_xo, qln_pi, qln_pr, qln_wi, qln_wl, qln_wo, qln_xi, qln_xo, qri_pi, qri_pr, qri_wl, qri_wo, qri_xo, qrl_pi, qrl_pr, qrl_wi, qrl_wo, qrl_xi, qrl_xo, qro_pi, qro_pr, qro_wi, qro_wl, qro_xi, qnx_pi, qnx_pr, qnx_wi, qnx_wl, qnx_wo, qnx_xi, qnx_xo, qsa_pi, qsa_wi, qsa_wl, qsa_pr, qsa_wo, fi_pi_at, fi_pi_nk, fi_pi_na, ri_wi_at, ri_wi_ne, ri_wi_nj, rl_wl_at, rl_wl_ne, rl_wl_nj, fr_pr_at, fr_pr_nk, fr_pr_na, hc, r2, u2, ↓cn_401, ↓cn_402]
    refine ok_of st0 ⟨?_, ?_, ?_, ?_, g5, g6, ⟨u, u1, ?_⟩, ⟨r + 1, by omega, fi_pi_at _ _ _ _⟩⟩
    · refine fq_pi (fq_wi (fq_wi g1 ?_) ?_) (kF_12 (by omega) (by omega))
      · unfold kR; omega
      · unfold kR; omega
    · refine TokS_pi (T := st_wi (st_wi T (x + 17) r c) (x + 18) r (nI u)) ⟨g2.1, fun i hi => ?_⟩ (by omega)
      simp (disch := omega) only [ri_wi_ne]
      exact g2.2 i hi
    · simp (disch := omega) only [fi_pi_nk, qfi_wi]; exact g3
    · simp (disch := omega) only [fi_pi_nk, qfi_wi]; exact g4
    · simp (disch := omega) only [fi_pi_nk, qfi_wi]; exact u2
theorem PG_mn {u : Nat} (h : PG S x L T p st rs mn) : PG S x L (st_pi T 407 (x + 12) (nI u)) p st rs u := by
  obtain ⟨h1, h2, h3, h4, h5, h6, h7, h8, h9, h10⟩ := h
  refine ⟨fq_pi h1 (kF_12 (by omega) (by omega)), TokS_pi h2 (by omega), ?_, ?_, ?_, ?_, h7, ?_, h9, fi_pi_at _ _ _ _⟩
  · rw [fi_pi_nk _ _ _ _ _ _ (by omega)]; exact h3
  · rw [fi_pi_nk _ _ _ _ _ _ (by omega)]; exact h4
  · rw [fi_pi_nk _ _ _ _ _ _ (by omega)]; exact h5
  · rw [fi_pi_nk _ _ _ _ _ _ (by omega)]; exact h6
  · rw [fi_pi_nk _ _ _ _ _ _ (by omega)]; exact h8
theorem PB_mn {u : Int32} (h : PB S x L T e) : PB S x L (st_pi T 407 (x + 12) u) e := by
  obtain ⟨g1, g2, g3, g4, g5, g6, ⟨u', u1, u2⟩, ⟨r, r1, r2⟩⟩ := h
  refine ⟨fq_pi g1 (kF_12 (by omega) (by omega)), TokS_pi g2 (by omega), ?_, ?_, g5, g6, ⟨u', u1, ?_⟩, ⟨r, r1, ?_⟩⟩
  · rw [fi_pi_nk _ _ _ _ _ _ (by omega)]; exact g3
  · rw [fi_pi_nk _ _ _ _ _ _ (by omega)]; exact g4
  · rw [fi_pi_nk _ _ _ _ _ _ (by omega)]; exact u2
  · rw [fi_pi_nk _ _ _ _ _ _ (by omega)]; exact r2
/-- what the class's reading leaves -/
def PQ (S : st_T) (x : Nat) (L : List (Nat × Nat × Nat)) (r : Int32) (T : st_T) (g : sT) : Prop := match g with
  | .inl e => r = nI e ∧ PB S x L T e
  | .inr t => r = nI 0 ∧ ∃ p, PG S x L T p t.2.1 t.1 t.2.2
theorem c_r153B (hcS : CS S x) (h : PB S x L T e) : ok (j_X3_read_153 (x + 12) T) (fun r T' => PQ S x L r T' (.inl e)) := by
  unfold j_X3_read_153
  refine ok_gt (k12 (CS_fq hcS h.1)) ?_
  exact ok_of rfl ⟨h.2.2.2.1, h⟩
theorem c_r140B (hcS : CS S x) (h : PB S x L T e) : ok (j_X3_read_140 (x + 12) T) (fun r T' => PQ S x L r T' (.inl e)) := by
  unfold j_X3_read_140
  refine ok_gt (k12 (CS_fq hcS h.1)) ?_
  refine ok_if (by rw [h.2.2.1]; exact neF (a := 0) (b := 1) (by omega) (by omega) (by omega)) ?_
  exact ok_cc (p_failB hcS h) (fun _ T1 q1 => c_r153B hcS q1)
theorem c_r108B (hcS : CS S x) (h : PB S x L T e) : ok (j_X3_read_108 (x + 12) T) (fun r T' => PQ S x L r T' (.inl e)) := by
  unfold j_X3_read_108
  refine ok_gt (k12 (CS_fq hcS h.1)) ?_
  refine ok_if (by rw [h.2.2.1]; exact neF (a := 0) (b := 13) (by omega) (by omega) (by omega)) ?_
  exact c_r140B hcS h
theorem c_r140 (hcS : CS S x) (hL : LG L n) (h : PG S x L T p st rs mn) (hp : p ≤ n) (hst : st.length ≤ 800) (hrs : rs.length ≤ 24) : ok (j_X3_read_140 (x + 12) T) (fun r T' => PQ S x L r T' (if tK L p = 1 then .inr (rs, st, mn) else .inl (1 + 16 * tP L p))) := by
  have kb := (hL.2.2.2.2 p hp).1
  unfold j_X3_read_140
  refine ok_gt (k12 (CS_fq hcS h.1)) ?_
  by_cases c : tK L p = 1
  · simp only [if_pos c]
    refine ok_it (by rw [h.2.2.2.1]; exact eqT c) ?_
    unfold j_X3_read_153
    refine ok_gt (k12 (CS_fq hcS h.1)) ?_
    exact ok_of rfl ⟨h.2.2.2.2.1, p, h⟩
  · simp only [if_neg c]
    refine ok_if (by rw [h.2.2.2.1]; exact neF (a := tK L p) (b := 1) c (by omega) (by omega)) ?_
    exact ok_cc (p_fail (how := 1) hcS hL h hp hst hrs (by omega) (by omega)) (fun _ T1 q1 => c_r153B hcS q1)
theorem c_r108 (hcS : CS S x) (hL : LG L n) (h : PG S x L T p st rs 0) (hp : p ≤ n) (hst : st.length ≤ 800) (hrs : rs.length ≤ 24) : ok (j_X3_read_108 (x + 12) T) (fun r T' => PQ S x L r T' (xTail L p rs st)) := by
  have kb := (hL.2.2.2.2 p hp).1
  unfold j_X3_read_108 xTail
  refine ok_gt (k12 (CS_fq hcS h.1)) ?_
  by_cases c : tK L p = 13
  · simp only [if_pos c]
    have lt := LG_lt hL hp (by omega)
    refine ok_it (by rw [h.2.2.2.1]; exact eqT c) ?_
    refine ok_cc (p_take (k := 13) hcS hL h hp hst hrs (by omega) (by omega)) (fun _ T1 q1 => ?_)
    rw [if_pos c] at q1
    refine ok_gt (k12 (CS_fq hcS q1.1)) ?_
    refine ok_cc (p_num (lo := 1) (hi := 143) hcS hL q1 (by omega) hst hrs (by omega) (by omega)) (fun r T2 q2 => ?_)
    by_cases c2 : tK L (p + 1) = 2
    · rw [if_pos c2] at q2
      simp only [if_pos c2]
      obtain ⟨rfl, q2⟩ := q2
      have l1 := LG_lt hL (show p + 1 ≤ n by omega) (by omega)
      by_cases c3 : 1 ≤ tV L (p + 1) ∧ tV L (p + 1) ≤ 143
      · rw [if_pos c3] at q2
        simp only [if_pos c3]
        refine ok_gt (k12 (CS_fq hcS q2.1)) ?_
        rw [ok_l]
        refine ok_cc (p_take (k := 5) hcS hL (PG_mn (u := tV L (p + 1)) q2) (by omega) hst hrs (by omega) (by omega)) (fun _ T3 q3 => ?_)
        by_cases c4 : tK L (p + 2) = 5
        · have l2 := LG_lt hL (show p + 2 ≤ n by omega) (by omega)
          rw [if_pos c4] at q3
          simp only [if_pos c4]
          exact c_r140 hcS hL q3 (by omega) hst hrs
        · rw [if_neg c4] at q3
          simp only [if_neg c4]
          exact c_r140B hcS q3
      · rw [if_neg c3] at q2
        simp only [if_neg c3]
        refine ok_gt (k12 (CS_fq hcS q2.1)) ?_
        rw [ok_l]
        exact ok_cc (p_takeB (k := 5) hcS (PB_mn q2) (by omega) (by omega)) (fun _ T3 q3 => c_r140B hcS q3)
    · rw [if_neg c2] at q2
      simp only [if_neg c2]
      refine ok_gt (k12 (CS_fq hcS q2.1)) ?_
      rw [ok_l]
      exact ok_cc (p_takeB (k := 5) hcS (PB_mn q2) (by omega) (by omega)) (fun _ T3 q3 => c_r140B hcS q3)
  · simp only [if_neg c]
    refine ok_if (by rw [h.2.2.2.1]; exact neF (a := tK L p) (b := 13) c (by omega) (by omega)) ?_
    exact c_r140 hcS hL h hp hst hrs
end CR
