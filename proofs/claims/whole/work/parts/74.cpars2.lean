/-! text: the class's parser, its rules -/
section CQ
variable {β : Type} {S S' S0 T : st_T} {m x v n : Nat} {M : mT} {A : aT} {L : List (Nat × Nat × Nat)} {w p : Nat} {st rs : List (Nat × Nat)} {mn e : Nat} {Ef : st_T → Nat → Int32 → Option (Unit × st_T)} {E : Nat → rT}
theorem k12 (h : CS T x) : st_K T (x + 12) = 5 := h.2.2.2.2.2.2.2.2.2.2.2.2.1
def PR (S : st_T) (x : Nat) (L : List (Nat × Nat × Nat)) (T : st_T) (st rs : List (Nat × Nat)) (mn : Nat) (r : rT) : Prop := match r with
  | .inl e => PB S x L T e
  | .inr (p, o) => PG S x L T p (st ++ o) rs mn
def OKc (S : st_T) (x : Nat) (L : List (Nat × Nat × Nat)) (n : Nat) (F : st_T → Option (Unit × st_T)) (g : Nat → rT) : Prop := (∀ T p st rs mn, PG S x L T p st rs mn → p ≤ n → st.length ≤ p → rs.length ≤ 24 → ok (F T) (fun _ T' => PR S x L T' st rs mn (g p))) ∧ ∀ T e, PB S x L T e → ok (F T) (fun _ T' => PB S x L T' e)
theorem ok_W1 {a lo hi : Int32} {k : Int32 → st_T → Option (β × st_T)} {Q : β → st_T → Prop} (h : a < lo) (h2 : ok (k 0 S) Q) : ok (c_c (f_X8_isWithin S a lo hi) k) Q := by rw [cW, if_pos h]; exact h2
theorem ok_W2 {a lo hi : Int32} {k : Int32 → st_T → Option (β × st_T)} {Q : β → st_T → Prop} (h : ¬ a < lo) (h1 : hi < a) (h2 : ok (k 0 S) Q) : ok (c_c (f_X8_isWithin S a lo hi) k) Q := by rw [cW, if_neg h, if_pos h1]; exact h2
theorem ok_W3 {a lo hi : Int32} {k : Int32 → st_T → Option (β × st_T)} {Q : β → st_T → Prop} (h : ¬ a < lo) (h1 : ¬ hi < a) (h2 : ok (k 1 S) Q) : ok (c_c (f_X8_isWithin S a lo hi) k) Q := by rw [cW, if_neg h, if_neg h1]; exact h2
theorem c_part31 (hcS : CS S x) (hL : LG L n) (hE : w < 5 → OKc S x L n (fun T => Ef T (x + 12) (nI (w + 1))) E) (hA : ∀ q, q ≤ n → w < 5 → adv n q (E q)) (hw : w ≤ 5) (h : PG S x L T p st rs mn) (hp : p ≤ n) (hst : st.length ≤ p) (hrs : rs.length ≤ 24) (hk : tK L p = 2 ∨ tK L p = 3 ∨ (14 ≤ tK L p ∧ tK L p ≤ 23)) : ok (j_X3_part_31 Ef (x + 12) (nI w) (nI (tK L p)) T 1) (fun _ T' => PR S x L T' st rs mn (xPart L E w p)) := by
  have hn := hL.2.1
  have hc := CS_fq hcS h.1
  have lt := LG_lt hL hp (by omega)
  unfold j_X3_part_31 xPart
  simp only [if_pos hk]
  refine ok_if (by decide) ?_
  by_cases c2 : w < 5
  · simp only [if_pos c2]
    refine ok_it (nI_lt (b := 5) c2 (by omega)) ?_
    by_cases c3 : tK L p = 3
    · simp only [if_pos c3]
      refine ok_it (eqT c3) ?_
      refine ok_gt (k12 hc) ?_
      refine ok_cc (p_take (k := 3) hcS hL h hp (by omega) hrs (by omega) (by omega)) (fun _ T1 h1 => ?_)
      simp only [if_pos c3] at h1
      refine ok_gt (k12 (CS_fq hcS h1.1)) ?_
      have e1 : nI w + 1 = nI (w + 1) := nI_add w 1
      rw [e1]
      refine ok_cc ((hE c2).1 T1 (p + 1) st rs mn h1 (by omega) (by omega) hrs) (fun _ T2 h2 => ?_)
      have ad := hA (p + 1) (by omega) c2
      cases hr : E (p + 1) with
      | inl e =>
        rw [hr] at h2
        have h2' : PB S x L T2 e := h2
        refine ok_gt (k12 (CS_fq hcS h2'.1)) ?_
        exact ok_cc (p_takeB (k := 4) hcS h2' (by omega) (by omega)) (fun _ T3 h3 => ok_of rfl h3)
      | inr q =>
        obtain ⟨q, o⟩ := q
        rw [hr] at h2
        have h2' : PG S x L T2 q (st ++ o) rs mn := h2
        have a1 := ad.1 q o hr
        have ll : (st ++ o).length ≤ 800 := by rw [List.length_append]; omega
        refine ok_gt (k12 (CS_fq hcS h2'.1)) ?_
        refine ok_cc (p_take (k := 4) hcS hL h2' a1.2.1 ll hrs (by omega) (by omega)) (fun _ T3 h3 => ok_of rfl ?_)
        rw [rb_r]
        by_cases c4 : tK L q = 4
        · rw [if_pos c4] at h3 ⊢
          exact h3
        · rw [if_neg c4] at h3 ⊢
          exact h3
    · simp only [if_neg c3]
      refine ok_if (neF (a := tK L p) (b := 3) c3 (by omega) (by omega)) ?_
      by_cases c4 : tK L p = 2
      · simp only [if_pos c4]
        refine ok_it (eqT c4) ?_
        refine ok_gt (k12 hc) ?_
        have vb := (hL.2.2.2.2 p hp).2.1
        refine ok_cc (p_num (lo := 0) (hi := 2147483647) hcS hL h hp (by omega) hrs (by omega) (by omega)) (fun r T1 h1 => ?_)
        rw [if_pos c4, if_pos (by omega)] at h1
        obtain ⟨rfl, h1⟩ := h1
        refine ok_gt (k12 (CS_fq hcS h1.1)) ?_
        exact ok_cc (p_emit (k := 2) (u := tV L p) hcS h1 (by omega)) (fun _ T2 h2 => ok_of rfl h2)
      · simp only [if_neg c4]
        refine ok_if (neF (a := tK L p) (b := 2) c4 (by omega) (by omega)) ?_
        refine ok_gt (k12 hc) ?_
        refine ok_cc (p_take (k := tK L p) hcS hL h hp (by omega) hrs (by omega) (by omega)) (fun _ T1 h1 => ?_)
        rw [if_pos rfl] at h1
        by_cases c5 : tK L p ≤ 16
        · simp only [if_pos c5]
          refine ok_W3 (nI_nlt (a := tK L p) (b := 14) (by omega) (by omega)) (nI_nlt (a := 16) (b := tK L p) (by omega) (by omega)) ?_
          refine ok_if (by decide) ?_
          refine ok_gt (k12 (CS_fq hcS h1.1)) ?_
          refine ok_cc (p_num (lo := 1) (hi := 200) hcS hL h1 (by omega) (by omega) hrs (by omega) (by omega)) (fun r T2 h2 => ?_)
          unfold j_X3_part_136
          by_cases c6 : tK L (p + 1) = 2
          · rw [if_pos c6] at h2
            simp only [if_pos c6]
            obtain ⟨rfl, h2⟩ := h2
            by_cases c7 : 1 ≤ tV L (p + 1) ∧ tV L (p + 1) ≤ 200
            · rw [if_pos c7] at h2
              simp only [if_pos c7]
              refine ok_gt (k12 (CS_fq hcS h2.1)) ?_
              exact ok_cc (p_emit hcS h2 (by omega)) (fun _ T3 h3 => ok_of rfl h3)
            · rw [if_neg c7] at h2
              simp only [if_neg c7]
              refine ok_gt (k12 (CS_fq hcS h2.1)) ?_
              exact ok_cc (p_emitB hcS h2) (fun _ T3 h3 => ok_of rfl h3)
          · rw [if_neg c6] at h2
            simp only [if_neg c6]
            refine ok_gt (k12 (CS_fq hcS h2.1)) ?_
            exact ok_cc (p_emitB hcS h2) (fun _ T3 h3 => ok_of rfl h3)
        · simp only [if_neg c5]
          refine ok_W2 (nI_nlt (a := tK L p) (b := 14) (by omega) (by omega)) (nI_lt (a := 16) (b := tK L p) (by omega) (by omega)) ?_
          refine ok_it (by first | trivial | rfl) ?_
          unfold j_X3_part_136
          refine ok_gt (k12 (CS_fq hcS h1.1)) ?_
          exact ok_cc (p_emit (u := 0) hcS h1 (by omega)) (fun _ T3 h3 => ok_of rfl h3)
  · simp only [if_neg c2]
    refine ok_if (nI_nlt (a := w) (b := 5) (by omega) (by omega)) ?_
    refine ok_gt (k12 hc) ?_
    exact ok_cc (p_fail (how := 5) hcS hL h hp (by omega) hrs (by omega) (by omega)) (fun _ T1 h1 => ok_of rfl h1)
theorem c_part (hcS : CS S x) (hL : LG L n) (hE : w < 5 → OKc S x L n (fun T => Ef T (x + 12) (nI (w + 1))) E) (hA : ∀ q, q ≤ n → w < 5 → adv n q (E q)) (hw : w ≤ 5) : OKc S x L n (fun T => f_X3_part Ef T (x + 12) (nI w)) (xPart L E w) := by
  refine ⟨fun T p st rs mn h hp hst hrs => ?_, fun T e h => ?_⟩
  · have hn := hL.2.1
    have hc := CS_fq hcS h.1
    have k4 := h.2.2.2.1
    have kb := (hL.2.2.2.2 p hp).1
    show ok (f_X3_part Ef T (x + 12) (nI w)) _
    unfold f_X3_part
    rw [k4]
    refine ok_gt (k12 hc) ?_
    rw [ok_l]
    by_cases c1 : tK L p = 2
    · refine ok_it (eqT c1) ?_
      exact c_part31 hcS hL hE hA hw h hp hst hrs (Or.inl c1)
    · refine ok_if (neF (a := tK L p) (b := 2) c1 (by omega) (by omega)) ?_
      by_cases c2 : tK L p = 3
      · refine ok_it (eqT c2) ?_
        exact c_part31 hcS hL hE hA hw h hp hst hrs (Or.inr (Or.inl c2))
      · refine ok_if (neF (a := tK L p) (b := 3) c2 (by omega) (by omega)) ?_
        have bad : ¬ (tK L p = 2 ∨ tK L p = 3 ∨ (14 ≤ tK L p ∧ tK L p ≤ 23)) → ok (j_X3_part_31 Ef (x + 12) (nI w) (nI (tK L p)) T 0) (fun _ T' => PR S x L T' st rs mn (xPart L E w p)) := by
          intro hk
          unfold j_X3_part_31 xPart
          simp only [if_neg hk]
          refine ok_it (by first | trivial | rfl) ?_
          refine ok_gt (k12 hc) ?_
          exact ok_cc (p_fail (how := 1) hcS hL h hp (by omega) hrs (by omega) (by omega)) (fun _ T1 h1 => ok_of rfl h1)
        by_cases c3 : tK L p < 14
        · refine ok_W1 (nI_lt (a := tK L p) (b := 14) c3 (by omega)) ?_
          refine ok_it (by first | trivial | rfl) ?_
          exact bad (by omega)
        · refine ok_W3 (nI_nlt (a := tK L p) (b := 14) (by omega) (by omega)) (nI_nlt (a := 23) (b := tK L p) (by omega) (by omega)) ?_
          refine ok_if (by decide) ?_
          exact c_part31 hcS hL hE hA hw h hp hst hrs (Or.inr (Or.inr ⟨by omega, by omega⟩))
  · have hc := CS_fq hcS h.1
    have k4 := h.2.2.1
    show ok (f_X3_part Ef T (x + 12) (nI w)) _
    unfold f_X3_part
    rw [k4]
    refine ok_gt (k12 hc) ?_
    rw [ok_l]
    refine ok_if (neF (a := 0) (b := 2) (by omega) (by omega) (by omega)) ?_
    refine ok_if (neF (a := 0) (b := 3) (by omega) (by omega) (by omega)) ?_
    refine ok_W1 (nI_lt (a := 0) (b := 14) (by omega) (by omega)) ?_
    refine ok_it (by first | trivial | rfl) ?_
    unfold j_X3_part_31
    refine ok_it (by first | trivial | rfl) ?_
    refine ok_gt (k12 hc) ?_
    exact ok_cc (p_failB hcS h) (fun _ T1 h1 => ok_of rfl h1)
theorem c_sumL (hcS : CS S x) (hL : LG L n) (hP : OKc S x L n (fun T => f_X3_part Ef T (x + 12) (nI w)) (xPart L E w)) (hA : ∀ q, q ≤ n → w < 5 → adv n q (E q)) : OKc S x L n (fun T => c_w (b_X3_sum_7 Ef (x + 12) (nI w)) c_N (T, nI 0)) (xSumR L E w 800) := by
  have hn := hL.2.1
  have exB : ∀ (rec : st_T × Int32 → Option (Unit × st_T)) (T : st_T) (i e : Nat), i ≤ 800 → PB S x L T e → b_X3_sum_7 Ef (x + 12) (nI w) rec (T, nI i) = some ((), T) := by
    intro rec T i e hi h
    have hc := CS_fq hcS h.1
    have k4 := h.2.2.1
    clear h hP hA hcS
    by_cases c : i = 800
    · simp (disch := first | omega | assumption | (repeat first | assumption | apply RS_pi | apply RS_wi | apply RS_wl | apply CS_pi | apply CS_wi | apply CS_wl | apply CS_wo | apply CS_xo | apply RI_w15 | apply RI_w16 | apply RI_w17 | apply RI_w26 | apply RI_w27 | apply RI_w28 | apply RI_p1000)) only [b_X3_sum_7, ↓reduceIte, ↓xg, ↓xi, ↓xl_wi, ↓xl_wl, ↓xl_pi, ↓xlI, ↓xlL, ↓xlN, xl, ↓xn, ↓xc, ↓xon, ↓xos, ↓ln_1, ↓ln_2, ↓ln_3, ↓ln_8, qli_0, qli_1, qli_2, qli_3, qli_4, qli_5, qli_6, qli_7, qli_8, qli_9, qli_10, qli_11, qli_12, qli_13, qli_14, qli_15, qli_16, qli_17, qli_18, qli_19, qli_20, qli_21, qli_22, qli_23, qli_24, qli_25, qli_26, qli_31, qli_32, qli_37, qli_39, qli_40, qli_41, qli_42, qli_43, qli_45, qli_47, qli_48, qli_49, qli_50, qli_56, qli_57, qli_59, qli_60, qli_61, qli_63, qli_64, qli_96, qli_97, qli_99, qli_100, qli_101, qli_122, qli_126, qli_143, qli_144, qli_192, qli_200, qli_201, qli_216, qli_255, qli_256, qli_780, qli_799, qli_800, qli_801, qli_802, qli_880, qli_1000, qli_5760, qli_7040, qli_7920, qli_1000000, in_t, le_t, le_f, lt_t, lt_f, eq_t, eq_f, nI_add, nI_sub', nI_mul, nI_clamp, m1_ne, m1_ne', m1_lt, m1_le, m1_nlt, m1_nle, m1_add, eq_self, not_true_eq_false, not_false_eq_true, ne_eq, Nat.reduceLeDiff, Nat.reduceLT, and_true, true_and, and_self, or_true, true_or, or_false, false_or, false_and, and_false, qK_pi, qK_pr, qK_wi, qK_wl, qK_wo, qK_xi, qK_xo, qfr_pi', qfr_wi', qfr_wl', qfr_wo', qfr_xi', qfr_xo', qfi_pr, qfi_wi, qfi_wl, qfi_wo, qfi_xi, qfi_xo, qln_pi, qln_pr, qln_wi, qln_wl, qln_wo, qln_xi, qln_xo, qri_pi, qri_pr, qri_wl, qri_wo, qri_xo, qrl_pi, qrl_pr, qrl_wi, qrl_wo, qrl_xi, qrl_xo, qro_pi, qro_pr, qro_wi, qro_wl, qro_xi, qnx_pi, qnx_pr, qnx_wi, qnx_wl, qnx_wo, qnx_xi, qnx_xo, qsa_pi, qsa_wi, qsa_wl, qsa_pr, qsa_wo, fi_pi_at, fi_pi_nk, fi_pi_na, ri_wi_at, ri_wi_ne, ri_wi_nj, rl_wl_at, rl_wl_ne, rl_wl_nj, fr_pr_at, fr_pr_nk, fr_pr_na]
    · simp (disch := first | omega | assumption | (repeat first | assumption | apply RS_pi | apply RS_wi | apply RS_wl | apply CS_pi | apply CS_wi | apply CS_wl | apply CS_wo | apply CS_xo | apply RI_w15 | apply RI_w16 | apply RI_w17 | apply RI_w26 | apply RI_w27 | apply RI_w28 | apply RI_p1000)) only [b_X3_sum_7, ↓reduceIte, ↓xg, ↓xi, ↓xl_wi, ↓xl_wl, ↓xl_pi, ↓xlI, ↓xlL, ↓xlN, xl, ↓xn, ↓xc, ↓xon, ↓xos, ↓ln_1, ↓ln_2, ↓ln_3, ↓ln_8, qli_0, qli_1, qli_2, qli_3, qli_4, qli_5, qli_6, qli_7, qli_8, qli_9, qli_10, qli_11, qli_12, qli_13, qli_14, qli_15, qli_16, qli_17, qli_18, qli_19, qli_20, qli_21, qli_22, qli_23, qli_24, qli_25, qli_26, qli_31, qli_32, qli_37, qli_39, qli_40, qli_41, qli_42, qli_43, qli_45, qli_47, qli_48, qli_49, qli_50, qli_56, qli_57, qli_59, qli_60, qli_61, qli_63, qli_64, qli_96, qli_97, qli_99, qli_100, qli_101, qli_122, qli_126, qli_143, qli_144, qli_192, qli_200, qli_201, qli_216, qli_255, qli_256, qli_780, qli_799, qli_800, qli_801, qli_802, qli_880, qli_1000, qli_5760, qli_7040, qli_7920, qli_1000000, in_t, le_t, le_f, lt_t, lt_f, eq_t, eq_f, nI_add, nI_sub', nI_mul, nI_clamp, m1_ne, m1_ne', m1_lt, m1_le, m1_nlt, m1_nle, m1_add, eq_self, not_true_eq_false, not_false_eq_true, ne_eq, Nat.reduceLeDiff, Nat.reduceLT, and_true, true_and, and_self, or_true, true_or, or_false, false_or, false_and, and_false, qK_pi, qK_pr, qK_wi, qK_wl, qK_wo, qK_xi, qK_xo, qfr_pi', qfr_wi', qfr_wl', qfr_wo', qfr_xi', qfr_xo', qfi_pr, qfi_wi, qfi_wl, qfi_wo, qfi_xi, qfi_xo, qln_pi, qln_pr, qln_wi, qln_wl, qln_wo, qln_xi, qln_xo, qri_pi, qri_pr, qri_wl, qri_wo, qri_xo, qrl_pi, qrl_pr, qrl_wi, qrl_wo, qrl_xi, qrl_xo, qro_pi, qro_pr, qro_wi, qro_wl, qro_xi, qnx_pi, qnx_pr, qnx_wi, qnx_wl, qnx_wo, qnx_xi, qnx_xo, qsa_pi, qsa_wi, qsa_wl, qsa_pr, qsa_wo, fi_pi_at, fi_pi_nk, fi_pi_na, ri_wi_at, ri_wi_ne, ri_wi_nj, rl_wl_at, rl_wl_ne, rl_wl_nj, fr_pr_at, fr_pr_nk, fr_pr_na, hc, k4]
  refine ⟨fun T p st rs mn h hp hst hrs => ?_, fun T e h => ?_⟩
  · obtain ⟨G, hG⟩ : ∃ G, G = xSumR L E w 800 p := ⟨_, rfl⟩
    show ok (c_w (b_X3_sum_7 Ef (x + 12) (nI w)) c_N (T, nI 0)) (fun _ T' => PR S x L T' st rs mn (xSumR L E w 800 p))
    rw [← hG]
    refine ok_cnt 800 (fun i q => ∃ T', q = (T', nI i) ∧ ((∃ p' o, PG S x L T' p' (st ++ o) rs mn ∧ p' ≤ n ∧ (st ++ o).length ≤ p' ∧ rb (xSumR L E w (800 - i) p') (fun p2 o2 => .inr (p2, o ++ o2)) = G) ∨ ∃ e, PB S x L T' e ∧ G = .inl e)) ?_ ?_ c_N 0 _ (by omega) ⟨T, rfl, Or.inl ⟨p, [], by rw [List.append_nil]; exact h, hp, by rw [List.append_nil]; exact hst, ?_⟩⟩ (N_big (by omega))
    · rintro i q rec hi ⟨T', rfl, hh⟩ hrec
      rcases hh with ⟨p', o, h1, h2, h3, h4⟩ | ⟨e, h1, h2⟩
      · have hc := CS_fq hcS h1.1
        have k4 := h1.2.2.2.1
        have kb := (hL.2.2.2.2 p' h2).1
        obtain ⟨f, hf⟩ : ∃ f, 800 - i = f + 1 := ⟨799 - i, by omega⟩
        have hf2 : 800 - (i + 1) = f := by omega
        rw [hf, xSumR] at h4
        by_cases c : tK L p' = 8 ∨ tK L p' = 9
        · rw [if_pos c] at h4
          have lt := LG_lt hL h2 (by omega)
          have stp : b_X3_sum_7 Ef (x + 12) (nI w) rec (T', nI i) = c_c (f_X3_take T' (x + 12) (nI (tK L p'))) (fun _ T39 => c_g (st_K T39 (x + 12) = 5) (c_c (f_X3_part Ef T39 (x + 12) (nI w)) (fun _ T44 => c_g (st_K T44 (x + 12) = 5) (c_c (f_X3_emit T44 (x + 12) (nI (tK L p')) (nI 0)) (fun _ T50 => rec (T50, nI (i + 1))))))) := by
            clear h h1 hP hA hcS hrec exB h4
            rcases c with c | c
            · rw [c] at k4 ⊢
              simp (disch := first | omega | assumption | (repeat first | assumption | apply RS_pi | apply RS_wi | apply RS_wl | apply CS_pi | apply CS_wi | apply CS_wl | apply CS_wo | apply CS_xo | apply RI_w15 | apply RI_w16 | apply RI_w17 | apply RI_w26 | apply RI_w27 | apply RI_w28 | apply RI_p1000)) only [b_X3_sum_7, j_X3_sum_32, ↓reduceIte, ↓xg, ↓xi, ↓xl_wi, ↓xl_wl, ↓xl_pi, ↓xlI, ↓xlL, ↓xlN, xl, ↓xn, ↓xc, ↓xon, ↓xos, ↓ln_1, ↓ln_2, ↓ln_3, ↓ln_8, qli_0, qli_1, qli_2, qli_3, qli_4, qli_5, qli_6, qli_7, qli_8, qli_9, qli_10, qli_11, qli_12, qli_13, qli_14, qli_15, qli_16, qli_17, qli_18, qli_19, qli_20, qli_21, qli_22, qli_23, qli_24, qli_25, qli_26, qli_31, qli_32, qli_37, qli_39, qli_40, qli_41, qli_42, qli_43, qli_45, qli_47, qli_48, qli_49, qli_50, qli_56, qli_57, qli_59, qli_60, qli_61, qli_63, qli_64, qli_96, qli_97, qli_99, qli_100, qli_101, qli_122, qli_126, qli_143, qli_144, qli_192, qli_200, qli_201, qli_216, qli_255, qli_256, qli_780, qli_799, qli_800, qli_801, qli_802, qli_880, qli_1000, qli_5760, qli_7040, qli_7920, qli_1000000, in_t, le_t, le_f, lt_t, lt_f, eq_t, eq_f, nI_add, nI_sub', nI_mul, nI_clamp, m1_ne, m1_ne', m1_lt, m1_le, m1_nlt, m1_nle, m1_add, eq_self, not_true_eq_false, not_false_eq_true, ne_eq, Nat.reduceLeDiff, Nat.reduceLT, and_true, true_and, and_self, or_true, true_or, or_false, false_or, false_and, and_false, qK_pi, qK_pr, qK_wi, qK_wl, qK_wo, qK_xi, qK_xo, qfr_pi', qfr_wi', qfr_wl', qfr_wo', qfr_xi', qfr_xo', qfi_pr, qfi_wi, qfi_wl, qfi_wo, qfi_xi, qfi_xo, qln_pi, qln_pr, qln_wi, qln_wl, qln_wo, qln_xi, qln_xo, qri_pi, qri_pr, qri_wl, qri_wo, qri_xo, qrl_pi, qrl_pr, qrl_wi, qrl_wo, qrl_xi, qrl_xo, qro_pi, qro_pr, qro_wi, qro_wl, qro_xi, qnx_pi, qnx_pr, qnx_wi, qnx_wl, qnx_wo, qnx_xi, qnx_xo, qsa_pi, qsa_wi, qsa_wl, qsa_pr, qsa_wo, fi_pi_at, fi_pi_nk, fi_pi_na, ri_wi_at, ri_wi_ne, ri_wi_nj, rl_wl_at, rl_wl_ne, rl_wl_nj, fr_pr_at, fr_pr_nk, fr_pr_na, hc, k4]
            · rw [c] at k4 ⊢
              simp (disch := first | omega | assumption | (repeat first | assumption | apply RS_pi | apply RS_wi | apply RS_wl | apply CS_pi | apply CS_wi | apply CS_wl | apply CS_wo | apply CS_xo | apply RI_w15 | apply RI_w16 | apply RI_w17 | apply RI_w26 | apply RI_w27 | apply RI_w28 | apply RI_p1000)) only [b_X3_sum_7, j_X3_sum_32, ↓reduceIte, ↓xg, ↓xi, ↓xl_wi, ↓xl_wl, ↓xl_pi, ↓xlI, ↓xlL, ↓xlN, xl, ↓xn, ↓xc, ↓xon, ↓xos, ↓ln_1, ↓ln_2, ↓ln_3, ↓ln_8, qli_0, qli_1, qli_2, qli_3, qli_4, qli_5, qli_6, qli_7, qli_8, qli_9, qli_10, qli_11, qli_12, qli_13, qli_14, qli_15, qli_16, qli_17, qli_18, qli_19, qli_20, qli_21, qli_22, qli_23, qli_24, qli_25, qli_26, qli_31, qli_32, qli_37, qli_39, qli_40, qli_41, qli_42, qli_43, qli_45, qli_47, qli_48, qli_49, qli_50, qli_56, qli_57, qli_59, qli_60, qli_61, qli_63, qli_64, qli_96, qli_97, qli_99, qli_100, qli_101, qli_122, qli_126, qli_143, qli_144, qli_192, qli_200, qli_201, qli_216, qli_255, qli_256, qli_780, qli_799, qli_800, qli_801, qli_802, qli_880, qli_1000, qli_5760, qli_7040, qli_7920, qli_1000000, in_t, le_t, le_f, lt_t, lt_f, eq_t, eq_f, nI_add, nI_sub', nI_mul, nI_clamp, m1_ne, m1_ne', m1_lt, m1_le, m1_nlt, m1_nle, m1_add, eq_self, not_true_eq_false, not_false_eq_true, ne_eq, Nat.reduceLeDiff, Nat.reduceLT, and_true, true_and, and_self, or_true, true_or, or_false, false_or, false_and, and_false, qK_pi, qK_pr, qK_wi, qK_wl, qK_wo, qK_xi, qK_xo, qfr_pi', qfr_wi', qfr_wl', qfr_wo', qfr_xi', qfr_xo', qfi_pr, qfi_wi, qfi_wl, qfi_wo, qfi_xi, qfi_xo, qln_pi, qln_pr, qln_wi, qln_wl, qln_wo, qln_xi, qln_xo, qri_pi, qri_pr, qri_wl, qri_wo, qri_xo, qrl_pi, qrl_pr, qrl_wi, qrl_wo, qrl_xi, qrl_xo, qro_pi, qro_pr, qro_wi, qro_wl, qro_xi, qnx_pi, qnx_pr, qnx_wi, qnx_wl, qnx_wo, qnx_xi, qnx_xo, qsa_pi, qsa_wi, qsa_wl, qsa_pr, qsa_wo, fi_pi_at, fi_pi_nk, fi_pi_na, ri_wi_at, ri_wi_ne, ri_wi_nj, rl_wl_at, rl_wl_ne, rl_wl_nj, fr_pr_at, fr_pr_nk, fr_pr_na, hc, k4]
          rw [stp]
          refine ok_cc (p_take (k := tK L p') hcS hL h1 h2 (by omega) hrs (by omega) (by omega)) (fun _ T1 g1 => ?_)
          rw [if_pos rfl] at g1
          refine ok_gt (k12 (CS_fq hcS g1.1)) ?_
          refine ok_cc (hP.1 T1 (p' + 1) (st ++ o) rs mn g1 (by omega) (by omega) hrs) (fun _ T2 g2 => ?_)
          have ad := part_adv hL hA (show p' + 1 ≤ n by omega)
          cases hr : xPart L E w (p' + 1) with
          | inl e =>
            rw [hr] at g2 h4
            have g2' : PB S x L T2 e := g2
            refine ok_gt (k12 (CS_fq hcS g2'.1)) ?_
            refine ok_cc (p_emitB hcS g2') (fun _ T3 g3 => ?_)
            exact hrec _ ⟨T3, rfl, Or.inr ⟨e, g3, h4.symm⟩⟩
          | inr q =>
            obtain ⟨q, o1⟩ := q
            rw [hr] at g2 h4
            have g2' : PG S x L T2 q (st ++ o ++ o1) rs mn := g2
            have a1 := ad.1 q o1 hr
            have ll : (st ++ o ++ o1).length < 800 := by rw [List.length_append]; omega
            refine ok_gt (k12 (CS_fq hcS g2'.1)) ?_
            refine ok_cc (p_emit hcS g2' ll) (fun _ T3 g3 => ?_)
            have e1 : st ++ o ++ o1 ++ [(tK L p', 0)] = st ++ (o ++ (o1 ++ [(tK L p', 0)])) := by simp only [List.append_assoc]
            rw [e1] at g3
            refine hrec _ ⟨T3, rfl, Or.inl ⟨q, o ++ (o1 ++ [(tK L p', 0)]), g3, a1.2.1, ?_, ?_⟩⟩
            · rw [← e1, List.length_append, List.length_append]
              simp only [List.length_cons, List.length_nil]
              omega
            · rw [hf2]
              rw [rb_r, rb_a] at h4
              rw [← h4]
              refine rb_cg (fun p2 o2 _ => ?_)
              rw [rb_r]
              simp only [List.append_assoc, List.cons_append, List.nil_append]
        · rw [if_neg c, rb_r, List.append_nil] at h4
          have stp : b_X3_sum_7 Ef (x + 12) (nI w) rec (T', nI i) = some ((), T') := by
            clear h h1 hP hA hcS hrec exB h4
            simp (disch := first | omega | assumption | (repeat first | assumption | apply RS_pi | apply RS_wi | apply RS_wl | apply CS_pi | apply CS_wi | apply CS_wl | apply CS_wo | apply CS_xo | apply RI_w15 | apply RI_w16 | apply RI_w17 | apply RI_w26 | apply RI_w27 | apply RI_w28 | apply RI_p1000)) only [b_X3_sum_7, ↓reduceIte, ↓xg, ↓xi, ↓xl_wi, ↓xl_wl, ↓xl_pi, ↓xlI, ↓xlL, ↓xlN, xl, ↓xn, ↓xc, ↓xon, ↓xos, ↓ln_1, ↓ln_2, ↓ln_3, ↓ln_8, qli_0, qli_1, qli_2, qli_3, qli_4, qli_5, qli_6, qli_7, qli_8, qli_9, qli_10, qli_11, qli_12, qli_13, qli_14, qli_15, qli_16, qli_17, qli_18, qli_19, qli_20, qli_21, qli_22, qli_23, qli_24, qli_25, qli_26, qli_31, qli_32, qli_37, qli_39, qli_40, qli_41, qli_42, qli_43, qli_45, qli_47, qli_48, qli_49, qli_50, qli_56, qli_57, qli_59, qli_60, qli_61, qli_63, qli_64, qli_96, qli_97, qli_99, qli_100, qli_101, qli_122, qli_126, qli_143, qli_144, qli_192, qli_200, qli_201, qli_216, qli_255, qli_256, qli_780, qli_799, qli_800, qli_801, qli_802, qli_880, qli_1000, qli_5760, qli_7040, qli_7920, qli_1000000, in_t, le_t, le_f, lt_t, lt_f, eq_t, eq_f, nI_add, nI_sub', nI_mul, nI_clamp, m1_ne, m1_ne', m1_lt, m1_le, m1_nlt, m1_nle, m1_add, eq_self, not_true_eq_false, not_false_eq_true, ne_eq, Nat.reduceLeDiff, Nat.reduceLT, and_true, true_and, and_self, or_true, true_or, or_false, false_or, false_and, and_false, qK_pi, qK_pr, qK_wi, qK_wl, qK_wo, qK_xi, qK_xo, qfr_pi', qfr_wi', qfr_wl', qfr_wo', qfr_xi', qfr_xo', qfi_pr, qfi_wi, qfi_wl, qfi_wo, qfi_xi, qfi_xo, qln_pi, qln_pr, qln_wi, qln_wl, qln_wo, qln_xi, qln_xo, qri_pi, qri_pr, qri_wl, qri_wo, qri_xo, qrl_pi, qrl_pr, qrl_wi, qrl_wo, qrl_xi, qrl_xo, qro_pi, qro_pr, qro_wi, qro_wl, qro_xi, qnx_pi, qnx_pr, qnx_wi, qnx_wl, qnx_wo, qnx_xi, qnx_xo, qsa_pi, qsa_wi, qsa_wl, qsa_pr, qsa_wo, fi_pi_at, fi_pi_nk, fi_pi_na, ri_wi_at, ri_wi_ne, ri_wi_nj, rl_wl_at, rl_wl_ne, rl_wl_nj, fr_pr_at, fr_pr_nk, fr_pr_na, hc, k4]
          rw [stp, ← h4]
          exact ok_of rfl h1
      · rw [exB rec T' i e (by omega) h1, h2]
        exact ok_of rfl h1
    · rintro q rec ⟨T', rfl, hh⟩
      rcases hh with ⟨p', o, h1, h2, h3, h4⟩ | ⟨e, h1, h2⟩
      · have stp : b_X3_sum_7 Ef (x + 12) (nI w) rec (T', nI 800) = some ((), T') := by
          clear h h1 hP hA hcS exB h4
          simp (disch := first | omega | assumption | (repeat first | assumption | apply RS_pi | apply RS_wi | apply RS_wl | apply CS_pi | apply CS_wi | apply CS_wl | apply CS_wo | apply CS_xo | apply RI_w15 | apply RI_w16 | apply RI_w17 | apply RI_w26 | apply RI_w27 | apply RI_w28 | apply RI_p1000)) only [b_X3_sum_7, ↓reduceIte, ↓xg, ↓xi, ↓xl_wi, ↓xl_wl, ↓xl_pi, ↓xlI, ↓xlL, ↓xlN, xl, ↓xn, ↓xc, ↓xon, ↓xos, ↓ln_1, ↓ln_2, ↓ln_3, ↓ln_8, qli_0, qli_1, qli_2, qli_3, qli_4, qli_5, qli_6, qli_7, qli_8, qli_9, qli_10, qli_11, qli_12, qli_13, qli_14, qli_15, qli_16, qli_17, qli_18, qli_19, qli_20, qli_21, qli_22, qli_23, qli_24, qli_25, qli_26, qli_31, qli_32, qli_37, qli_39, qli_40, qli_41, qli_42, qli_43, qli_45, qli_47, qli_48, qli_49, qli_50, qli_56, qli_57, qli_59, qli_60, qli_61, qli_63, qli_64, qli_96, qli_97, qli_99, qli_100, qli_101, qli_122, qli_126, qli_143, qli_144, qli_192, qli_200, qli_201, qli_216, qli_255, qli_256, qli_780, qli_799, qli_800, qli_801, qli_802, qli_880, qli_1000, qli_5760, qli_7040, qli_7920, qli_1000000, in_t, le_t, le_f, lt_t, lt_f, eq_t, eq_f, nI_add, nI_sub', nI_mul, nI_clamp, m1_ne, m1_ne', m1_lt, m1_le, m1_nlt, m1_nle, m1_add, eq_self, not_true_eq_false, not_false_eq_true, ne_eq, Nat.reduceLeDiff, Nat.reduceLT, and_true, true_and, and_self, or_true, true_or, or_false, false_or, false_and, and_false, qK_pi, qK_pr, qK_wi, qK_wl, qK_wo, qK_xi, qK_xo, qfr_pi', qfr_wi', qfr_wl', qfr_wo', qfr_xi', qfr_xo', qfi_pr, qfi_wi, qfi_wl, qfi_wo, qfi_xi, qfi_xo, qln_pi, qln_pr, qln_wi, qln_wl, qln_wo, qln_xi, qln_xo, qri_pi, qri_pr, qri_wl, qri_wo, qri_xo, qrl_pi, qrl_pr, qrl_wi, qrl_wo, qrl_xi, qrl_xo, qro_pi, qro_pr, qro_wi, qro_wl, qro_xi, qnx_pi, qnx_pr, qnx_wi, qnx_wl, qnx_wo, qnx_xi, qnx_xo, qsa_pi, qsa_wi, qsa_wl, qsa_pr, qsa_wo, fi_pi_at, fi_pi_nk, fi_pi_na, ri_wi_at, ri_wi_ne, ri_wi_nj, rl_wl_at, rl_wl_ne, rl_wl_nj, fr_pr_at, fr_pr_nk, fr_pr_na]
        have h4' : rb (Sum.inr (p', []) : rT) (fun p2 o2 => (Sum.inr (p2, o ++ o2) : rT)) = G := h4
        rw [rb_r, List.append_nil] at h4'
        rw [stp, ← h4']
        exact ok_of rfl h1
      · rw [exB rec T' 800 e (by omega) h1, h2]
        exact ok_of rfl h1
    · rw [hG]
      show rb (xSumR L E w 800 p) _ = _
      cases xSumR L E w 800 p with
      | inl e => rfl
      | inr q => rfl
  · show ok (c_w (b_X3_sum_7 Ef (x + 12) (nI w)) c_N (T, nI 0)) _
    have : c_w (b_X3_sum_7 Ef (x + 12) (nI w)) c_N (T, nI 0) = some ((), T) := w_cnt0 0 (fun i => (T, nI i)) (fun i hi => absurd hi (Nat.not_lt_zero _)) (fun rec => exB rec T 0 e (by omega) h) c_N 0 (by omega) (N_big (by omega))
    rw [this]
    exact ok_of rfl h
end CQ
