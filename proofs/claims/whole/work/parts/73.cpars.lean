/-! text: the class's parser -/
section CP
variable {β : Type} {S S' S0 T : st_T} {m x v n : Nat} {M : mT} {A : aT} {L : List (Nat × Nat × Nat)} {w p : Nat} {st rs : List (Nat × Nat)} {mn e : Nat}
theorem ok_gt {c : Prop} [Decidable c] {k : Option (β × st_T)} {Q : β → st_T → Prop} (h : c) (h2 : ok k Q) : ok (c_g c k) Q := by rw [g_t h]; exact h2
theorem ok_it {c : Prop} [Decidable c] {a b : Option (β × st_T)} {Q : β → st_T → Prop} (h : c) (h2 : ok a Q) : ok (c_i c a b) Q := by rw [i_t h]; exact h2
theorem ok_if {c : Prop} [Decidable c] {a b : Option (β × st_T)} {Q : β → st_T → Prop} (h : ¬ c) (h2 : ok b Q) : ok (c_i c a b) Q := by rw [i_f h]; exact h2
theorem ok_nn {o : Option Nat} {q : Nat} {k : Nat → Option (β × st_T)} {Q : β → st_T → Prop} (h : o = some q) (h2 : ok (k q) Q) : ok (c_n o k) Q := by rw [h]; exact h2
theorem eqT {a b : Nat} (h : a = b) : nI a = nI b := congrArg nI h
theorem neF {a b : Nat} (h : a ≠ b) (ha : a < 2 ^ 31) (hb : b < 2 ^ 31) : ¬ nI a = nI b := fun z => h ((nI_eq ha hb).mp z)
def PG (S : st_T) (x : Nat) (L : List (Nat × Nat × Nat)) (T : st_T) (p : Nat) (st rs : List (Nat × Nat)) (mn : Nat) : Prop := fq (kR x) (kF x) S T ∧ TokS T x L ∧ st_fi T 409 (x + 12) = nI p ∧ st_fi T 410 (x + 12) = nI (tK L p) ∧ st_fi T 408 (x + 12) = nI 0 ∧ st_fi T 406 (x + 12) = nI st.length ∧ (∀ i, i < st.length → st_ri T (x + 19) i = nI (st.getD i (0, 0)).1 ∧ st_ri T (x + 20) i = nI (st.getD i (0, 0)).2) ∧ st_fi T 405 (x + 12) = nI rs.length ∧ (∀ i, i < rs.length → st_ri T (x + 17) i = nI (rs.getD i (0, 0)).1 ∧ st_ri T (x + 18) i = nI (rs.getD i (0, 0)).2) ∧ st_fi T 407 (x + 12) = nI mn
def PB (S : st_T) (x : Nat) (L : List (Nat × Nat × Nat)) (T : st_T) (e : Nat) : Prop := fq (kR x) (kF x) S T ∧ TokS T x L ∧ st_fi T 410 (x + 12) = nI 0 ∧ st_fi T 408 (x + 12) = nI e ∧ 1 ≤ e ∧ e ≤ 20000 ∧ (∃ u, u ≤ 800 ∧ st_fi T 406 (x + 12) = nI u) ∧ ∃ u, u ≤ 24 ∧ st_fi T 405 (x + 12) = nI u
theorem kF_12 {k : Nat} (h1 : 405 ≤ k) (h2 : k ≤ 410) : kF x k (x + 12) := Or.inr (Or.inl ⟨rfl, h1, h2⟩)
theorem TokS_pi {k : Nat} {u : Int32} (h : TokS T x L) (hk : k ≠ 703) : TokS (st_pi T k (x + 12) u) x L := by
  refine ⟨?_, h.2⟩
  rw [fi_pi_nk _ _ _ _ _ _ (by omega)]
  exact h.1
theorem PG_mv {p' : Nat} (h : PG S x L T p st rs mn) : PG S x L (st_pi (st_pi T 409 (x + 12) (nI p')) 410 (x + 12) (nI (tK L p'))) p' st rs mn := by
  obtain ⟨h1, h2, h3, h4, h5, h6, h7, h8, h9, h10⟩ := h
  refine ⟨fq_pi (fq_pi h1 (kF_12 (by omega) (by omega))) (kF_12 (by omega) (by omega)), TokS_pi (TokS_pi h2 (by omega)) (by omega), ?_, fi_pi_at _ _ _ _, ?_, ?_, h7, ?_, h9, ?_⟩
  · rw [fi_pi_nk _ _ _ _ _ _ (by omega), fi_pi_at]
  · simp (disch := omega) only [fi_pi_nk]; exact h5
  · simp (disch := omega) only [fi_pi_nk]; exact h6
  · simp (disch := omega) only [fi_pi_nk]; exact h8
  · simp (disch := omega) only [fi_pi_nk]; exact h10
theorem p_move (hcS : CS S x) (hL : LG L n) (h : PG S x L T p st rs mn) {p' : Nat} (hp : p' ≤ n) : ok (f_X3_moveTo T (x + 12) (nI p')) (fun _ T' => PG S x L T' p' st rs mn) := by
  have hc := CS_fq hcS h.1
  have t1 := h.2.1.1
  have hn := hL.2.1
  rw [hL.1] at t1
  have t2 := (h.2.1.2 p' (by rw [hL.1]; omega)).1
  have st0 : f_X3_moveTo T (x + 12) (nI p') = some ((), st_pi (st_pi T 409 (x + 12) (nI p')) 410 (x + 12) (nI (tK L p'))) := by
    unfold f_X3_moveTo tK
    generalize (L.getD p' (0, 0, 0)).1 = u at *
    clear h hL
    simp (disch := first | omega | assumption | (repeat first | assumption | apply RS_pi | apply RS_wi | apply RS_wl | apply CS_pi | apply CS_wi | apply CS_wl | apply CS_wo | apply CS_xo | apply RI_w15 | apply RI_w16 | apply RI_w17 | apply RI_w26 | apply RI_w27 | apply RI_w28 | apply RI_p1000)) only [↓reduceIte, ↓xg, ↓xi, ↓xl_wi, ↓xl_wl, ↓xl_pi, ↓xlI, ↓xlL, ↓xlN, xl, ↓xn, ↓xc, ↓xon, ↓xos, ↓ln_1, ↓ln_2, ↓ln_3, ↓ln_8, qli_0, qli_1, qli_2, qli_3, qli_4, qli_5, qli_6, qli_7, qli_8, qli_9, qli_10, qli_11, qli_12, qli_13, qli_14, qli_15, qli_16, qli_17, qli_18, qli_19, qli_20, qli_21, qli_22, qli_23, qli_24, qli_25, qli_26, qli_31, qli_32, qli_37, qli_39, qli_40, qli_41, qli_42, qli_43, qli_45, qli_47, qli_48, qli_49, qli_50, qli_56, qli_57, qli_59, qli_60, qli_61, qli_63, qli_64, qli_96, qli_97, qli_99, qli_100, qli_101, qli_122, qli_126, qli_143, qli_144, qli_192, qli_200, qli_201, qli_216, qli_255, qli_256, qli_780, qli_799, qli_800, qli_801, qli_802, qli_880, qli_1000, qli_5760, qli_7040, qli_7920, qli_1000000, in_t, le_t, le_f, lt_t, lt_f, eq_t, eq_f, nI_add, nI_sub', nI_mul, nI_clamp, m1_ne, m1_ne', m1_lt, m1_le, m1_nlt, m1_nle, m1_add, eq_self, not_true_eq_false, not_false_eq_true, ne_eq, Nat.reduceLeDiff, Nat.reduceLT, and_true, true_and, and_self, or_true, true_or, or_false, false_or, false_and, and_false, qK_pi, qK_pr, qK_wi, qK_wl, qK_wo, qK_xi, qK_xo, qfr_pi', qfr_wi', qfr_wl', qfr_wo', qfr_xi', qfr_xo', qfi_pr, qfi_wi, qfi_wl, qfi_wo, qfi_xi, qfi_xo, qln_pi, qln_pr, qln_wi, qln_wl, qln_wo, qln_xi, qln_xo, qri_pi, qri_pr, qri_wl, qri_wo, qri_xo, qrl_pi, qrl_pr, qrl_wi, qrl_wo, qrl_xi, qrl_xo, qro_pi, qro_pr, qro_wi, qro_wl, qro_xi, qnx_pi, qnx_pr, qnx_wi, qnx_wl, qnx_wo, qnx_xi, qnx_xo, qsa_pi, qsa_wi, qsa_wl, qsa_pr, qsa_wo, fi_pi_at, fi_pi_nk, fi_pi_na, ri_wi_at, ri_wi_ne, ri_wi_nj, rl_wl_at, rl_wl_ne, rl_wl_nj, fr_pr_at, fr_pr_nk, fr_pr_na, hc, t1, t2, ↓cn_400, ↓cn_700]
  exact ok_of st0 (PG_mv h)
theorem p_fail {how : Nat} (hcS : CS S x) (hL : LG L n) (h : PG S x L T p st rs mn) (hp : p ≤ n) (hst : st.length ≤ 800) (hrs : rs.length ≤ 24) (h1 : 1 ≤ how) (h2 : how ≤ 5) : ok (f_X3_fail T (x + 12) (nI how)) (fun _ T' => PB S x L T' (how + 16 * tP L p)) := by
  have hc := CS_fq hcS h.1
  obtain ⟨g1, g2, g3, g4, g5, g6, g7, g8, g9, g10⟩ := h
  have t1 := g2.1
  have hn := hL.2.1
  rw [hL.1] at t1
  have t2 := (g2.2 p (by rw [hL.1]; omega)).2.2
  have t3 := (hL.2.2.2.2 p hp).2.2
  have st0 : f_X3_fail T (x + 12) (nI how) = some ((), st_pi (st_pi T 408 (x + 12) (nI (how + 16 * tP L p))) 410 (x + 12) (nI 0)) := by
    unfold f_X3_fail j_X3_fail_42
    have e0 : (L.getD p (0, 0, 0)).2.2 = tP L p := rfl
    rw [e0] at t2
    generalize tP L p = u at *
    clear hL g1 g2 g7 g9 e0
    simp (disch := first | omega | assumption | (repeat first | assumption | apply RS_pi | apply RS_wi | apply RS_wl | apply CS_pi | apply CS_wi | apply CS_wl | apply CS_wo | apply CS_xo | apply RI_w15 | apply RI_w16 | apply RI_w17 | apply RI_w26 | apply RI_w27 | apply RI_w28 | apply RI_p1000)) only [↓reduceIte, ↓xg, ↓xi, ↓xl_wi, ↓xl_wl, ↓xl_pi, ↓xlI, ↓xlL, ↓xlN, xl, ↓xn, ↓xc, ↓xon, ↓xos, ↓ln_1, ↓ln_2, ↓ln_3, ↓ln_8, qli_0, qli_1, qli_2, qli_3, qli_4, qli_5, qli_6, qli_7, qli_8, qli_9, qli_10, qli_11, qli_12, qli_13, qli_14, qli_15, qli_16, qli_17, qli_18, qli_19, qli_20, qli_21, qli_22, qli_23, qli_24, qli_25, qli_26, qli_31, qli_32, qli_37, qli_39, qli_40, qli_41, qli_42, qli_43, qli_45, qli_47, qli_48, qli_49, qli_50, qli_56, qli_57, qli_59, qli_60, qli_61, qli_63, qli_64, qli_96, qli_97, qli_99, qli_100, qli_101, qli_122, qli_126, qli_143, qli_144, qli_192, qli_200, qli_201, qli_216, qli_255, qli_256, qli_780, qli_799, qli_800, qli_801, qli_802, qli_880, qli_1000, qli_5760, qli_7040, qli_7920, qli_1000000, in_t, le_t, le_f, lt_t, lt_f, eq_t, eq_f, nI_add, nI_sub', nI_mul, nI_clamp, m1_ne, m1_ne', m1_lt, m1_le, m1_nlt, m1_nle, m1_add, eq_self, not_true_eq_false, not_false_eq_true, ne_eq, Nat.reduceLeDiff, Nat.reduceLT, and_true, true_and, and_self, or_true, true_or, or_false, false_or, false_and, and_false, qK_pi, qK_pr, qK_wi, qK_wl, qK_wo, qK_xi, qK_xo, qfr_pi', qfr_wi', qfr_wl', qfr_wo', qfr_xi', qfr_xo', qfi_pr, qfi_wi, qfi_wl, qfi_wo, qfi_xi, qfi_xo, qln_pi, qln_pr, qln_wi, qln_wl, qln_wo, qln_xi, qln_xo, qri_pi, qri_pr, qri_wl, qri_wo, qri_xo, qrl_pi, qrl_pr, qrl_wi, qrl_wo, qrl_xi, qrl_xo, qro_pi, qro_pr, qro_wi, qro_wl, qro_xi, qnx_pi, qnx_pr, qnx_wi, qnx_wl, qnx_wo, qnx_xi, qnx_xo, qsa_pi, qsa_wi, qsa_wl, qsa_pr, qsa_wo, fi_pi_at, fi_pi_nk, fi_pi_na, ri_wi_at, ri_wi_ne, ri_wi_nj, rl_wl_at, rl_wl_ne, rl_wl_nj, fr_pr_at, fr_pr_nk, fr_pr_na, hc, t1, t2, g3, g5, ↓cn_400, ↓cn_702]
  refine ok_of st0 ⟨fq_pi (fq_pi g1 (kF_12 (by omega) (by omega))) (kF_12 (by omega) (by omega)), TokS_pi (TokS_pi g2 (by omega)) (by omega), fi_pi_at _ _ _ _, ?_, by omega, by omega, ⟨st.length, hst, ?_⟩, ⟨rs.length, hrs, ?_⟩⟩
  · rw [fi_pi_nk _ _ _ _ _ _ (by omega), fi_pi_at]
  · simp (disch := omega) only [fi_pi_nk]; exact g6
  · simp (disch := omega) only [fi_pi_nk]; exact g8
theorem p_failB {how : Int32} (hcS : CS S x) (h : PB S x L T e) : ok (f_X3_fail T (x + 12) how) (fun _ T' => PB S x L T' e) := by
  have hc := CS_fq hcS h.1
  obtain ⟨g1, g2, g3, g4, g5, g6, ⟨u, u1, u2⟩, ⟨r, r1, r2⟩⟩ := h
  have st0 : f_X3_fail T (x + 12) how = some ((), st_pi T 410 (x + 12) (nI 0)) := by
    unfold f_X3_fail j_X3_fail_42
    clear g1 g2
    simp (disch := first | omega | assumption | (repeat first | assumption | apply RS_pi | apply RS_wi | apply RS_wl | apply CS_pi | apply CS_wi | apply CS_wl | apply CS_wo | apply CS_xo | apply RI_w15 | apply RI_w16 | apply RI_w17 | apply RI_w26 | apply RI_w27 | apply RI_w28 | apply RI_p1000)) only [↓reduceIte, ↓xg, ↓xi, ↓xl_wi, ↓xl_wl, ↓xl_pi, ↓xlI, ↓xlL, ↓xlN, xl, ↓xn, ↓xc, ↓xon, ↓xos, ↓ln_1, ↓ln_2, ↓ln_3, ↓ln_8, qli_0, qli_1, qli_2, qli_3, qli_4, qli_5, qli_6, qli_7, qli_8, qli_9, qli_10, qli_11, qli_12, qli_13, qli_14, qli_15, qli_16, qli_17, qli_18, qli_19, qli_20, qli_21, qli_22, qli_23, qli_24, qli_25, qli_26, qli_31, qli_32, qli_37, qli_39, qli_40, qli_41, qli_42, qli_43, qli_45, qli_47, qli_48, qli_49, qli_50, qli_56, qli_57, qli_59, qli_60, qli_61, qli_63, qli_64, qli_96, qli_97, qli_99, qli_100, qli_101, qli_122, qli_126, qli_143, qli_144, qli_192, qli_200, qli_201, qli_216, qli_255, qli_256, qli_780, qli_799, qli_800, qli_801, qli_802, qli_880, qli_1000, qli_5760, qli_7040, qli_7920, qli_1000000, in_t, le_t, le_f, lt_t, lt_f, eq_t, eq_f, nI_add, nI_sub', nI_mul, nI_clamp, m1_ne, m1_ne', m1_lt, m1_le, m1_nlt, m1_nle, m1_add, eq_self, not_true_eq_false, not_false_eq_true, ne_eq, Nat.reduceLeDiff, Nat.reduceLT, and_true, true_and, and_self, or_true, true_or, or_false, false_or, false_and, and_false, qK_pi, qK_pr, qK_wi, qK_wl, qK_wo, qK_xi, qK_xo, qfr_pi', qfr_wi', qfr_wl', qfr_wo', qfr_xi', qfr_xo', qfi_pr, qfi_wi, qfi_wl, qfi_wo, qfi_xi, qfi_xo, qln_pi, qln_pr, qln_wi, qln_wl, qln_wo, qln_xi, qln_xo, qri_pi, qri_pr, qri_wl, qri_wo, qri_xo, qrl_pi, qrl_pr, qrl_wi, qrl_wo, qrl_xi, qrl_xo, qro_pi, qro_pr, qro_wi, qro_wl, qro_xi, qnx_pi, qnx_pr, qnx_wi, qnx_wl, qnx_wo, qnx_xi, qnx_xo, qsa_pi, qsa_wi, qsa_wl, qsa_pr, qsa_wo, fi_pi_at, fi_pi_nk, fi_pi_na, ri_wi_at, ri_wi_ne, ri_wi_nj, rl_wl_at, rl_wl_ne, rl_wl_nj, fr_pr_at, fr_pr_nk, fr_pr_na, hc, g4]
  refine ok_of st0 ⟨fq_pi g1 (kF_12 (by omega) (by omega)), TokS_pi g2 (by omega), fi_pi_at _ _ _ _, ?_, g5, g6, ⟨u, u1, ?_⟩, ⟨r, r1, ?_⟩⟩
  · rw [fi_pi_nk _ _ _ _ _ _ (by omega)]; exact g4
  · rw [fi_pi_nk _ _ _ _ _ _ (by omega)]; exact u2
  · rw [fi_pi_nk _ _ _ _ _ _ (by omega)]; exact r2
theorem p_take {k : Nat} (hcS : CS S x) (hL : LG L n) (h : PG S x L T p st rs mn) (hp : p ≤ n) (hst : st.length ≤ 800) (hrs : rs.length ≤ 24) (hk : k ≠ 1) (hk2 : k ≤ 23) : ok (f_X3_take T (x + 12) (nI k)) (fun _ T' => if tK L p = k then PG S x L T' (p + 1) st rs mn else PB S x L T' (1 + 16 * tP L p)) := by
  have hc := CS_fq hcS h.1
  have k3 := h.2.2.1
  have k4 := h.2.2.2.1
  have kb := (hL.2.2.2.2 p hp).1
  unfold f_X3_take
  refine ok_gt hc.2.2.2.2.2.2.2.2.2.2.2.2.1 ?_
  by_cases c : tK L p = k
  · have lt := LG_lt hL hp (by omega)
    refine ok_it (by rw [k4]; exact eqT c) ?_
    rw [k3]
    simp only [if_pos c]
    have e1 : nI p + 1 = nI (p + 1) := nI_add p 1
    rw [e1]
    exact ok_cc (p_move hcS hL h (show p + 1 ≤ n by omega)) (fun r T' h' => ok_of rfl h')
  · refine ok_if (by rw [k4]; exact neF c (by omega) (by omega)) ?_
    simp only [if_neg c]
    exact ok_cc (p_fail (how := 1) hcS hL h hp hst hrs (by omega) (by omega)) (fun r T' h' => ok_of rfl h')
theorem p_takeB {k : Nat} (hcS : CS S x) (h : PB S x L T e) (hk : k ≠ 0) (hk2 : k ≤ 23) : ok (f_X3_take T (x + 12) (nI k)) (fun _ T' => PB S x L T' e) := by
  have hc := CS_fq hcS h.1
  have k3 := h.2.2.1
  unfold f_X3_take
  refine ok_gt hc.2.2.2.2.2.2.2.2.2.2.2.2.1 ?_
  refine ok_if (by rw [k3]; exact neF (by omega) (by omega) (by omega)) ?_
  exact ok_cc (p_failB hcS h) (fun r T' h' => ok_of rfl h')
theorem p_num {lo hi : Nat} (hcS : CS S x) (hL : LG L n) (h : PG S x L T p st rs mn) (hp : p ≤ n) (hst : st.length ≤ 800) (hrs : rs.length ≤ 24) (hlo : lo ≤ 1) (hhi : hi < 2 ^ 31) : ok (f_X3_takeNumber T (x + 12) (nI lo) (nI hi)) (fun r T' => if tK L p = 2 then r = nI (tV L p) ∧ (if lo ≤ tV L p ∧ tV L p ≤ hi then PG S x L T' (p + 1) st rs mn else PB S x L T' (4 + 16 * tP L p)) else PB S x L T' (1 + 16 * tP L p)) := by
  have hc := CS_fq hcS h.1
  have k3 := h.2.2.1
  have k4 := h.2.2.2.1
  have t1 := h.2.1.1
  have hn := hL.2.1
  rw [hL.1] at t1
  have t2 : st_ri T (x + 15) p = nI (tV L p) := (h.2.1.2 p (by rw [hL.1]; omega)).2.1
  have kb := hL.2.2.2.2 p hp
  unfold f_X3_takeNumber
  refine ok_gt hc.2.2.2.2.2.2.2.2.2.2.2.2.1 ?_
  by_cases c : tK L p = 2
  · have lt := LG_lt hL hp (by omega)
    simp only [if_pos c]
    refine ok_it (by rw [k4]; exact eqT c) ?_
    rw [cn_400 hc]
    refine ok_gt hc.2.2.2.2.2.2.2.2.2.2.2.2.2.1 ?_
    refine ok_it (by rw [k3, t1]; exact nI_lt (by omega) (by omega)) ?_
    rw [cn_701 hc]
    refine ok_gt hc.2.2.2.2.2.2.2.2.2.2.2.2.2.2.2.1 ?_
    have hin : c_in (st_fi T 409 (x + 12)) (st_ln T (x + 15)) := by
      rw [k3]
      have : st_ln T (x + 15) = 801 := by simp only [hc]
      rw [this]
      exact of_eq_true (in_t (by omega) (by omega))
    refine ok_gt hin ?_
    have e1 : st_ri T (x + 15) (st_fi T 409 (x + 12)).toNatClampNeg = nI (tV L p) := by
      rw [k3, nI_clamp (by omega)]
      exact t2
    rw [e1]
    rw [ok_l, cW]
    by_cases c2 : tV L p < lo
    · rw [if_pos (nI_lt c2 (by omega))]
      simp only [if_neg (show ¬ (lo ≤ tV L p ∧ tV L p ≤ hi) by omega)]
      refine ok_it (by first | trivial | rfl) ?_
      refine ok_gt hc.2.2.2.2.2.2.2.2.2.2.2.2.1 ?_
      exact ok_cc (p_fail (how := 4) hcS hL h hp hst hrs (by omega) (by omega)) (fun r T' h' => ok_of rfl ⟨rfl, h'⟩)
    · rw [if_neg (nI_nlt (by omega) (by omega))]
      by_cases c3 : hi < tV L p
      · rw [if_pos (nI_lt c3 (by omega))]
        simp only [if_neg (show ¬ (lo ≤ tV L p ∧ tV L p ≤ hi) by omega)]
        refine ok_it (by first | trivial | rfl) ?_
        refine ok_gt hc.2.2.2.2.2.2.2.2.2.2.2.2.1 ?_
        exact ok_cc (p_fail (how := 4) hcS hL h hp hst hrs (by omega) (by omega)) (fun r T' h' => ok_of rfl ⟨rfl, h'⟩)
      · rw [if_neg (nI_nlt (by omega) (by omega))]
        simp only [if_pos (show lo ≤ tV L p ∧ tV L p ≤ hi by omega)]
        refine ok_if (by decide) ?_
        refine ok_gt hc.2.2.2.2.2.2.2.2.2.2.2.2.1 ?_
        rw [k3]
        have e2 : nI p + 1 = nI (p + 1) := nI_add p 1
        rw [e2]
        exact ok_cc (p_move hcS hL h (show p + 1 ≤ n by omega)) (fun r T' h' => ok_of rfl ⟨rfl, h'⟩)
  · simp only [if_neg c]
    refine ok_if (by rw [k4]; exact neF (a := tK L p) (b := 2) c (by omega) (by omega)) ?_
    unfold j_X3_takeNumber_22
    refine ok_gt hc.2.2.2.2.2.2.2.2.2.2.2.2.1 ?_
    exact ok_cc (p_fail (how := 1) hcS hL h hp hst hrs (by omega) (by omega)) (fun r T' h' => ok_of rfl h')
theorem p_numB {lo hi : Int32} (hcS : CS S x) (h : PB S x L T e) : ok (f_X3_takeNumber T (x + 12) lo hi) (fun _ T' => PB S x L T' e) := by
  have hc := CS_fq hcS h.1
  have k3 := h.2.2.1
  unfold f_X3_takeNumber
  refine ok_gt hc.2.2.2.2.2.2.2.2.2.2.2.2.1 ?_
  refine ok_if (by rw [k3]; exact neF (a := 0) (b := 2) (by omega) (by omega) (by omega)) ?_
  unfold j_X3_takeNumber_22
  refine ok_gt hc.2.2.2.2.2.2.2.2.2.2.2.2.1 ?_
  exact ok_cc (p_failB hcS h) (fun r T' h' => ok_of rfl h')
theorem p_emit {k u : Nat} (hcS : CS S x) (h : PG S x L T p st rs mn) (hst : st.length < 800) : ok (f_X3_emit T (x + 12) (nI k) (nI u)) (fun _ T' => PG S x L T' p (st ++ [(k, u)]) rs mn) := by
  have hc := CS_fq hcS h.1
  obtain ⟨g1, g2, g3, g4, g5, g6, g7, g8, g9, g10⟩ := h
  have st0 : f_X3_emit T (x + 12) (nI k) (nI u) = some ((), st_pi (st_wi (st_wi T (x + 19) st.length (nI k)) (x + 20) st.length (nI u)) 406 (x + 12) (nI (st.length + 1))) := by
    unfold f_X3_emit
    clear g1 g2 g7 g9
    simp (disch := first | omega | assumption | (repeat first | assumption | apply RS_pi | apply RS_wi | apply RS_wl | apply CS_pi | apply CS_wi | apply CS_wl | apply CS_wo | apply CS_xo | apply RI_w15 | apply RI_w16 | apply RI_w17 | apply RI_w26 | apply RI_w27 | apply RI_w28 | apply RI_p1000)) only [↓reduceIte, ↓xg, ↓xi, ↓xl_wi, ↓xl_wl, ↓xl_pi, ↓xlI, ↓xlL, ↓xlN, xl, ↓xn, ↓xc, ↓xon, ↓xos, ↓ln_1, ↓ln_2, ↓ln_3, ↓ln_8, qli_0, qli_1, qli_2, qli_3, qli_4, qli_5, qli_6, qli_7, qli_8, qli_9, qli_10, qli_11, qli_12, qli_13, qli_14, qli_15, qli_16, qli_17, qli_18, qli_19, qli_20, qli_21, qli_22, qli_23, qli_24, qli_25, qli_26, qli_31, qli_32, qli_37, qli_39, qli_40, qli_41, qli_42, qli_43, qli_45, qli_47, qli_48, qli_49, qli_50, qli_56, qli_57, qli_59, qli_60, qli_61, qli_63, qli_64, qli_96, qli_97, qli_99, qli_100, qli_101, qli_122, qli_126, qli_143, qli_144, qli_192, qli_200, qli_201, qli_216, qli_255, qli_256, qli_780, qli_799, qli_800, qli_801, qli_802, qli_880, qli_1000, qli_5760, qli_7040, qli_7920, qli_1000000, in_t, le_t, le_f, lt_t, lt_f, eq_t, eq_f, nI_add, nI_sub', nI_mul, nI_clamp, m1_ne, m1_ne', m1_lt, m1_le, m1_nlt, m1_nle, m1_add, eq_self, not_true_eq_false, not_false_eq_true, ne_eq, Nat.reduceLeDiff, Nat.reduceLT, and_true, true_and, and_self, or_true, true_or, or_false, false_or, false_and, and_false, qK_pi, qK_pr, qK_wi, qK_wl, qK_wo, qK_xi, qK_xo, qfr_pi', qfr_wi', qfr_wl', qfr_wo', qfr_xi', qfr_xo', qfi_pr, qfi_wi, qfi_wl, qfi_wo, qfi_xi, qfi_xo, qln_pi, qln_pr, qln_wi, qln_wl, qln_wo, qln_xi, qln_xo, qri_pi, qri_pr, qri_wl, qri_wo, qri_xo, qrl_pi, qrl_pr, qrl_wi, qrl_wo, qrl_xi, qrl_xo, qro_pi, qro_pr, qro_wi, qro_wl, qro_xi, qnx_pi, qnx_pr, qnx_wi, qnx_wl, qnx_wo, qnx_xi, qnx_xo, qsa_pi, qsa_wi, qsa_wl, qsa_pr, qsa_wo, fi_pi_at, fi_pi_nk, fi_pi_na, ri_wi_at, ri_wi_ne, ri_wi_nj, rl_wl_at, rl_wl_ne, rl_wl_nj, fr_pr_at, fr_pr_nk, fr_pr_na, hc, g6, ↓cn_403, ↓cn_404]
  refine ok_of st0 ⟨?_, ?_, ?_, ?_, ?_, ?_, fun i hi => ?_, ?_, ?_, ?_⟩
  · refine fq_pi (fq_wi (fq_wi g1 ?_) ?_) (kF_12 (by omega) (by omega))
    · unfold kR; omega
    · unfold kR; omega
  · refine TokS_pi (T := st_wi (st_wi T (x + 19) st.length (nI k)) (x + 20) st.length (nI u)) ⟨g2.1, fun i hi => ?_⟩ (by omega)
    simp (disch := omega) only [ri_wi_ne]
    exact g2.2 i hi
  · simp (disch := omega) only [fi_pi_nk, qfi_wi]; exact g3
  · simp (disch := omega) only [fi_pi_nk, qfi_wi]; exact g4
  · simp (disch := omega) only [fi_pi_nk, qfi_wi]; exact g5
  · rw [fi_pi_at, List.length_append]; rfl
  · rw [List.length_append] at hi
    have hi' : i < st.length + 1 := hi
    by_cases c : i = st.length
    · rw [c, getD_app_at]
      simp (disch := omega) only [qri_pi, ri_wi_ne, ri_wi_at]
      refine ⟨?_, ?_⟩ <;> first | trivial | rfl
    · rw [getD_app (by omega)]
      simp (disch := omega) only [qri_pi, ri_wi_ne, ri_wi_nj]
      exact g7 i (by omega)
  · simp (disch := omega) only [fi_pi_nk, qfi_wi]; exact g8
  · simp (disch := omega) only [qri_pi, ri_wi_ne]; exact g9
  · simp (disch := omega) only [fi_pi_nk, qfi_wi]; exact g10
theorem p_emitB {y z : Int32} (hcS : CS S x) (h : PB S x L T e) : ok (f_X3_emit T (x + 12) y z) (fun _ T' => PB S x L T' e) := by
  have hc := CS_fq hcS h.1
  obtain ⟨g1, g2, g3, g4, g5, g6, ⟨u, u1, u2⟩, ⟨r, r1, r2⟩⟩ := id h
  by_cases c : u = 800
  · have st0 : f_X3_emit T (x + 12) y z = some ((), T) := by
      unfold f_X3_emit
      clear g1 g2 h
      simp (disch := first | omega | assumption | (repeat first | assumption | apply RS_pi | apply RS_wi | apply RS_wl | apply CS_pi | apply CS_wi | apply CS_wl | apply CS_wo | apply CS_xo | apply RI_w15 | apply RI_w16 | apply RI_w17 | apply RI_w26 | apply RI_w27 | apply RI_w28 | apply RI_p1000)) only [↓reduceIte, ↓xg, ↓xi, ↓xl_wi, ↓xl_wl, ↓xl_pi, ↓xlI, ↓xlL, ↓xlN, xl, ↓xn, ↓xc, ↓xon, ↓xos, ↓ln_1, ↓ln_2, ↓ln_3, ↓ln_8, qli_0, qli_1, qli_2, qli_3, qli_4, qli_5, qli_6, qli_7, qli_8, qli_9, qli_10, qli_11, qli_12, qli_13, qli_14, qli_15, qli_16, qli_17, qli_18, qli_19, qli_20, qli_21, qli_22, qli_23, qli_24, qli_25, qli_26, qli_31, qli_32, qli_37, qli_39, qli_40, qli_41, qli_42, qli_43, qli_45, qli_47, qli_48, qli_49, qli_50, qli_56, qli_57, qli_59, qli_60, qli_61, qli_63, qli_64, qli_96, qli_97, qli_99, qli_100, qli_101, qli_122, qli_126, qli_143, qli_144, qli_192, qli_200, qli_201, qli_216, qli_255, qli_256, qli_780, qli_799, qli_800, qli_801, qli_802, qli_880, qli_1000, qli_5760, qli_7040, qli_7920, qli_1000000, in_t, le_t, le_f, lt_t, lt_f, eq_t, eq_f, nI_add, nI_sub', nI_mul, nI_clamp, m1_ne, m1_ne', m1_lt, m1_le, m1_nlt, m1_nle, m1_add, eq_self, not_true_eq_false, not_false_eq_true, ne_eq, Nat.reduceLeDiff, Nat.reduceLT, and_true, true_and, and_self, or_true, true_or, or_false, false_or, false_and, and_false, qK_pi, qK_pr, qK_wi, qK_wl, qK_wo, qK_xi, qK_xo, qfr_pi', qfr_wi', qfr_wl', qfr_wo', qfr_xi', qfr_xo', qfi_pr, qfi_wi, qfi_wl, qfi_wo, qfi_xi, qfi_xo, qln_pi, qln_pr, qln_wi, qln_wl, qln_wo, qln_xi, qln_xo, qri_pi, qri_pr, qri_wl, qri_wo, qri_xo, qrl_pi, qrl_pr, qrl_wi, qrl_wo, qrl_xi, qrl_xo, qro_pi, qro_pr, qro_wi, qro_wl, qro_xi, qnx_pi, qnx_pr, qnx_wi, qnx_wl, qnx_wo, qnx_xi, qnx_xo, qsa_pi, qsa_wi, qsa_wl, qsa_pr, qsa_wo, fi_pi_at, fi_pi_nk, fi_pi_na, ri_wi_at, ri_wi_ne, ri_wi_nj, rl_wl_at, rl_wl_ne, rl_wl_nj, fr_pr_at, fr_pr_nk, fr_pr_na, hc, u2]
    exact ok_of st0 h
  · have st0 : f_X3_emit T (x + 12) y z = some ((), st_pi (st_wi (st_wi T (x + 19) u y) (x + 20) u z) 406 (x + 12) (nI (u + 1))) := by
      unfold f_X3_emit
      clear g1 g2 h
      simp (disch := first | omega | assumption | (repeat first | assumption | apply RS_pi | apply RS_wi | apply RS_wl | apply CS_pi | apply CS_wi | apply CS_wl | apply CS_wo | apply CS_xo | apply RI_w15 | apply RI_w16 | apply RI_w17 | apply RI_w26 | apply RI_w27 | apply RI_w28 | apply RI_p1000)) only [↓reduceIte, ↓xg, ↓xi, ↓xl_wi, ↓xl_wl, ↓xl_pi, ↓xlI, ↓xlL, ↓xlN, xl, ↓xn, ↓xc, ↓xon, ↓xos, ↓ln_1, ↓ln_2, ↓ln_3, ↓ln_8, qli_0, qli_1, qli_2, qli_3, qli_4, qli_5, qli_6, qli_7, qli_8, qli_9, qli_10, qli_11, qli_12, qli_13, qli_14, qli_15, qli_16, qli_17, qli_18, qli_19, qli_20, qli_21, qli_22, qli_23, qli_24, qli_25, qli_26, qli_31, qli_32, qli_37, qli_39, qli_40, qli_41, qli_42, qli_43, qli_45, qli_47, qli_48, qli_49, qli_50, qli_56, qli_57, qli_59, qli_60, qli_61, qli_63, qli_64, qli_96, qli_97, qli_99, qli_100, qli_101, qli_122, qli_126, qli_143, qli_144, qli_192, qli_200, qli_201, qli_216, qli_255, qli_256, qli_780, qli_799, qli_800, qli_801, qli_802, qli_880, qli_1000, qli_5760, qli_7040, qli_7920, qli_1000000, in_t, le_t, le_f, lt_t, lt_f, eq_t, eq_f, nI_add, nI_sub', nI_mul, nI_clamp, m1_ne, m1_ne', m1_lt, m1_le, m1_nlt, m1_nle, m1_add, eq_self, not_true_eq_false, not_false_eq_true, ne_eq, Nat.reduceLeDiff, Nat.reduceLT, and_true, true_and, and_self, or_true, true_or, or_false, false_or, false_and, and_false, qK_pi, qK_pr, qK_wi, qK_wl, qK_wo, qK_xi, qK_xo, qfr_pi', qfr_wi', qfr_wl', qfr_wo', qfr_xi', qfr_xo', qfi_pr, qfi_wi, qfi_wl, qfi_wo, qfi_xi, qfi_xo, qln_pi, qln_pr, qln_wi, qln_wl, qln_wo, qln_xi, qln_xo, qri_pi, qri_pr, qri_wl, qri_wo, qri_xo, qrl_pi, qrl_pr, qrl_wi, qrl_wo, qrl_xi, qrl_xo, qro_pi, qro_pr, qro_wi, qro_wl, qro_xi, qnx_pi, qnx_pr, qnx_wi, qnx_wl, qnx_wo, qnx_xi, qnx_xo, qsa_pi, qsa_wi, qsa_wl, qsa_pr, qsa_wo, fi_pi_at, fi_pi_nk, fi_pi_na, ri_wi_at, ri_wi_ne, ri_wi_nj, rl_wl_at, rl_wl_ne, rl_wl_nj, fr_pr_at, fr_pr_nk, fr_pr_na, hc, u2, ↓cn_403, ↓cn_404]
    refine ok_of st0 ⟨?_, ?_, ?_, ?_, g5, g6, ⟨u + 1, by omega, fi_pi_at _ _ _ _⟩, ⟨r, r1, ?_⟩⟩
    · refine fq_pi (fq_wi (fq_wi g1 ?_) ?_) (kF_12 (by omega) (by omega))
      · unfold kR; omega
      · unfold kR; omega
    · refine TokS_pi (T := st_wi (st_wi T (x + 19) u y) (x + 20) u z) ⟨g2.1, fun i hi => ?_⟩ (by omega)
      simp (disch := omega) only [ri_wi_ne]
      exact g2.2 i hi
    · simp (disch := omega) only [fi_pi_nk, qfi_wi]; exact g3
    · simp (disch := omega) only [fi_pi_nk, qfi_wi]; exact g4
    · simp (disch := omega) only [fi_pi_nk, qfi_wi]; exact r2
end CP
