/-! text: the reference's parser, parts -/
section RQ
variable {β : Type} {S S' S0 T : st_T} {m x v n : Nat} {M : mT} {A : aT} {L : List (Nat × Nat × Nat)} {w p e u : Nat} {cs rr : List (Nat × Nat)} {nr mn : Nat} {fr rest : List (Nat × Nat × Nat)}
def rc (q : Nat × Nat) : Nat × Nat := (eo q, ea q)
def em (k : Nat) : Nat := if k = 0 then 0 else eo (k, 0)
def QG (S : st_T) (m : Nat) (T : st_T) (p : Nat) (cs rr : List (Nat × Nat)) (nr mn : Nat) : Prop := QF S m T ∧ st_fi T 1007 m = nI p ∧ st_fi T 1008 m = nI 0 ∧ st_fi T 1018 m = nI cs.length ∧ (∀ j, j < cs.length → st_ri T (m + 10) (7040 + j) = nI (cs.getD j (0, 0)).1 ∧ st_ri T (m + 11) (7040 + j) = nI (cs.getD j (0, 0)).2) ∧ st_ri T (m + 6) 8 = nI nr ∧ st_ri T (m + 7) 8 = nI mn ∧ ∀ i, i < rr.length → st_ri T (m + 8) (192 + i) = nI (rr.getD i (0, 0)).1 ∧ st_ri T (m + 9) (192 + i) = nI (rr.getD i (0, 0)).2
def QW (T : st_T) (m : Nat) (fr : List (Nat × Nat × Nat)) : Prop := st_fi T 1019 m = nI (fr.length - 1) ∧ ∀ i, i < fr.length → st_ri T (m + 12) i = nI (em (fr.getD (fr.length - 1 - i) (0, 0, 0)).1) ∧ st_ri T (m + 13) i = nI (em (fr.getD (fr.length - 1 - i) (0, 0, 0)).2.1) ∧ st_ri T (m + 14) i = nI (em (fr.getD (fr.length - 1 - i) (0, 0, 0)).2.2)
def QB (S : st_T) (m : Nat) (T : st_T) (e u : Nat) : Prop := QF S m T ∧ st_fi T 1008 m = nI e ∧ 1 ≤ e ∧ e ≤ 20000 ∧ st_fi T 1018 m = nI u
theorem QG_at {p' : Nat} (h : QG S m T p cs rr nr mn) : QG S m (st_pi T 1007 m (nI p')) p' cs rr nr mn := by
  obtain ⟨h1, h2, h3, h4, h5, h6, h7, h8⟩ := h
  refine ⟨QF_pi h1 (by omega), fi_pi_at _ _ _ _, ?_, ?_, h5, h6, h7, h8⟩
  · rw [fi_pi_nk _ _ _ _ _ _ (by omega)]; exact h3
  · rw [fi_pi_nk _ _ _ _ _ _ (by omega)]; exact h4
theorem QG_d {y : Int32} (h : QG S m T p cs rr nr mn) : QG S m (st_pi T 1019 m y) p cs rr nr mn := by
  obtain ⟨h1, h2, h3, h4, h5, h6, h7, h8⟩ := h
  refine ⟨QF_pi h1 (by omega), ?_, ?_, ?_, h5, h6, h7, h8⟩
  · rw [fi_pi_nk _ _ _ _ _ _ (by omega)]; exact h2
  · rw [fi_pi_nk _ _ _ _ _ _ (by omega)]; exact h3
  · rw [fi_pi_nk _ _ _ _ _ _ (by omega)]; exact h4
theorem QG_em {a b : Nat} (h : QG S m T p cs rr nr mn) : QG S m (st_pi (st_wi (st_wi T (m + 10) (7040 + cs.length) (nI a)) (m + 11) (7040 + cs.length) (nI b)) 1018 m (nI (cs.length + 1))) p (cs ++ [(a, b)]) rr nr mn := by
  obtain ⟨h1, h2, h3, h4, h5, h6, h7, h8⟩ := h
  refine ⟨QF_pi (QF_wi (i := 11) (QF_wi (i := 10) h1 (by omega)) (by omega)) (by omega), ?_, ?_, ?_, fun j hj => ?_, ?_, ?_, fun i hi => ?_⟩
  · rw [fi_pi_nk _ _ _ _ _ _ (by omega)]; exact h2
  · rw [fi_pi_nk _ _ _ _ _ _ (by omega)]; exact h3
  · rw [fi_pi_at, List.length_append]; rfl
  · rw [List.length_append] at hj
    have hj' : j < cs.length + 1 := hj
    by_cases c : j = cs.length
    · rw [c, getD_app_at]
      simp (disch := omega) only [qri_pi, ri_wi_ne, ri_wi_at]
      refine ⟨?_, ?_⟩ <;> first | trivial | rfl
    · rw [getD_app (by omega)]
      simp (disch := omega) only [qri_pi, ri_wi_ne, ri_wi_nj]
      exact h5 j (by omega)
  · simp (disch := omega) only [qri_pi, ri_wi_ne]; exact h6
  · simp (disch := omega) only [qri_pi, ri_wi_ne]; exact h7
  · simp (disch := omega) only [qri_pi, ri_wi_ne]; exact h8 i hi
theorem QG_w {i j : Nat} {y : Int32} (h : QG S m T p cs rr nr mn) (hi : i = 12 ∨ i = 13 ∨ i = 14) : QG S m (st_wi T (m + i) j y) p cs rr nr mn := by
  obtain ⟨h1, h2, h3, h4, h5, h6, h7, h8⟩ := h
  refine ⟨QF_wi h1 (by omega), h2, h3, h4, fun j hj => ?_, ?_, ?_, fun i hi => ?_⟩
  · rw [ri_wi_ne _ _ _ _ _ (by omega), ri_wi_ne _ _ _ _ _ (by omega)]; exact h5 j hj
  · rw [ri_wi_ne _ _ _ _ _ (by omega)]; exact h6
  · rw [ri_wi_ne _ _ _ _ _ (by omega)]; exact h7
  · rw [ri_wi_ne _ _ _ _ _ (by omega), ri_wi_ne _ _ _ _ _ (by omega)]; exact h8 i hi
theorem QB_of (h : QG S m T p cs rr nr mn) (h1 : 1 ≤ e) (h2 : e ≤ 20000) : QB S m (st_pi T 1008 m (nI e)) e cs.length := by
  refine ⟨QF_pi h.1 (by omega), fi_pi_at _ _ _ _, h1, h2, ?_⟩
  rw [fi_pi_nk _ _ _ _ _ _ (by omega)]; exact h.2.2.2.1
theorem QB_at {y : Int32} (h : QB S m T e u) : QB S m (st_pi T 1007 m y) e u := by
  obtain ⟨h1, h2, h3, h4, h5⟩ := h
  refine ⟨QF_pi h1 (by omega), ?_, h3, h4, ?_⟩
  · rw [fi_pi_nk _ _ _ _ _ _ (by omega)]; exact h2
  · rw [fi_pi_nk _ _ _ _ _ _ (by omega)]; exact h5
theorem QB_d {y : Int32} (h : QB S m T e u) : QB S m (st_pi T 1019 m y) e u := by
  obtain ⟨h1, h2, h3, h4, h5⟩ := h
  refine ⟨QF_pi h1 (by omega), ?_, h3, h4, ?_⟩
  · rw [fi_pi_nk _ _ _ _ _ _ (by omega)]; exact h2
  · rw [fi_pi_nk _ _ _ _ _ _ (by omega)]; exact h5
theorem QB_em {y z : Int32} (h : QB S m T e u) : QB S m (st_pi (st_wi (st_wi T (m + 10) (7040 + u) y) (m + 11) (7040 + u) z) 1018 m (nI (u + 1))) e (u + 1) := by
  obtain ⟨h1, h2, h3, h4, h5⟩ := h
  refine ⟨QF_pi (QF_wi (i := 11) (QF_wi (i := 10) h1 (by omega)) (by omega)) (by omega), ?_, h3, h4, fi_pi_at _ _ _ _⟩
  rw [fi_pi_nk _ _ _ _ _ _ (by omega)]; exact h2
theorem QB_w {i j : Nat} {y : Int32} (h : QB S m T e u) (hi : i = 12 ∨ i = 13 ∨ i = 14 ∨ ((i = 6 ∨ i = 7) ∧ 8 ≤ j) ∨ ((i = 8 ∨ i = 9) ∧ 192 ≤ j) ∨ ((i = 10 ∨ i = 11) ∧ 7040 ≤ j)) : QB S m (st_wi T (m + i) j y) e u := ⟨QF_wi h.1 hi, h.2⟩
theorem QW_pi {k : Nat} {y : Int32} (h : QW T m fr) (hk : k ≠ 1019) : QW (st_pi T k m y) m fr := by
  refine ⟨?_, h.2⟩
  rw [fi_pi_nk _ _ _ _ _ _ (by omega)]; exact h.1
theorem QW_w {i j : Nat} {y : Int32} (h : QW T m fr) (hi : i < 12 ∨ 14 < i) : QW (st_wi T (m + i) j y) m fr := by
  refine ⟨h.1, fun b hb => ?_⟩
  rw [ri_wi_ne _ _ _ _ _ (by omega), ri_wi_ne _ _ _ _ _ (by omega), ri_wi_ne _ _ _ _ _ (by omega)]
  exact h.2 b hb
theorem QW_em {a b : Int32} (h : QW T m fr) : QW (st_pi (st_wi (st_wi T (m + 10) (7040 + u) a) (m + 11) (7040 + u) b) 1018 m (nI (u + 1))) m fr := QW_pi (QW_w (QW_w h (by omega)) (by omega)) (by omega)
theorem getD_cons_s {α : Type} {f d : α} {l : List α} {i : Nat} (h : 1 ≤ i) : (f :: l).getD i d = l.getD (i - 1) d := by
  obtain ⟨j, rfl⟩ : ∃ j, i = j + 1 := ⟨i - 1, by omega⟩
  rfl
theorem QW_top {f : Nat × Nat × Nat} (h : QW T m (f :: rest)) : st_fi T 1019 m = nI rest.length ∧ st_ri T (m + 12) rest.length = nI (em f.1) ∧ st_ri T (m + 13) rest.length = nI (em f.2.1) ∧ st_ri T (m + 14) rest.length = nI (em f.2.2) := by
  obtain ⟨h1, h2⟩ := h
  have := h2 rest.length (by simp only [List.length_cons]; omega)
  have e1 : (f :: rest).length - 1 - rest.length = 0 := by simp only [List.length_cons]; omega
  rw [e1] at this
  have e2 : (f :: rest).length - 1 = rest.length := by simp only [List.length_cons]; omega
  rw [e2] at h1
  exact ⟨h1, this⟩
theorem QW_12 {s t a s' : Nat} (h : QW T m ((s, t, a) :: rest)) : QW (st_wi T (m + 12) rest.length (nI (em s'))) m ((s', t, a) :: rest) := by
  obtain ⟨h1, h2⟩ := h
  refine ⟨h1, fun i hi => ?_⟩
  have hi' : i < rest.length + 1 := hi
  have q := h2 i hi
  rw [ri_wi_ne _ _ _ _ _ (show m + 13 ≠ m + 12 by omega), ri_wi_ne _ _ _ _ _ (show m + 14 ≠ m + 12 by omega)]
  have e1 : ((s', t, a) :: rest).length - 1 - i = rest.length - i := by simp only [List.length_cons]; omega
  have e2 : ((s, t, a) :: rest).length - 1 - i = rest.length - i := by simp only [List.length_cons]; omega
  rw [e2] at q
  rw [e1]
  by_cases c : i = rest.length
  · subst c
    rw [Nat.sub_self] at q ⊢
    exact ⟨ri_wi_at _ _ _ _, q.2.1, q.2.2⟩
  · rw [getD_cons_s (by omega)] at q ⊢
    rw [ri_wi_nj _ _ _ _ _ _ c]
    exact q
theorem QW_13 {s t a t' : Nat} (h : QW T m ((s, t, a) :: rest)) : QW (st_wi T (m + 13) rest.length (nI (em t'))) m ((s, t', a) :: rest) := by
  obtain ⟨h1, h2⟩ := h
  refine ⟨h1, fun i hi => ?_⟩
  have hi' : i < rest.length + 1 := hi
  have q := h2 i hi
  rw [ri_wi_ne _ _ _ _ _ (show m + 12 ≠ m + 13 by omega), ri_wi_ne _ _ _ _ _ (show m + 14 ≠ m + 13 by omega)]
  have e1 : ((s, t', a) :: rest).length - 1 - i = rest.length - i := by simp only [List.length_cons]; omega
  have e2 : ((s, t, a) :: rest).length - 1 - i = rest.length - i := by simp only [List.length_cons]; omega
  rw [e2] at q
  rw [e1]
  by_cases c : i = rest.length
  · subst c
    rw [Nat.sub_self] at q ⊢
    exact ⟨q.1, ri_wi_at _ _ _ _, q.2.2⟩
  · rw [getD_cons_s (by omega)] at q ⊢
    rw [ri_wi_nj _ _ _ _ _ _ c]
    exact q
theorem QW_14 {s t a a' : Nat} (h : QW T m ((s, t, a) :: rest)) : QW (st_wi T (m + 14) rest.length (nI (em a'))) m ((s, t, a') :: rest) := by
  obtain ⟨h1, h2⟩ := h
  refine ⟨h1, fun i hi => ?_⟩
  have hi' : i < rest.length + 1 := hi
  have q := h2 i hi
  rw [ri_wi_ne _ _ _ _ _ (show m + 12 ≠ m + 14 by omega), ri_wi_ne _ _ _ _ _ (show m + 13 ≠ m + 14 by omega)]
  have e1 : ((s, t, a') :: rest).length - 1 - i = rest.length - i := by simp only [List.length_cons]; omega
  have e2 : ((s, t, a) :: rest).length - 1 - i = rest.length - i := by simp only [List.length_cons]; omega
  rw [e2] at q
  rw [e1]
  by_cases c : i = rest.length
  · subst c
    rw [Nat.sub_self] at q ⊢
    exact ⟨q.1, q.2.1, ri_wi_at _ _ _ _⟩
  · rw [getD_cons_s (by omega)] at q ⊢
    rw [ri_wi_nj _ _ _ _ _ _ c]
    exact q
theorem QW_push (h : QW T m fr) : QW (st_wi (st_wi (st_wi (st_pi T 1019 m (nI fr.length)) (m + 12) fr.length (nI 0)) (m + 13) fr.length (nI 0)) (m + 14) fr.length (nI 0)) m ((0, 0, 0) :: fr) := by
  obtain ⟨h1, h2⟩ := h
  refine ⟨?_, fun i hi => ?_⟩
  · show st_fi (st_pi T 1019 m (nI fr.length)) 1019 m = nI (((0, 0, 0) :: fr).length - 1)
    rw [fi_pi_at]
    simp only [List.length_cons, Nat.add_sub_cancel]
  · have hi' : i < fr.length + 1 := hi
    have e1 : ((0, 0, 0) :: fr).length - 1 - i = fr.length - i := by simp only [List.length_cons]; omega
    rw [e1]
    by_cases c : i = fr.length
    · subst c
      rw [Nat.sub_self]
      simp (disch := omega) only [ri_wi_ne, ri_wi_at]
      refine ⟨?_, ?_, ?_⟩ <;> first | trivial | rfl
    · rw [getD_cons_s (by omega)]
      simp (disch := omega) only [ri_wi_ne, ri_wi_nj, qri_pi]
      have q := h2 i (by omega)
      have e3 : fr.length - i - 1 = fr.length - 1 - i := by omega
      rw [e3]
      exact q
theorem QW_pop {f g : Nat × Nat × Nat} (h : QW T m (f :: g :: rest)) : QW (st_pi T 1019 m (nI rest.length)) m (g :: rest) := by
  obtain ⟨h1, h2⟩ := h
  refine ⟨?_, fun i hi => ?_⟩
  · rw [fi_pi_at]
    simp only [List.length_cons, Nat.add_sub_cancel]
  · have hi' : i < rest.length + 1 := hi
    have q := h2 i (by simp only [List.length_cons]; omega)
    have e1 : (f :: g :: rest).length - 1 - i = (rest.length - i) + 1 := by simp only [List.length_cons]; omega
    have e2 : (g :: rest).length - 1 - i = rest.length - i := by simp only [List.length_cons]; omega
    rw [e1, getD_cons_s (by omega), Nat.add_sub_cancel] at q
    rw [e2]
    exact q
/-! the words of parts -/
theorem r_pw (hH : QH S m L n) (h : QF S m T) (h7 : st_fi T 1007 m = nI p) (h8 : st_fi T 1008 m = nI 0) (hp : p ≤ n) : f_X9_partWord T m = some (if 14 ≤ tK L p then nI (tK L p - 14) else m1, T) := by
  have hs := QF_s hH h
  have kb := (hH.2.2.2.2.2.2.2 p hp).1
  have stp : ∀ k, k < 10 → ∀ rec, b_X9_partWord_2 m rec (T, nI k) = if tK L p = k + 14 then some (nI k, T) else rec (T, nI (k + 1)) := by
    intro k hk rec
    have e1 := r_isW hH h h7 h8 hp (show 4 + k < 14 by omega)
    have e2 : kw (4 + k) = k + 14 := by
      unfold kw
      rw [if_neg (by omega), if_neg (by omega), if_neg (by omega), if_neg (by omega)]
      omega
    rw [e2] at e1
    have e1' : f_X9_isWord T m (4 + nI k) = some (nI (if tK L p = k + 14 then 1 else 0), T) := by
      have : (4 : Int32) + nI k = nI (4 + k) := nI_add 4 k
      rw [this]
      exact e1
    clear h hH e1
    by_cases c : tK L p = k + 14
    · rw [if_pos c] at e1' ⊢
      simp (disch := first | omega | assumption | (repeat first | assumption | apply RS_pi | apply RS_wi | apply RS_wl | apply CS_pi | apply CS_wi | apply CS_wl | apply CS_wo | apply CS_xo | apply RI_w15 | apply RI_w16 | apply RI_w17 | apply RI_w26 | apply RI_w27 | apply RI_w28 | apply RI_p1000)) only [b_X9_partWord_2, ↓reduceIte, ↓xg, ↓xi, ↓xl_wi, ↓xl_wl, ↓xl_pi, ↓xlI, ↓xlL, ↓xlN, xl, ↓xn, ↓xc, ↓xon, ↓xos, ↓ln_1, ↓ln_2, ↓ln_3, ↓ln_8, qli_0, qli_1, qli_2, qli_3, qli_4, qli_5, qli_6, qli_7, qli_8, qli_9, qli_10, qli_11, qli_12, qli_13, qli_14, qli_15, qli_16, qli_17, qli_18, qli_19, qli_20, qli_21, qli_22, qli_23, qli_24, qli_25, qli_26, qli_31, qli_32, qli_37, qli_39, qli_40, qli_41, qli_42, qli_43, qli_45, qli_47, qli_48, qli_49, qli_50, qli_56, qli_57, qli_59, qli_60, qli_61, qli_63, qli_64, qli_96, qli_97, qli_99, qli_100, qli_101, qli_122, qli_126, qli_143, qli_144, qli_192, qli_200, qli_201, qli_216, qli_255, qli_256, qli_780, qli_799, qli_800, qli_801, qli_802, qli_880, qli_1000, qli_5760, qli_7040, qli_7920, qli_1000000, in_t, le_t, le_f, lt_t, lt_f, eq_t, eq_f, nI_add, nI_sub', nI_mul, nI_clamp, m1_ne, m1_ne', m1_lt, m1_le, m1_nlt, m1_nle, m1_add, eq_self, not_true_eq_false, not_false_eq_true, ne_eq, Nat.reduceLeDiff, Nat.reduceLT, and_true, true_and, and_self, or_true, true_or, or_false, false_or, false_and, and_false, qK_pi, qK_pr, qK_wi, qK_wl, qK_wo, qK_xi, qK_xo, qfr_pi', qfr_wi', qfr_wl', qfr_wo', qfr_xi', qfr_xo', qfi_pr, qfi_wi, qfi_wl, qfi_wo, qfi_xi, qfi_xo, qln_pi, qln_pr, qln_wi, qln_wl, qln_wo, qln_xi, qln_xo, qri_pi, qri_pr, qri_wl, qri_wo, qri_xo, qrl_pi, qrl_pr, qrl_wi, qrl_wo, qrl_xi, qrl_xo, qro_pi, qro_pr, qro_wi, qro_wl, qro_xi, qnx_pi, qnx_pr, qnx_wi, qnx_wl, qnx_wo, qnx_xi, qnx_xo, qsa_pi, qsa_wi, qsa_wl, qsa_pr, qsa_wo, fi_pi_at, fi_pi_nk, fi_pi_na, ri_wi_at, ri_wi_ne, ri_wi_nj, rl_wl_at, rl_wl_ne, rl_wl_nj, fr_pr_at, fr_pr_nk, fr_pr_na, hs, ↓c_s e1']
    · rw [if_neg c] at e1' ⊢
      simp (disch := first | omega | assumption | (repeat first | assumption | apply RS_pi | apply RS_wi | apply RS_wl | apply CS_pi | apply CS_wi | apply CS_wl | apply CS_wo | apply CS_xo | apply RI_w15 | apply RI_w16 | apply RI_w17 | apply RI_w26 | apply RI_w27 | apply RI_w28 | apply RI_p1000)) only [b_X9_partWord_2, ↓reduceIte, ↓xg, ↓xi, ↓xl_wi, ↓xl_wl, ↓xl_pi, ↓xlI, ↓xlL, ↓xlN, xl, ↓xn, ↓xc, ↓xon, ↓xos, ↓ln_1, ↓ln_2, ↓ln_3, ↓ln_8, qli_0, qli_1, qli_2, qli_3, qli_4, qli_5, qli_6, qli_7, qli_8, qli_9, qli_10, qli_11, qli_12, qli_13, qli_14, qli_15, qli_16, qli_17, qli_18, qli_19, qli_20, qli_21, qli_22, qli_23, qli_24, qli_25, qli_26, qli_31, qli_32, qli_37, qli_39, qli_40, qli_41, qli_42, qli_43, qli_45, qli_47, qli_48, qli_49, qli_50, qli_56, qli_57, qli_59, qli_60, qli_61, qli_63, qli_64, qli_96, qli_97, qli_99, qli_100, qli_101, qli_122, qli_126, qli_143, qli_144, qli_192, qli_200, qli_201, qli_216, qli_255, qli_256, qli_780, qli_799, qli_800, qli_801, qli_802, qli_880, qli_1000, qli_5760, qli_7040, qli_7920, qli_1000000, in_t, le_t, le_f, lt_t, lt_f, eq_t, eq_f, nI_add, nI_sub', nI_mul, nI_clamp, m1_ne, m1_ne', m1_lt, m1_le, m1_nlt, m1_nle, m1_add, eq_self, not_true_eq_false, not_false_eq_true, ne_eq, Nat.reduceLeDiff, Nat.reduceLT, and_true, true_and, and_self, or_true, true_or, or_false, false_or, false_and, and_false, qK_pi, qK_pr, qK_wi, qK_wl, qK_wo, qK_xi, qK_xo, qfr_pi', qfr_wi', qfr_wl', qfr_wo', qfr_xi', qfr_xo', qfi_pr, qfi_wi, qfi_wl, qfi_wo, qfi_xi, qfi_xo, qln_pi, qln_pr, qln_wi, qln_wl, qln_wo, qln_xi, qln_xo, qri_pi, qri_pr, qri_wl, qri_wo, qri_xo, qrl_pi, qrl_pr, qrl_wi, qrl_wo, qrl_xi, qrl_xo, qro_pi, qro_pr, qro_wi, qro_wl, qro_xi, qnx_pi, qnx_pr, qnx_wi, qnx_wl, qnx_wo, qnx_xi, qnx_xo, qsa_pi, qsa_wi, qsa_wl, qsa_pr, qsa_wo, fi_pi_at, fi_pi_nk, fi_pi_na, ri_wi_at, ri_wi_ne, ri_wi_nj, rl_wl_at, rl_wl_ne, rl_wl_nj, fr_pr_at, fr_pr_nk, fr_pr_na, hs, ↓c_s e1']
  unfold f_X9_partWord
  by_cases c : 14 ≤ tK L p
  · rw [if_pos c]
    refine w_cnt0 (tK L p - 14) (fun k => (T, nI k)) (fun k hk rec => ?_) (fun rec => ?_) c_N 0 (by omega) (N_big (by omega))
    · rw [stp k (by omega), if_neg (by omega)]
    · rw [stp (tK L p - 14) (by omega), if_pos (by omega)]
  · rw [if_neg c]
    refine w_cnt0 10 (fun k => (T, nI k)) (fun k hk rec => ?_) (fun rec => ?_) c_N 0 (by omega) (N_big (by omega))
    · rw [stp k (by omega), if_neg (by omega)]
    · clear stp
      simp (disch := first | omega | assumption | (repeat first | assumption | apply RS_pi | apply RS_wi | apply RS_wl | apply CS_pi | apply CS_wi | apply CS_wl | apply CS_wo | apply CS_xo | apply RI_w15 | apply RI_w16 | apply RI_w17 | apply RI_w26 | apply RI_w27 | apply RI_w28 | apply RI_p1000)) only [b_X9_partWord_2, ↓reduceIte, ↓xg, ↓xi, ↓xl_wi, ↓xl_wl, ↓xl_pi, ↓xlI, ↓xlL, ↓xlN, xl, ↓xn, ↓xc, ↓xon, ↓xos, ↓ln_1, ↓ln_2, ↓ln_3, ↓ln_8, qli_0, qli_1, qli_2, qli_3, qli_4, qli_5, qli_6, qli_7, qli_8, qli_9, qli_10, qli_11, qli_12, qli_13, qli_14, qli_15, qli_16, qli_17, qli_18, qli_19, qli_20, qli_21, qli_22, qli_23, qli_24, qli_25, qli_26, qli_31, qli_32, qli_37, qli_39, qli_40, qli_41, qli_42, qli_43, qli_45, qli_47, qli_48, qli_49, qli_50, qli_56, qli_57, qli_59, qli_60, qli_61, qli_63, qli_64, qli_96, qli_97, qli_99, qli_100, qli_101, qli_122, qli_126, qli_143, qli_144, qli_192, qli_200, qli_201, qli_216, qli_255, qli_256, qli_780, qli_799, qli_800, qli_801, qli_802, qli_880, qli_1000, qli_5760, qli_7040, qli_7920, qli_1000000, in_t, le_t, le_f, lt_t, lt_f, eq_t, eq_f, nI_add, nI_sub', nI_mul, nI_clamp, m1_ne, m1_ne', m1_lt, m1_le, m1_nlt, m1_nle, m1_add, eq_self, not_true_eq_false, not_false_eq_true, ne_eq, Nat.reduceLeDiff, Nat.reduceLT, and_true, true_and, and_self, or_true, true_or, or_false, false_or, false_and, and_false, qK_pi, qK_pr, qK_wi, qK_wl, qK_wo, qK_xi, qK_xo, qfr_pi', qfr_wi', qfr_wl', qfr_wo', qfr_xi', qfr_xo', qfi_pr, qfi_wi, qfi_wl, qfi_wo, qfi_xi, qfi_xo, qln_pi, qln_pr, qln_wi, qln_wl, qln_wo, qln_xi, qln_xo, qri_pi, qri_pr, qri_wl, qri_wo, qri_xo, qrl_pi, qrl_pr, qrl_wi, qrl_wo, qrl_xi, qrl_xo, qro_pi, qro_pr, qro_wi, qro_wl, qro_xi, qnx_pi, qnx_pr, qnx_wi, qnx_wl, qnx_wo, qnx_xi, qnx_xo, qsa_pi, qsa_wi, qsa_wl, qsa_pr, qsa_wo, fi_pi_at, fi_pi_nk, fi_pi_na, ri_wi_at, ri_wi_ne, ri_wi_nj, rl_wl_at, rl_wl_ne, rl_wl_nj, fr_pr_at, fr_pr_nk, fr_pr_na]
theorem r_164 {a b : Nat} (hs : RS T m) (h7 : st_fi T 1007 m = nI p) (h18 : st_fi T 1018 m = nI u) (hu : u < 880) : j_X9_part_164 m (nI a) T (nI b) = some (nI 0, st_pi (st_pi (st_wi (st_wi T (m + 10) (7040 + u) (nI a)) (m + 11) (7040 + u) (nI b)) 1018 m (nI (u + 1))) 1007 m (nI (p + 1))) := by
  have ee := r_emit (a := a) (b := b) hs h18 hu
  unfold j_X9_part_164
  have e7 : st_fi (st_pi (st_wi (st_wi T (m + 10) (7040 + u) (nI a)) (m + 11) (7040 + u) (nI b)) 1018 m (nI (u + 1))) 1007 m + 1 = nI (p + 1) := by
    rw [fi_pi_nk _ _ _ _ _ _ (by omega)]
    show st_fi T 1007 m + 1 = nI (p + 1)
    rw [h7]
    exact nI_add p 1
  rw [g_t hs.1, c_s ee, g_t (RS_pi _ _ _ (RS_wi _ _ _ (RS_wi _ _ _ hs))).1, xl, e7]
  rfl
/-- a part has been read, or opened, or there is a fault -/
def PX (S : st_T) (m : Nat) (L : List (Nat × Nat × Nat)) (n p : Nat) (cs rr : List (Nat × Nat)) (nr mn : Nat) (fr : List (Nat × Nat × Nat)) (r : Int32) (T : st_T) : Prop := (r = nI 1 ∧ QG S m T (p + 1) cs rr nr mn ∧ QW T m ((0, 0, 0) :: fr) ∧ tK L p = 3 ∧ fr.length < 6 ∧ p + 1 ≤ n) ∨ (r = nI 0 ∧ ∃ p' o, QG S m T p' (cs ++ o.map rc) rr nr mn ∧ QW T m fr ∧ xPart L (Ew L (fr.length - 1)) (fr.length - 1) p = .inr (p', o) ∧ p < p' ∧ p' ≤ n ∧ o.length ≤ p' - p) ∨ (r = nI 0 ∧ ∃ e u, QB S m T e u ∧ xPart L (Ew L (fr.length - 1)) (fr.length - 1) p = .inl e ∧ u ≤ cs.length + 1)
theorem r_part (hH : QH S m L n) (h : QG S m T p cs rr nr mn) (hw : QW T m fr) (hf1 : 1 ≤ fr.length) (hf2 : fr.length ≤ 6) (hp : p ≤ n) (hc : cs.length < 860) : ok (f_X9_part T m) (PX S m L n p cs rr nr mn fr) := by
  have hs := QF_s hH h.1
  have h7 := h.2.1
  have h8 := h.2.2.1
  have h18 := h.2.2.2.1
  have h19 := hw.1
  obtain ⟨s, t1, t2, t3⟩ := QF_t hH h.1 hp
  have hL := hH.2.2.2
  have hn := hL.2.1
  have kb := hL.2.2.2.2 p hp
  have pw := r_pw hH h.1 h7 h8 hp
  have es := r_isS (c := 40) hH h.1 h7 h8 hp (by decide)
  have k40 : ks 40 = 3 := rfl
  rw [k40] at es
  have iff2 : s = 2 ↔ tK L p = 2 := t3.2.2.1
  have s4 := t3.1
  obtain ⟨d, hd⟩ : ∃ d, d = fr.length - 1 := ⟨_, rfl⟩
  rw [← hd] at h19
  have ad := part_adv (w := d) hL (Ew_adv hL d) hp
  by_cases cst : tK L p = 2 ∨ tK L p = 3 ∨ (14 ≤ tK L p ∧ tK L p ≤ 23)
  rotate_left
  · -- nothing that starts a part
    have ew := r_wrong (how := 1) hH h.1 h7 h8 hp (by omega)
    have ew' : f_X9_wrong T m 1 = some ((), st_pi T 1008 m (nI (1 + 16 * tP L p))) := ew
    rw [if_neg (by omega)] at pw es
    have stp : f_X9_part T m = j_X9_part_59 m m1 (st_pi T 1008 m (nI (1 + 16 * tP L p))) := by
      unfold f_X9_part
      clear hH h hw t3 ad hL
      have s2 : s ≠ 2 := fun z => cst (Or.inl (iff2.mp z))
      generalize j_X9_part_59 = J
      generalize j_X9_part_46 = J2
      have m1n : ¬ nI 0 ≤ m1 := by decide
      simp (disch := first | omega | assumption | (repeat first | assumption | apply RS_pi | apply RS_wi | apply RS_wl | apply CS_pi | apply CS_wi | apply CS_wl | apply CS_wo | apply CS_xo | apply RI_w15 | apply RI_w16 | apply RI_w17 | apply RI_w26 | apply RI_w27 | apply RI_w28 | apply RI_p1000)) only [↓reduceIte, ↓xg, ↓xi, ↓xl_wi, ↓xl_wl, ↓xl_pi, ↓xlI, ↓xlL, ↓xlN, xl, ↓xn, ↓xc, ↓xon, ↓xos, ↓ln_1, ↓ln_2, ↓ln_3, ↓ln_8, qli_0, qli_1, qli_2, qli_3, qli_4, qli_5, qli_6, qli_7, qli_8, qli_9, qli_10, qli_11, qli_12, qli_13, qli_14, qli_15, qli_16, qli_17, qli_18, qli_19, qli_20, qli_21, qli_22, qli_23, qli_24, qli_25, qli_26, qli_31, qli_32, qli_37, qli_39, qli_40, qli_41, qli_42, qli_43, qli_45, qli_47, qli_48, qli_49, qli_50, qli_56, qli_57, qli_59, qli_60, qli_61, qli_63, qli_64, qli_96, qli_97, qli_99, qli_100, qli_101, qli_122, qli_126, qli_143, qli_144, qli_192, qli_200, qli_201, qli_216, qli_255, qli_256, qli_780, qli_799, qli_800, qli_801, qli_802, qli_880, qli_1000, qli_5760, qli_7040, qli_7920, qli_1000000, in_t, le_t, le_f, lt_t, lt_f, eq_t, eq_f, nI_add, nI_sub', nI_mul, nI_clamp, m1_ne, m1_ne', m1_lt, m1_le, m1_nlt, m1_nle, m1_add, eq_self, not_true_eq_false, not_false_eq_true, ne_eq, Nat.reduceLeDiff, Nat.reduceLT, and_true, true_and, and_self, or_true, true_or, or_false, false_or, false_and, and_false, qK_pi, qK_pr, qK_wi, qK_wl, qK_wo, qK_xi, qK_xo, qfr_pi', qfr_wi', qfr_wl', qfr_wo', qfr_xi', qfr_xo', qfi_pr, qfi_wi, qfi_wl, qfi_wo, qfi_xi, qfi_xo, qln_pi, qln_pr, qln_wi, qln_wl, qln_wo, qln_xi, qln_xo, qri_pi, qri_pr, qri_wl, qri_wo, qri_xo, qrl_pi, qrl_pr, qrl_wi, qrl_wo, qrl_xi, qrl_xo, qro_pi, qro_pr, qro_wi, qro_wl, qro_xi, qnx_pi, qnx_pr, qnx_wi, qnx_wl, qnx_wo, qnx_xi, qnx_xo, qsa_pi, qsa_wi, qsa_wl, qsa_pr, qsa_wo, fi_pi_at, fi_pi_nk, fi_pi_na, ri_wi_at, ri_wi_ne, ri_wi_nj, rl_wl_at, rl_wl_ne, rl_wl_nj, fr_pr_at, fr_pr_nk, fr_pr_na, hs, h7, h8, ↓c_s pw, ↓rn_1004, t1, ↓c_s es, m1n, ↓c_s ew', ↓c_s ew]
    have hb := QB_of h (e := 1 + 16 * tP L p) (by omega) (by omega)
    have stp2 : j_X9_part_59 m m1 (st_pi T 1008 m (nI (1 + 16 * tP L p))) = some (0, st_pi T 1008 m (nI (1 + 16 * tP L p))) := by
      unfold j_X9_part_59
      have ne : ¬ nI (1 + 16 * tP L p) ≤ (0 : Int32) := of_eq_false (le_f (a := 1 + 16 * tP L p) (b := 0) (by omega) (by omega))
      rw [g_t (RS_pi _ _ _ hs).1, fi_pi_at, i_f ne]
    rw [stp, stp2]
    refine ok_of rfl (Or.inr (Or.inr ⟨rfl, _, _, hb, ?_, by omega⟩))
    unfold xPart
    rw [if_neg cst]
    rfl
  · have lt := LG_lt hL hp (by omega)
    -- it starts one
    obtain ⟨r1, hr1⟩ : ∃ r1, r1 = (if 14 ≤ tK L p then nI (tK L p - 14) else m1) := ⟨_, rfl⟩
    rw [← hr1] at pw
    have stp : f_X9_part T m = j_X9_part_46 m r1 T := by
      unfold f_X9_part
      clear hH h hw t3 ad hL
      generalize j_X9_part_59 = J
      generalize j_X9_part_46 = J2
      by_cases s2 : s = 2
      · rw [s2] at t1
        simp (disch := first | omega | assumption | (repeat first | assumption | apply RS_pi | apply RS_wi | apply RS_wl | apply CS_pi | apply CS_wi | apply CS_wl | apply CS_wo | apply CS_xo | apply RI_w15 | apply RI_w16 | apply RI_w17 | apply RI_w26 | apply RI_w27 | apply RI_w28 | apply RI_p1000)) only [↓reduceIte, ↓xg, ↓xi, ↓xl_wi, ↓xl_wl, ↓xl_pi, ↓xlI, ↓xlL, ↓xlN, xl, ↓xn, ↓xc, ↓xon, ↓xos, ↓ln_1, ↓ln_2, ↓ln_3, ↓ln_8, qli_0, qli_1, qli_2, qli_3, qli_4, qli_5, qli_6, qli_7, qli_8, qli_9, qli_10, qli_11, qli_12, qli_13, qli_14, qli_15, qli_16, qli_17, qli_18, qli_19, qli_20, qli_21, qli_22, qli_23, qli_24, qli_25, qli_26, qli_31, qli_32, qli_37, qli_39, qli_40, qli_41, qli_42, qli_43, qli_45, qli_47, qli_48, qli_49, qli_50, qli_56, qli_57, qli_59, qli_60, qli_61, qli_63, qli_64, qli_96, qli_97, qli_99, qli_100, qli_101, qli_122, qli_126, qli_143, qli_144, qli_192, qli_200, qli_201, qli_216, qli_255, qli_256, qli_780, qli_799, qli_800, qli_801, qli_802, qli_880, qli_1000, qli_5760, qli_7040, qli_7920, qli_1000000, in_t, le_t, le_f, lt_t, lt_f, eq_t, eq_f, nI_add, nI_sub', nI_mul, nI_clamp, m1_ne, m1_ne', m1_lt, m1_le, m1_nlt, m1_nle, m1_add, eq_self, not_true_eq_false, not_false_eq_true, ne_eq, Nat.reduceLeDiff, Nat.reduceLT, and_true, true_and, and_self, or_true, true_or, or_false, false_or, false_and, and_false, qK_pi, qK_pr, qK_wi, qK_wl, qK_wo, qK_xi, qK_xo, qfr_pi', qfr_wi', qfr_wl', qfr_wo', qfr_xi', qfr_xo', qfi_pr, qfi_wi, qfi_wl, qfi_wo, qfi_xi, qfi_xo, qln_pi, qln_pr, qln_wi, qln_wl, qln_wo, qln_xi, qln_xo, qri_pi, qri_pr, qri_wl, qri_wo, qri_xo, qrl_pi, qrl_pr, qrl_wi, qrl_wo, qrl_xi, qrl_xo, qro_pi, qro_pr, qro_wi, qro_wl, qro_xi, qnx_pi, qnx_pr, qnx_wi, qnx_wl, qnx_wo, qnx_xi, qnx_xo, qsa_pi, qsa_wi, qsa_wl, qsa_pr, qsa_wo, fi_pi_at, fi_pi_nk, fi_pi_na, ri_wi_at, ri_wi_ne, ri_wi_nj, rl_wl_at, rl_wl_ne, rl_wl_nj, fr_pr_at, fr_pr_nk, fr_pr_na, hs, h7, h8, ↓c_s pw, ↓rn_1004, t1]
      · by_cases k3 : tK L p = 3
        · rw [if_pos k3] at es
          simp (disch := first | omega | assumption | (repeat first | assumption | apply RS_pi | apply RS_wi | apply RS_wl | apply CS_pi | apply CS_wi | apply CS_wl | apply CS_wo | apply CS_xo | apply RI_w15 | apply RI_w16 | apply RI_w17 | apply RI_w26 | apply RI_w27 | apply RI_w28 | apply RI_p1000)) only [↓reduceIte, ↓xg, ↓xi, ↓xl_wi, ↓xl_wl, ↓xl_pi, ↓xlI, ↓xlL, ↓xlN, xl, ↓xn, ↓xc, ↓xon, ↓xos, ↓ln_1, ↓ln_2, ↓ln_3, ↓ln_8, qli_0, qli_1, qli_2, qli_3, qli_4, qli_5, qli_6, qli_7, qli_8, qli_9, qli_10, qli_11, qli_12, qli_13, qli_14, qli_15, qli_16, qli_17, qli_18, qli_19, qli_20, qli_21, qli_22, qli_23, qli_24, qli_25, qli_26, qli_31, qli_32, qli_37, qli_39, qli_40, qli_41, qli_42, qli_43, qli_45, qli_47, qli_48, qli_49, qli_50, qli_56, qli_57, qli_59, qli_60, qli_61, qli_63, qli_64, qli_96, qli_97, qli_99, qli_100, qli_101, qli_122, qli_126, qli_143, qli_144, qli_192, qli_200, qli_201, qli_216, qli_255, qli_256, qli_780, qli_799, qli_800, qli_801, qli_802, qli_880, qli_1000, qli_5760, qli_7040, qli_7920, qli_1000000, in_t, le_t, le_f, lt_t, lt_f, eq_t, eq_f, nI_add, nI_sub', nI_mul, nI_clamp, m1_ne, m1_ne', m1_lt, m1_le, m1_nlt, m1_nle, m1_add, eq_self, not_true_eq_false, not_false_eq_true, ne_eq, Nat.reduceLeDiff, Nat.reduceLT, and_true, true_and, and_self, or_true, true_or, or_false, false_or, false_and, and_false, qK_pi, qK_pr, qK_wi, qK_wl, qK_wo, qK_xi, qK_xo, qfr_pi', qfr_wi', qfr_wl', qfr_wo', qfr_xi', qfr_xo', qfi_pr, qfi_wi, qfi_wl, qfi_wo, qfi_xi, qfi_xo, qln_pi, qln_pr, qln_wi, qln_wl, qln_wo, qln_xi, qln_xo, qri_pi, qri_pr, qri_wl, qri_wo, qri_xo, qrl_pi, qrl_pr, qrl_wi, qrl_wo, qrl_xi, qrl_xo, qro_pi, qro_pr, qro_wi, qro_wl, qro_xi, qnx_pi, qnx_pr, qnx_wi, qnx_wl, qnx_wo, qnx_xi, qnx_xo, qsa_pi, qsa_wi, qsa_wl, qsa_pr, qsa_wo, fi_pi_at, fi_pi_nk, fi_pi_na, ri_wi_at, ri_wi_ne, ri_wi_nj, rl_wl_at, rl_wl_ne, rl_wl_nj, fr_pr_at, fr_pr_nk, fr_pr_na, hs, h7, h8, ↓c_s pw, ↓rn_1004, t1, ↓c_s es]
        · rw [if_neg k3] at es
          have k14 : 14 ≤ tK L p := by
            have : tK L p ≠ 2 := fun z => s2 (iff2.mpr z)
            omega
          rw [if_pos k14] at hr1
          subst hr1
          simp (disch := first | omega | assumption | (repeat first | assumption | apply RS_pi | apply RS_wi | apply RS_wl | apply CS_pi | apply CS_wi | apply CS_wl | apply CS_wo | apply CS_xo | apply RI_w15 | apply RI_w16 | apply RI_w17 | apply RI_w26 | apply RI_w27 | apply RI_w28 | apply RI_p1000)) only [↓reduceIte, ↓xg, ↓xi, ↓xl_wi, ↓xl_wl, ↓xl_pi, ↓xlI, ↓xlL, ↓xlN, xl, ↓xn, ↓xc, ↓xon, ↓xos, ↓ln_1, ↓ln_2, ↓ln_3, ↓ln_8, qli_0, qli_1, qli_2, qli_3, qli_4, qli_5, qli_6, qli_7, qli_8, qli_9, qli_10, qli_11, qli_12, qli_13, qli_14, qli_15, qli_16, qli_17, qli_18, qli_19, qli_20, qli_21, qli_22, qli_23, qli_24, qli_25, qli_26, qli_31, qli_32, qli_37, qli_39, qli_40, qli_41, qli_42, qli_43, qli_45, qli_47, qli_48, qli_49, qli_50, qli_56, qli_57, qli_59, qli_60, qli_61, qli_63, qli_64, qli_96, qli_97, qli_99, qli_100, qli_101, qli_122, qli_126, qli_143, qli_144, qli_192, qli_200, qli_201, qli_216, qli_255, qli_256, qli_780, qli_799, qli_800, qli_801, qli_802, qli_880, qli_1000, qli_5760, qli_7040, qli_7920, qli_1000000, in_t, le_t, le_f, lt_t, lt_f, eq_t, eq_f, nI_add, nI_sub', nI_mul, nI_clamp, m1_ne, m1_ne', m1_lt, m1_le, m1_nlt, m1_nle, m1_add, eq_self, not_true_eq_false, not_false_eq_true, ne_eq, Nat.reduceLeDiff, Nat.reduceLT, and_true, true_and, and_self, or_true, true_or, or_false, false_or, false_and, and_false, qK_pi, qK_pr, qK_wi, qK_wl, qK_wo, qK_xi, qK_xo, qfr_pi', qfr_wi', qfr_wl', qfr_wo', qfr_xi', qfr_xo', qfi_pr, qfi_wi, qfi_wl, qfi_wo, qfi_xi, qfi_xo, qln_pi, qln_pr, qln_wi, qln_wl, qln_wo, qln_xi, qln_xo, qri_pi, qri_pr, qri_wl, qri_wo, qri_xo, qrl_pi, qrl_pr, qrl_wi, qrl_wo, qrl_xi, qrl_xo, qro_pi, qro_pr, qro_wi, qro_wl, qro_xi, qnx_pi, qnx_pr, qnx_wi, qnx_wl, qnx_wo, qnx_xi, qnx_xo, qsa_pi, qsa_wi, qsa_wl, qsa_pr, qsa_wo, fi_pi_at, fi_pi_nk, fi_pi_na, ri_wi_at, ri_wi_ne, ri_wi_nj, rl_wl_at, rl_wl_ne, rl_wl_nj, fr_pr_at, fr_pr_nk, fr_pr_na, hs, h7, h8, ↓c_s pw, ↓rn_1004, t1, ↓c_s es]
    rw [stp]
    unfold j_X9_part_46
    refine ok_gt hs.1 ?_
    rw [h19]
    by_cases c5 : d = 5
    · -- too deep
      refine ok_it (eqT c5) ?_
      have ew := r_wrong (how := 5) hH h.1 h7 h8 hp (by omega)
      have ew' : f_X9_wrong T m 5 = some ((), st_pi T 1008 m (nI (5 + 16 * tP L p))) := ew
      rw [c_s ew']
      have hb := QB_of h (e := 5 + 16 * tP L p) (by omega) (by omega)
      have stp2 : j_X9_part_59 m r1 (st_pi T 1008 m (nI (5 + 16 * tP L p))) = some (0, st_pi T 1008 m (nI (5 + 16 * tP L p))) := by
        unfold j_X9_part_59
        have ne : ¬ nI (5 + 16 * tP L p) ≤ (0 : Int32) := of_eq_false (le_f (a := 5 + 16 * tP L p) (b := 0) (by omega) (by omega))
        rw [g_t (RS_pi _ _ _ hs).1, fi_pi_at, i_f ne]
      rw [stp2]
      refine ok_of rfl (Or.inr (Or.inr ⟨rfl, _, _, hb, ?_, by omega⟩))
      rw [← hd]
      unfold xPart
      rw [if_pos cst, if_neg (by omega)]
      rfl
    · refine ok_if (neF (a := d) (b := 5) c5 (by omega) (by omega)) ?_
      have dlt : d < 5 := by omega
      have xp : xPart L (Ew L d) d p = (if tK L p = 3 then rb (Ew L d (p + 1)) (fun p1 o => if tK L p1 = 4 then .inr (p1 + 1, o) else fl L 1 p1)
      else if tK L p = 2 then .inr (p + 1, [(2, tV L p)])
      else if tK L p ≤ 16 then (if tK L (p + 1) = 2 then (if 1 ≤ tV L (p + 1) ∧ tV L (p + 1) ≤ 200 then .inr (p + 2, [(tK L p, tV L (p + 1))]) else fl L 4 (p + 1)) else fl L 1 (p + 1))
      else .inr (p + 1, [(tK L p, 0)])) := by
        unfold xPart
        rw [if_pos cst, if_pos dlt]
      unfold PX
      rw [← hd, xp]
      unfold j_X9_part_59
      refine ok_gt hs.1 ?_
      refine ok_it (by rw [h8]; decide) ?_
      have eh := r_hasS (c := 40) hH h.1 h7 h8 hp (by decide)
      rw [k40] at eh
      by_cases k3 : tK L p = 3
      · -- an opening sign
        rw [if_pos k3] at eh
        have eh' : f_X9_hasSign T m 40 = some (nI 1, st_pi T 1007 m (nI (p + 1))) := eh
        rw [c_s eh']
        refine ok_if (by decide) ?_
        refine ok_gt (RS_pi _ _ _ hs).1 ?_
        rw [ok_l]
        have e19 : st_fi (st_pi T 1007 m (nI (p + 1))) 1019 m + 1 = nI fr.length := by
          rw [fi_pi_nk _ _ _ _ _ _ (by omega), h19]
          have : nI d + 1 = nI (d + 1) := nI_add d 1
          rw [this]
          congr 1
          omega
        rw [e19]
        have eo := r_opens (T := st_pi (st_pi T 1007 m (nI (p + 1))) 1019 m (nI fr.length)) (d := fr.length) (RS_pi _ _ _ (RS_pi _ _ _ hs)) (fi_pi_at _ _ _ _) (by omega)
        rw [c_s eo]
        refine ok_of rfl (Or.inl ⟨rfl, ?_, ?_, k3, by omega, by omega⟩)
        · exact QG_w (i := 14) (QG_w (i := 13) (QG_w (i := 12) (QG_d (QG_at h)) (by omega)) (by omega)) (by omega)
        · exact QW_push (QW_pi hw (by omega))
      · rw [if_neg k3, Nat.add_zero] at eh
        have eh' : f_X9_hasSign T m 40 = some (nI 0, st_pi T 1007 m (nI p)) := eh
        rw [c_s eh']
        refine ok_it (show nI 0 = (0 : Int32) from rfl) ?_
        have hG := QG_at (p' := p) h
        have hW := QW_pi (k := 1007) (y := nI p) hw (by omega)
        have hs1 : RS (st_pi T 1007 m (nI p)) m := RS_pi _ _ _ hs
        simp only [if_neg k3]
        generalize st_pi T 1007 m (nI p) = T1 at hG hW hs1
        have g7 := hG.2.1
        have g8 := hG.2.2.1
        have g18 := hG.2.2.2.1
        by_cases k2 : tK L p = 2
        · -- a number
          simp only [if_pos k2]
          rw [if_neg (by omega)] at hr1
          subst hr1
          obtain ⟨s', t1', t2', t3'⟩ := QF_t hH hG.1 hp
          have hu : st_rl T1 (m + 4) p = lN (tV L p) := t3'.2.2.2.1 k2
          have li : (lN (tV L p)).toInt32 = nI (tV L p) := lN_i _
          have e164 := r_164 (a := 1) (b := tV L p) hs1 g7 g18 (by omega)
          refine ok_it (show m1 < (0 : Int32) by decide) ?_
          unfold j_X9_part_134
          refine ok_if (show ¬ (0 : Int32) ≤ m1 by decide) ?_
          unfold j_X9_part_144
          refine ok_if (show ¬ (0 : Int32) ≤ m1 by decide) ?_
          refine ok_gt hs1.1 ?_
          rw [rn_1006 hs1]
          refine ok_gt (show st_K T1 (m + 4) = 21 by simp only [hs1]) ?_
          refine ok_gt (show c_in (st_fi T1 1007 m) (st_ln T1 (m + 4)) by
            rw [g7, show st_ln T1 (m + 4) = 802 by simp only [hs1]]
            exact of_eq_true (in_t (by omega) (by omega))) ?_
          rw [g7, nI_clamp (by omega), hu, li]
          have e164' : j_X9_part_164 m 1 T1 (nI (tV L p)) = some (nI 0, st_pi (st_pi (st_wi (st_wi T1 (m + 10) (7040 + cs.length) (nI 1)) (m + 11) (7040 + cs.length) (nI (tV L p))) 1018 m (nI (cs.length + 1))) 1007 m (nI (p + 1))) := e164
          rw [e164']
          refine ok_of rfl (Or.inr (Or.inl ⟨rfl, p + 1, [(2, tV L p)], ?_, ?_, rfl, by omega, by omega, by show 1 ≤ _; omega⟩))
          · exact QG_at (QG_em hG)
          · exact QW_pi (QW_em hW) (by omega)
        · simp only [if_neg k2]
          have k14 : 14 ≤ tK L p := by omega
          rw [if_pos k14] at hr1
          subst hr1
          refine ok_if (of_eq_false (lt_f (a := tK L p - 14) (b := 0) (by omega) (by omega))) ?_
          by_cases k16 : tK L p ≤ 16
          · simp only [if_pos k16]
            refine ok_if (of_eq_false (le_f (a := 3) (b := tK L p - 14) (by omega) (by omega))) ?_
            refine ok_gt hs1.1 ?_
            rw [ok_l, g7]
            have e0 : nI p + 1 = nI (p + 1) := nI_add p 1
            rw [e0]
            have hG2 := QG_at (p' := p + 1) hG
            have hW2 := QW_pi (k := 1007) (y := nI (p + 1)) hW (by omega)
            have hs2 : RS (st_pi T1 1007 m (nI (p + 1))) m := RS_pi _ _ _ hs1
            generalize st_pi T1 1007 m (nI (p + 1)) = T2 at hG2 hW2 hs2
            have l1 : p + 1 ≤ n := by omega
            have en := r_num (lo := 1) (hi := 200) hH hG2.1 hG2.2.1 hG2.2.2.1 l1 (by omega) (by omega)
            have kb1 := hL.2.2.2.2 (p + 1) l1
            have eA : ∀ q, (256 : Int32) * nI (tK L p - 14) + nI q = nI (256 * (tK L p - 14) + q) := fun q => by
              have : (256 : Int32) * nI (tK L p - 14) = nI (256 * (tK L p - 14)) := nI_mul 256 _
              rw [this, nI_add]
            have bad : ∀ e T3, f_X9_takeNumber T2 m 1 200 = some (nI 0, T3) → QB S m T3 e cs.length → ok (c_c (f_X9_takeNumber T2 m 1 200) (fun (r125 : Int32) (T125 : st_T) => (c_g (st_K T125 m = 11) (c_c (f_X9_emit T125 m 8 ((256 * nI (tK L p - 14)) + r125)) (fun (r129 : Unit) (T129 : st_T) => (some ((0 : Int32), T129))))))) (fun r T => r = nI 0 ∧ QB S m T e (cs.length + 1)) := by
              intro e T3 q1 q2
              have hs3 := QF_s hH q2.1
              rw [c_s q1, eA]
              refine ok_gt hs3.1 ?_
              have ee := r_emit (a := 8) (b := 256 * (tK L p - 14) + 0) hs3 q2.2.2.2.2 (by omega)
              have ee' : f_X9_emit T3 m 8 (nI (256 * (tK L p - 14) + 0)) = _ := ee
              rw [c_s ee']
              exact ok_of rfl ⟨rfl, QB_em q2⟩
            by_cases c2 : tK L (p + 1) = 2
            · rw [if_pos c2] at en
              simp only [if_pos c2]
              by_cases c3 : 1 ≤ tV L (p + 1) ∧ tV L (p + 1) ≤ 200
              · rw [if_pos c3] at en
                simp only [if_pos c3]
                have lt1 := LG_lt hL l1 (by omega)
                have hG3 := QG_at (p' := p + 1 + 1) hG2
                have hW3 := QW_pi (k := 1007) (y := nI (p + 1 + 1)) hW2 (by omega)
                have hs3 : RS (st_pi T2 1007 m (nI (p + 1 + 1))) m := RS_pi _ _ _ hs2
                have en' : f_X9_takeNumber T2 m 1 200 = some (nI (tV L (p + 1)), st_pi T2 1007 m (nI (p + 1 + 1))) := en
                rw [c_s en', eA]
                refine ok_gt hs3.1 ?_
                have ee := r_emit (a := 8) (b := 256 * (tK L p - 14) + tV L (p + 1)) hs3 hG3.2.2.2.1 (by omega)
                have ee' : f_X9_emit (st_pi T2 1007 m (nI (p + 1 + 1))) m 8 (nI (256 * (tK L p - 14) + tV L (p + 1))) = _ := ee
                rw [c_s ee']
                refine ok_of rfl (Or.inr (Or.inl ⟨rfl, p + 2, [(tK L p, tV L (p + 1))], ?_, QW_em hW3, rfl, by omega, by omega, by show 1 ≤ _; omega⟩))
                have q := QG_em (a := 8) (b := 256 * (tK L p - 14) + tV L (p + 1)) hG3
                have e9 : [(tK L p, tV L (p + 1))].map rc = [(8, 256 * (tK L p - 14) + tV L (p + 1))] := by
                  show [rc (tK L p, tV L (p + 1))] = _
                  unfold rc eo ea
                  show [((if tK L p = 2 then 1 else if tK L p = 6 then 5 else if tK L p = 7 then 6 else if tK L p = 8 then 3 else if tK L p = 9 then 4 else if tK L p = 10 then 7 else if tK L p < 17 then 8 else 2), (if tK L p = 2 then tV L (p + 1) else if tK L p < 14 then 0 else if tK L p < 17 then 256 * (tK L p - 14) + tV L (p + 1) else tK L p - 17))] = _
                  rw [if_neg (by omega), if_neg (by omega), if_neg (by omega), if_neg (by omega), if_neg (by omega), if_neg (by omega), if_pos (by omega), if_neg (by omega), if_neg (by omega), if_pos (by omega)]
                rw [e9]
                exact q
              · rw [if_neg c3] at en
                simp only [if_neg c3]
                refine ok_imp (bad _ _ en (QB_at (QB_of hG2 (by omega) (by omega)))) (fun r T5 q => ?_)
                exact Or.inr (Or.inr ⟨q.1, _, _, q.2, rfl, by omega⟩)
            · rw [if_neg c2] at en
              simp only [if_neg c2]
              refine ok_imp (bad _ _ en (QB_at (QB_of hG2 (by omega) (by omega)))) (fun r T5 q => ?_)
              exact Or.inr (Or.inr ⟨q.1, _, _, q.2, rfl, by omega⟩)
          · simp only [if_neg k16]
            refine ok_it (of_eq_true (le_t (a := 3) (b := tK L p - 14) (by omega) (by omega))) ?_
            unfold j_X9_part_134
            refine ok_it (of_eq_true (le_t (a := 0) (b := tK L p - 14) (by omega) (by omega))) ?_
            unfold j_X9_part_144
            refine ok_it (of_eq_true (le_t (a := 0) (b := tK L p - 14) (by omega) (by omega))) ?_
            have e3 : nI (tK L p - 14) - 3 = nI (tK L p - 17) := by
              have : nI (tK L p - 14) - nI 3 = nI (tK L p - 14 - 3) := nI_sub (by omega)
              have e4 : tK L p - 14 - 3 = tK L p - 17 := by omega
              rw [e4] at this
              exact this
            rw [e3]
            have e164 := r_164 (a := 2) (b := tK L p - 17) hs1 g7 g18 (by omega)
            have e164' : j_X9_part_164 m 2 T1 (nI (tK L p - 17)) = _ := e164
            rw [e164']
            refine ok_of rfl (Or.inr (Or.inl ⟨rfl, p + 1, [(tK L p, 0)], ?_, QW_pi (QW_em hW) (by omega), rfl, by omega, by omega, by show 1 ≤ _; omega⟩))
            have q := QG_at (p' := p + 1) (QG_em (a := 2) (b := tK L p - 17) hG)
            have e9 : [(tK L p, 0)].map rc = [(2, tK L p - 17)] := by
              show [rc (tK L p, 0)] = _
              unfold rc eo ea
              show [((if tK L p = 2 then 1 else if tK L p = 6 then 5 else if tK L p = 7 then 6 else if tK L p = 8 then 3 else if tK L p = 9 then 4 else if tK L p = 10 then 7 else if tK L p < 17 then 8 else 2), (if tK L p = 2 then 0 else if tK L p < 14 then 0 else if tK L p < 17 then 256 * (tK L p - 14) + 0 else tK L p - 17))] = _
              rw [if_neg (by omega), if_neg (by omega), if_neg (by omega), if_neg (by omega), if_neg (by omega), if_neg (by omega), if_neg (by omega), if_neg (by omega), if_neg (by omega), if_neg (by omega)]
            rw [e9]
            exact q
end RQ
