/-! text: the reference, whole -/
section RY
variable {β : Type} {S S' S0 T U : st_T} {m x v n : Nat} {M : mT} {A : aT} {L : List (Nat × Nat × Nat)} {w p e u c t : Nat}
def m_t0 (M : mT) : mT := (M.1, M.2.1, M.2.2.1, M.2.2.2.1, M.2.2.2.2.1, 0, M.2.2.2.2.2.2)
def m_text (M : mT) (x : tT) : mT := (M.1, M.2.1, M.2.2.1, M.2.2.2.1, M.2.2.2.2.1, 0, m_ts M, m_ct M, m_T M + 1, m_T M + 1, fun i => if i = m_T M then x else m_tx M i)
theorem wR_le {P : List (Nat × Nat)} : ∀ (rs : List (Nat × Nat)) (s : Nat), wR P rs s → ∀ r, r < rs.length → (rs.getD r (0, 0)).2 ≤ P.length := by
  intro rs
  induction rs with
  | nil => intro s _ r hr; exact absurd hr (Nat.not_lt_zero _)
  | cons q rs ih =>
    intro s h r hr
    obtain ⟨c, e⟩ := q
    cases r with
    | zero => exact h.2.2.1
    | succ r => exact ih e h.2.2.2.2 r (by simp only [List.length_cons] at hr; omega)
theorem RT_pt {x : tT} (h : RT S m t x) (hl : x.1.length ≤ 24) (hj : ∀ r, r < x.1.length → (x.1.getD r (0, 0)).2 ≤ 800) (e6 : st_ri U (m + 6) t = st_ri S (m + 6) t) (e7 : st_ri U (m + 7) t = st_ri S (m + 7) t) (e8 : ∀ r, r < 24 → st_ri U (m + 8) (24 * t + r) = st_ri S (m + 8) (24 * t + r)) (e9 : ∀ r, r < 24 → st_ri U (m + 9) (24 * t + r) = st_ri S (m + 9) (24 * t + r)) (e10 : ∀ j, j < 880 → st_ri U (m + 10) (880 * t + j) = st_ri S (m + 10) (880 * t + j)) (e11 : ∀ j, j < 880 → st_ri U (m + 11) (880 * t + j) = st_ri S (m + 11) (880 * t + j)) : RT U m t x := by
  obtain ⟨h1, h2, h3, h4, h5, h6⟩ := h
  refine ⟨by rw [e6]; exact h1, by rw [e7]; exact h2, fun r hr => ?_, fun r hr => ?_, fun r j hr j1 j2 => ?_, fun r hr => ?_⟩
  · rw [e8 r (by omega)]; exact h3 r hr
  · rw [e9 r (by omega)]; exact h4 r hr
  · have q := hj r hr
    have e : 880 * t + j + r = 880 * t + (j + r) := by omega
    rw [e, e10 (j + r) (by omega), e11 (j + r) (by omega), ← e]
    exact h5 r j hr j1 j2
  · have q := hj r hr
    have e : 880 * t + (x.1.getD r (0, 0)).2 + r = 880 * t + ((x.1.getD r (0, 0)).2 + r) := by omega
    rw [e, e10 _ (by omega), ← e]
    exact h6 r hr
theorem RI_txn {T' ch' : Nat} {tx' : Nat → tT} (h : RI S m M) (hs : RS U m) (e : ∀ i, 18 ≤ i → st_ri U (m + i) = st_ri S (m + i)) (el : st_rl U (m + 5) = st_rl S (m + 5)) (f27 : st_fi U 1027 m = st_fi S 1027 m) (f2 : st_fi U 1002 m = nI 0) (f11 : st_fi U 1011 m = chI ch') (f10 : st_fi U 1010 m = nI T') (ht : ∀ t, t < T' → RT U m t (tx' t)) : RI U m (M.1, M.2.1, M.2.2.1, M.2.2.2.1, M.2.2.2.2.1, 0, m_ts M, m_ct M, ch', T', tx') := by
  obtain ⟨a0, a1, a2, a3, a4, a5, a6, a7, a8, a9, a10, a11, a12⟩ := h
  refine ⟨hs, ?_, ?_, ?_, ?_, ?_, f2, fun j hj => absurd hj (Nat.not_lt_zero _), ?_, f11, f10, ht, ?_⟩
  · rw [e 18 (by omega)]; exact a1
  · rw [f27]; exact a2
  · rw [e 19 (by omega), e 20 (by omega), e 21 (by omega), e 22 (by omega), e 23 (by omega)]; exact a3
  · rw [e 24 (by omega)]; exact a4
  · rw [e 25 (by omega)]; exact a5
  · rw [e 29 (by omega)]; exact a8
  · rw [el]; exact a12
def RZ (S : st_T) (m : Nat) (M : mT) (r : Int32) (U : st_T) (g : sT) : Prop := match g with
  | .inl e => r = nI e ∧ RI U m (m_t0 M)
  | .inr x => r = nI 0 ∧ RI U m (m_text M x)
theorem r_text8 (h : RI S m M) (hT : m_T M = 8) : ∃ U, f_X9_text S m = some (m1, U) ∧ RI U m (m_t0 M) ∧ fq (rR m) (rF m) S U := by
  have hs := RI_s h
  have h10 := RI_T h
  rw [hT] at h10
  refine ⟨st_pi (st_pi S 1000 m (nI 0)) 1002 m (nI 0), ?_, ?_, fq_pi (fq_pi fq_rf ⟨rfl, rfl⟩) ⟨rfl, rfl⟩⟩
  · unfold f_X9_text
    clear h hT
    generalize c_N = N
    generalize f_X9_cutAll = F
    simp (disch := first | omega | assumption | (repeat first | assumption | apply RS_pi | apply RS_wi | apply RS_wl | apply CS_pi | apply CS_wi | apply CS_wl | apply CS_wo | apply CS_xo | apply RI_w15 | apply RI_w16 | apply RI_w17 | apply RI_w26 | apply RI_w27 | apply RI_w28 | apply RI_p1000)) only [↓reduceIte, ↓xg, ↓xi, ↓xl_wi, ↓xl_wl, ↓xl_pi, ↓xlI, ↓xlL, ↓xlN, xl, ↓xn, ↓xc, ↓xon, ↓xos, ↓ln_1, ↓ln_2, ↓ln_3, ↓ln_8, qli_0, qli_1, qli_2, qli_3, qli_4, qli_5, qli_6, qli_7, qli_8, qli_9, qli_10, qli_11, qli_12, qli_13, qli_14, qli_15, qli_16, qli_17, qli_18, qli_19, qli_20, qli_21, qli_22, qli_23, qli_24, qli_25, qli_26, qli_31, qli_32, qli_37, qli_39, qli_40, qli_41, qli_42, qli_43, qli_45, qli_47, qli_48, qli_49, qli_50, qli_56, qli_57, qli_59, qli_60, qli_61, qli_63, qli_64, qli_96, qli_97, qli_99, qli_100, qli_101, qli_122, qli_126, qli_143, qli_144, qli_192, qli_200, qli_201, qli_216, qli_255, qli_256, qli_780, qli_799, qli_800, qli_801, qli_802, qli_880, qli_1000, qli_5760, qli_7040, qli_7920, qli_1000000, in_t, le_t, le_f, lt_t, lt_f, eq_t, eq_f, nI_add, nI_sub', nI_mul, nI_clamp, m1_ne, m1_ne', m1_lt, m1_le, m1_nlt, m1_nle, m1_add, eq_self, not_true_eq_false, not_false_eq_true, ne_eq, Nat.reduceLeDiff, Nat.reduceLT, and_true, true_and, and_self, or_true, true_or, or_false, false_or, false_and, and_false, qK_pi, qK_pr, qK_wi, qK_wl, qK_wo, qK_xi, qK_xo, qfr_pi', qfr_wi', qfr_wl', qfr_wo', qfr_xi', qfr_xo', qfi_pr, qfi_wi, qfi_wl, qfi_wo, qfi_xi, qfi_xo, qln_pi, qln_pr, qln_wi, qln_wl, qln_wo, qln_xi, qln_xo, qri_pi, qri_pr, qri_wl, qri_wo, qri_xo, qrl_pi, qrl_pr, qrl_wi, qrl_wo, qrl_xi, qrl_xo, qro_pi, qro_pr, qro_wi, qro_wl, qro_xi, qnx_pi, qnx_pr, qnx_wi, qnx_wl, qnx_wo, qnx_xi, qnx_xo, qsa_pi, qsa_wi, qsa_wl, qsa_pr, qsa_wo, fi_pi_at, fi_pi_nk, fi_pi_na, ri_wi_at, ri_wi_ne, ri_wi_nj, rl_wl_at, rl_wl_ne, rl_wl_nj, fr_pr_at, fr_pr_nk, fr_pr_na, hs, h10]
  · refine RI_txn (ch' := m_ch M) (T' := m_T M) (tx' := m_tx M) h (RS_pi _ _ _ (RS_pi _ _ _ hs)) (fun i _ => rfl) rfl ?_ (fi_pi_at _ _ _ _) ?_ ?_ (fun t ht => ?_)
    · simp (disch := omega) only [fi_pi_nk]
    · simp (disch := omega) only [fi_pi_nk]; exact RI_ch h
    · simp (disch := omega) only [fi_pi_nk]; exact RI_T h
    · exact RT_ri (RI_tx h ht) rfl rfl rfl rfl rfl rfl
theorem r_text (h : RI S m M) (hw : wM M) (hT : m_T M < 8) : ok (f_X9_text S m) (fun r U => RZ S m M r U (xRd (tks M) 24 0 [] []) ∧ fq (rR m) (rF m) S U) := by
  have hs := RI_s h
  have h10 := RI_T h
  have hL := LG_tks hw
  have hr2 : RI (st_pi S 1000 m (nI 0)) m M := RI_p1000 h
  obtain ⟨_, T, f1, f2⟩ := r_cut hr2 hw
  obtain ⟨g1, g2, g3, g4, g5⟩ := f2
  have hs2 := RI_s hr2
  have hsT := RS_fq hs2 g5
  obtain ⟨B, hB⟩ : ∃ B, B = st_pi (st_wi (st_wi T (m + 6) 8 (nI 0)) (m + 7) 8 (nI 0)) 1018 m (nI 0) := ⟨_, rfl⟩
  have st0 : f_X9_text S m = c_w (b_X9_text_46 m) c_N B := by
    have n8 : ¬ nI (m_T M) = (8 : Int32) := neF (a := m_T M) (b := 8) (by omega) (by omega) (by omega)
    have f1' : f_X9_cutAll (st_pi S 1000 m 0) m = some ((), T) := f1
    have e10 : st_fi (st_pi S 1000 m 0) 1010 m = nI (m_T M) := by rw [fi_pi_nk _ _ _ _ _ _ (by omega)]; exact h10
    have hin6 : c_in 8 (st_ln T (m + 6)) := by
      rw [show st_ln T (m + 6) = 9 by simp only [hsT]]
      exact of_eq_true (in_t (p := 8) (n := 9) (by omega) (by omega))
    have hin7 : c_in 8 (st_ln (st_wi T (m + 6) (8 : Int32).toNatClampNeg 0) (m + 7)) := by
      show c_in 8 (st_ln T (m + 7))
      rw [show st_ln T (m + 7) = 9 by simp only [hsT]]
      exact of_eq_true (in_t (p := 8) (n := 9) (by omega) (by omega))
    have hs3 : RS (st_wi T (m + 6) (8 : Int32).toNatClampNeg 0) m := RS_wi _ _ _ hsT
    have k6 : st_K T (m + 6) = 20 := by simp only [hsT]
    have k7 : st_K (st_wi T (m + 6) (8 : Int32).toNatClampNeg 0) (m + 7) = 20 := by simp only [hs3]
    unfold f_X9_text
    rw [g_t hs.1, xl, e10, i_f n8, c_s f1', g_t hsT.1, rn_1012 hsT, g_t k6, g_t hin6, xl, rn_1013 hs3, g_t k7, g_t hin7, xl, xl, hB]
    rfl
  rw [st0]
  have wd : ∀ i, i < 14 → st_rl T (m + 5) i = wdv i := fun i hi => by
    rw [fq_rl g5 (show ¬ tR m (m + 5) by unfold tR; omega)]
    exact RI_wd hr2 hi
  have hH : QH T m (tks M) (toks (m_tz M) (m_ts M) 800 0).length := ⟨hsT, g1, wd, hL⟩
  have fqB : fq (qR m) (qF m) T B := by
    rw [hB]
    exact fq_pi (fq_wi (fq_wi fq_rf (by unfold qR; omega)) (by unfold qR; omega)) ⟨rfl, by omega⟩
  have QGB : QG T m B 0 [] [] 0 0 := by
    refine ⟨⟨fqB, fun i hi => ?_, fun i hi => ?_, fun i hi => ?_⟩, ?_, ?_, ?_, fun j hj => absurd hj (Nat.not_lt_zero _), ?_, ?_, fun j hj => absurd hj (Nat.not_lt_zero _)⟩
    · rw [hB]; simp (disch := omega) only [qri_pi, ri_wi_ne, ri_wi_nj]; exact ⟨trivial, trivial⟩
    · rw [hB]; simp (disch := omega) only [qri_pi, ri_wi_ne]; exact ⟨trivial, trivial⟩
    · rw [hB]; simp (disch := omega) only [qri_pi, ri_wi_ne]; exact ⟨trivial, trivial⟩
    · rw [hB]; simp (disch := omega) only [fi_pi_nk, qfi_wi]; exact g2
    · rw [hB]; simp (disch := omega) only [fi_pi_nk, qfi_wi]; exact g3
    · rw [hB]; exact fi_pi_at _ _ _ _
    · rw [hB]; simp (disch := omega) only [qri_pi, ri_wi_ne, ri_wi_at]
    · rw [hB]; simp (disch := omega) only [qri_pi, ri_wi_at]
  have t10 : st_fi T 1010 m = nI (m_T M) := by
    rw [fq_fi g5 (by unfold tF; omega), fi_pi_nk _ _ _ _ _ _ (by omega)]
    exact h10
  have rS : ∀ a, ¬ tR m a → st_ri T a = st_ri S a := fun a ha => fq_ri g5 ha
  refine ok_imp (r_textL hH QGB hT t10) (fun r U q => ?_)
  have fqA : fq (rR m) (rF m) S T := fq_tr (fq_pi fq_rf ⟨rfl, rfl⟩) (fq_mono g5 (fun a z => by unfold tR at z; unfold rR; omega) (fun k a z => ⟨z.1, rfl⟩))
  have wt : ∀ t, t < m_T M → (m_tx M t).1.length ≤ 24 ∧ ∀ r, r < (m_tx M t).1.length → ((m_tx M t).1.getD r (0, 0)).2 ≤ 800 := fun t ht => by
    obtain ⟨w1, w2, w3, w4, w5⟩ := wM_tx hw ht
    exact ⟨w1, fun r hr => by have := wR_le _ _ w5 r hr; omega⟩
  generalize xRd (tks M) 24 0 [] [] = G at q
  cases G with
  | inl e =>
    obtain ⟨q1, u, q2, -⟩ := q
    obtain ⟨b1, b2, b3, b4⟩ := id q2
    have hsU := QF_s hH q2
    refine ⟨⟨q1, ?_⟩, fq_tr fqA (fq_mono b1 (fun a z => by unfold qR at z; unfold rR; omega) (fun k a z => ⟨z.1, rfl⟩))⟩
    refine RI_txn (ch' := m_ch M) (T' := m_T M) (tx' := m_tx M) h hsU (fun i hi => ?_) ?_ ?_ ?_ ?_ ?_ (fun t ht => ?_)
    · rw [fq_ri b1 (by unfold qR; omega), rS _ (by unfold tR; omega)]
    · rw [fq_rl b1 (by unfold qR; omega), fq_rl g5 (by unfold tR; omega)]; rfl
    · rw [fq_fi b1 (by unfold qF; omega), fq_fi g5 (by unfold tF; omega), fi_pi_nk _ _ _ _ _ _ (by omega)]
    · rw [fq_fi b1 (by unfold qF; omega)]; exact g4
    · rw [fq_fi b1 (by unfold qF; omega), fq_fi g5 (by unfold tF; omega), fi_pi_nk _ _ _ _ _ _ (by omega)]; exact RI_ch h
    · rw [fq_fi b1 (by unfold qF; omega)]; exact t10
    · have ht8 : t < 8 := by omega
      refine RT_pt (RI_tx h ht) (wt t ht).1 (wt t ht).2 ?_ ?_ (fun r hr => ?_) (fun r hr => ?_) (fun j hj => ?_) (fun j hj => ?_)
      · rw [(b2 t ht8).1, rS _ (by unfold tR; omega)]
      · rw [(b2 t ht8).2, rS _ (by unfold tR; omega)]
      · rw [(b3 _ (by omega)).1, rS _ (by unfold tR; omega)]
      · rw [(b3 _ (by omega)).2, rS _ (by unfold tR; omega)]
      · rw [(b4 _ (by omega)).1, rS _ (by unfold tR; omega)]
      · rw [(b4 _ (by omega)).2, rS _ (by unfold tR; omega)]
  | inr y =>
    obtain ⟨q1, k1, k2, k3, k4, k5, k6, k7, k8⟩ := q
    have hsU := RS_fq hsT k5
    refine ⟨⟨q1, ?_⟩, fq_tr fqA (fq_mono k5 (fun a z => by unfold rR; omega) (fun k a z => ⟨z.1, rfl⟩))⟩
    refine RI_txn (ch' := m_T M + 1) (T' := m_T M + 1) (tx' := fun i => if i = m_T M then y else m_tx M i) h hsU (fun i hi => ?_) ?_ ?_ ?_ ?_ ?_ (fun t ht => ?_)
    · rw [fq_ri k5 (by omega), rS _ (by unfold tR; omega)]
    · rw [fq_rl k5 (by omega), fq_rl g5 (by unfold tR; omega)]; rfl
    · rw [fq_fi k5 (by omega), fq_fi g5 (by unfold tF; omega), fi_pi_nk _ _ _ _ _ _ (by omega)]
    · rw [fq_fi k5 (by omega)]; exact g4
    · rw [k2]; unfold chI; rw [if_neg (by omega), Nat.add_sub_cancel]
    · exact k3
    · by_cases z : t = m_T M
      · show RT U m t (if t = m_T M then y else m_tx M t)
        rw [if_pos z, z]
        exact k1
      · show RT U m t (if t = m_T M then y else m_tx M t)
        rw [if_neg z]
        have ht2 : t < m_T M := by omega
        have ht8 : t < 8 := by omega
        refine RT_pt (RI_tx h ht2) (wt t ht2).1 (wt t ht2).2 ?_ ?_ (fun r hr => ?_) (fun r hr => ?_) (fun j hj => ?_) (fun j hj => ?_)
        · rw [(k6 t ht8 z).1, rS _ (by unfold tR; omega)]
        · rw [(k6 t ht8 z).2, rS _ (by unfold tR; omega)]
        · rw [(k7 _ (by omega) (by omega)).1, rS _ (by unfold tR; omega)]
        · rw [(k7 _ (by omega) (by omega)).2, rS _ (by unfold tR; omega)]
        · rw [(k8 _ (by omega) (by omega)).1, rS _ (by unfold tR; omega)]
        · rw [(k8 _ (by omega) (by omega)).2, rS _ (by unfold tR; omega)]
end RY
