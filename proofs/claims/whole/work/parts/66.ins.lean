/-! line: lists, a place in between; the class's insert -/
section IN
variable {β : Type} {S S' S0 : st_T} {m x v : Nat} {M : mT} {A : aT}
def ins {α : Type} (f : Nat → α) (p : Nat) (a : α) (i : Nat) : α := if i < p then f i else if i = p then a else f (i - 1)
theorem ins_l {α : Type} {f : Nat → α} {p i : Nat} {a : α} (h : i < p) : ins f p a i = f i := if_pos h
theorem ins_e {α : Type} {f : Nat → α} {p : Nat} {a : α} : ins f p a p = a := by
  unfold ins
  rw [if_neg (by omega), if_pos rfl]
theorem ins_g {α : Type} {f : Nat → α} {p i : Nat} {a : α} (h : p < i) : ins f p a i = f (i - 1) := by
  unfold ins
  rw [if_neg (by omega), if_neg (by omega)]
theorem e_ins {l e n a p : Nat} {f : Nat → Nat} (h : LSt S l e n f) (hn : n ≤ 39) (hp : p ≤ n) (ha : st_K S a ≠ 0 ∧ st_K S a < 12) (han : a < st_nx S) (hal : a ≠ l) (hf : ∀ i, i < n → st_K S (f i) ≠ 0 ∧ st_K S (f i) < 12 ∧ f i < st_nx S ∧ f i ≠ l) (hl : l < st_nx S) (he : e < st_nx S) (hle : l ≠ e) :
    ok (f_Jx4a65c_add_7a177 S l (nI p) a) (fun _ S' => ∃ e', LSt S' l e' (n + 1) (ins f p a) ∧ ((e' = e ∧ st_K S e = 24) ∨ e' = st_nx S) ∧ st_nx S ≤ st_nx S' ∧ e' < st_nx S' ∧ st_sa S' = st_sa S ∧ og S S' (fun b => b < st_nx S ∧ b ≠ l ∧ b ≠ e')) := by
  have fin : ∀ (T : st_T) (e' : Nat), HR T l e' n f → st_K T a ≠ 0 ∧ st_K T a < 12 → (∀ i, i < n → st_K T (f i) ≠ 0 ∧ st_K T (f i) < 12) → l ≠ e' → ok (j_Jx4a65c_add_7a177_38 l (nI p) a (nI n) T e') (fun _ S' => S' = st_pi (st_wo (st_xo T e' (va_cpy (st_ro T e') (st_ro T e') p (p + 1) (n - p))) e' p (some a)) 2 l (nI (n + 1)) ∧ LSt S' l e' (n + 1) (ins f p a)) := by
    intro T e' ⟨q1, q2, q3, q4, q5, q6, q10, q7⟩ q8 q11 q9
    have elA : el_all T e' p (n - p) = true := el_t (fun i hi => ⟨f (p + i), q7 _ (by omega), q11 _ (by omega)⟩)
    have b1 : p + (n - p) ≤ st_ln T e' := by omega
    have b2 : p + 1 + (n - p) ≤ st_ln T e' := by omega
    have st : j_Jx4a65c_add_7a177_38 l (nI p) a (nI n) T e' = some ((), st_pi (st_wo (st_xo T e' (va_cpy (st_ro T e') (st_ro T e') p (p + 1) (n - p))) e' p (some a)) 2 l (nI (n + 1))) := by
      unfold j_Jx4a65c_add_7a177_38
      clear q11 q7
      simp (disch := first | omega | assumption | (repeat first | assumption | apply RS_pi | apply RS_wi | apply RS_wl | apply CS_pi | apply CS_wi | apply CS_wl | apply CS_wo | apply CS_xo | apply RI_w15 | apply RI_w16 | apply RI_w17 | apply RI_w26 | apply RI_w27 | apply RI_w28 | apply RI_p1000)) only [↓reduceIte, ↓xg, ↓xi, ↓xl_wi, ↓xl_wl, ↓xl_pi, ↓xlI, ↓xlL, ↓xlN, xl, ↓xn, ↓xc, ↓xon, ↓xos, ↓ln_1, ↓ln_2, ↓ln_3, ↓ln_8, qli_0, qli_1, qli_2, qli_3, qli_4, qli_5, qli_6, qli_7, qli_8, qli_9, qli_10, qli_11, qli_12, qli_13, qli_14, qli_15, qli_16, qli_17, qli_18, qli_19, qli_20, qli_21, qli_22, qli_23, qli_24, qli_25, qli_26, qli_31, qli_32, qli_37, qli_39, qli_40, qli_41, qli_42, qli_43, qli_45, qli_47, qli_48, qli_49, qli_50, qli_56, qli_57, qli_59, qli_60, qli_61, qli_63, qli_64, qli_96, qli_97, qli_99, qli_100, qli_101, qli_122, qli_126, qli_143, qli_144, qli_192, qli_200, qli_201, qli_216, qli_255, qli_256, qli_780, qli_799, qli_800, qli_801, qli_802, qli_880, qli_1000, qli_5760, qli_7040, qli_7920, qli_1000000, in_t, le_t, le_f, lt_t, lt_f, eq_t, eq_f, nI_add, nI_sub', nI_mul, nI_clamp, m1_ne, m1_ne', m1_lt, m1_le, m1_nlt, m1_nle, m1_add, eq_self, not_true_eq_false, not_false_eq_true, ne_eq, Nat.reduceLeDiff, Nat.reduceLT, and_true, true_and, and_self, or_true, true_or, or_false, false_or, false_and, and_false, qK_pi, qK_pr, qK_wi, qK_wl, qK_wo, qK_xi, qK_xo, qfr_pi', qfr_wi', qfr_wl', qfr_wo', qfr_xi', qfr_xo', qfi_pr, qfi_wi, qfi_wl, qfi_wo, qfi_xi, qfi_xo, qln_pi, qln_pr, qln_wi, qln_wl, qln_wo, qln_xi, qln_xo, qri_pi, qri_pr, qri_wl, qri_wo, qri_xo, qrl_pi, qrl_pr, qrl_wi, qrl_wo, qrl_xi, qrl_xo, qro_pi, qro_pr, qro_wi, qro_wl, qro_xi, qnx_pi, qnx_pr, qnx_wi, qnx_wl, qnx_wo, qnx_xi, qnx_xo, qsa_pi, qsa_wi, qsa_wl, qsa_pr, qsa_wo, fi_pi_at, fi_pi_nk, fi_pi_na, ri_wi_at, ri_wi_ne, ri_wi_nj, rl_wl_at, rl_wl_ne, rl_wl_nj, fr_pr_at, fr_pr_nk, fr_pr_na, q1, q3, q8, b1, b2, elA]
    rw [st]
    refine ok_of rfl ⟨rfl, q1, q2, fi_pi_at _ _ _ _, Or.inr ⟨q3, q4, q5, q6, q10⟩, fun i hi => ?_⟩
    rw [ro_pi, ro_wo, if_pos rfl]
    show (if i = p then some a else st_ro (st_xo T e' (va_cpy (st_ro T e') (st_ro T e') p (p + 1) (n - p))) e' i) = some (ins f p a i)
    unfold ins
    by_cases c : i = p
    · rw [if_pos c, if_neg (by omega), if_pos c]
    · rw [if_neg c, ro_xo, if_pos rfl]
      unfold va_cpy
      by_cases c2 : i < p
      · rw [if_pos c2, if_neg (by omega)]
        exact q7 i (by omega)
      · rw [if_neg c2, if_neg c, if_pos (by omega)]
        have e2 : p + (i - (p + 1)) = i - 1 := by omega
        rw [e2]
        exact q7 (i - 1) (by omega)
  obtain ⟨h1, h2, h3, h4, h5⟩ := id h
  obtain ⟨S1, hS1⟩ : ∃ S1, S1 = st_pi S 0 l (st_fi S 0 l + 1) := ⟨_, rfl⟩
  have o1 : og S S1 (fun b => b < st_nx S ∧ b ≠ l) := by rw [hS1]; exact og_pi og_rf (by omega)
  have hh1 : LSt S1 l e n f := by
    rw [hS1]
    exact LSt_ag h rfl rfl rfl rfl rfl (fi_pi_nk _ _ _ _ _ _ (by omega))
  have hx : st_nx S1 = st_nx S := by rw [hS1]; rfl
  have hk : st_K S1 = st_K S := by rw [hS1]; rfl
  have hsa : st_sa S1 = st_sa S := by rw [hS1]; rfl
  have k20 : (20 ≤ st_K S1 e ∧ st_K S1 e < 25) ∨ st_K S1 e = 30 := by rw [hk]; rcases h4 with z | z <;> omega
  obtain ⟨g1, g2, g3, g4, g5⟩ := id hh1
  have hln64 : st_ln S1 e ≤ 64 := by rcases g4 with z | z <;> omega
  have rc : f_Jx4a65c_rangeCheckForAdd_d00df S l (nI p) = some ((), S) := by
    unfold f_Jx4a65c_rangeCheckForAdd_d00df
    simp (disch := first | omega | assumption | (repeat first | assumption | apply RS_pi | apply RS_wi | apply RS_wl | apply CS_pi | apply CS_wi | apply CS_wl | apply CS_wo | apply CS_xo | apply RI_w15 | apply RI_w16 | apply RI_w17 | apply RI_w26 | apply RI_w27 | apply RI_w28 | apply RI_p1000)) only [↓reduceIte, ↓xg, ↓xi, ↓xl_wi, ↓xl_wl, ↓xl_pi, ↓xlI, ↓xlL, ↓xlN, xl, ↓xn, ↓xc, ↓xon, ↓xos, ↓ln_1, ↓ln_2, ↓ln_3, ↓ln_8, qli_0, qli_1, qli_2, qli_3, qli_4, qli_5, qli_6, qli_7, qli_8, qli_9, qli_10, qli_11, qli_12, qli_13, qli_14, qli_15, qli_16, qli_17, qli_18, qli_19, qli_20, qli_21, qli_22, qli_23, qli_24, qli_25, qli_26, qli_31, qli_32, qli_37, qli_39, qli_40, qli_41, qli_42, qli_43, qli_45, qli_47, qli_48, qli_49, qli_50, qli_56, qli_57, qli_59, qli_60, qli_61, qli_63, qli_64, qli_96, qli_97, qli_99, qli_100, qli_101, qli_122, qli_126, qli_143, qli_144, qli_192, qli_200, qli_201, qli_216, qli_255, qli_256, qli_780, qli_799, qli_800, qli_801, qli_802, qli_880, qli_1000, qli_5760, qli_7040, qli_7920, qli_1000000, in_t, le_t, le_f, lt_t, lt_f, eq_t, eq_f, nI_add, nI_sub', nI_mul, nI_clamp, m1_ne, m1_ne', m1_lt, m1_le, m1_nlt, m1_nle, m1_add, eq_self, not_true_eq_false, not_false_eq_true, ne_eq, Nat.reduceLeDiff, Nat.reduceLT, and_true, true_and, and_self, or_true, true_or, or_false, false_or, false_and, and_false, qK_pi, qK_pr, qK_wi, qK_wl, qK_wo, qK_xi, qK_xo, qfr_pi', qfr_wi', qfr_wl', qfr_wo', qfr_xi', qfr_xo', qfi_pr, qfi_wi, qfi_wl, qfi_wo, qfi_xi, qfi_xo, qln_pi, qln_pr, qln_wi, qln_wl, qln_wo, qln_xi, qln_xo, qri_pi, qri_pr, qri_wl, qri_wo, qri_xo, qrl_pi, qrl_pr, qrl_wi, qrl_wo, qrl_xi, qrl_xo, qro_pi, qro_pr, qro_wi, qro_wl, qro_xi, qnx_pi, qnx_pr, qnx_wi, qnx_wl, qnx_wo, qnx_xi, qnx_xo, qsa_pi, qsa_wi, qsa_wl, qsa_pr, qsa_wo, fi_pi_at, fi_pi_nk, fi_pi_na, ri_wi_at, ri_wi_ne, ri_wi_nj, rl_wl_at, rl_wl_ne, rl_wl_nj, fr_pr_at, fr_pr_nk, fr_pr_na, h1, h3]
  have st : f_Jx4a65c_add_7a177 S l (nI p) a = c_i (nI n = nI (st_ln S1 e)) (c_c (f_Jx4a65c_grow_d5877 S1 l) (fun r7 T7 => c_n r7 (fun p7 => j_Jx4a65c_add_7a177_38 l (nI p) a (nI n) T7 p7))) (j_Jx4a65c_add_7a177_38 l (nI p) a (nI n) S1 e) := by
    unfold f_Jx4a65c_add_7a177
    simp (disch := first | omega | assumption | (repeat first | assumption | apply RS_pi | apply RS_wi | apply RS_wl | apply CS_pi | apply CS_wi | apply CS_wl | apply CS_wo | apply CS_xo | apply RI_w15 | apply RI_w16 | apply RI_w17 | apply RI_w26 | apply RI_w27 | apply RI_w28 | apply RI_p1000)) only [↓reduceIte, ↓xg, ↓xl, ↓c_s rc, h1, hS1.symm, ↓n_s g2, g3, k20, g1, eq_self]
  rw [st]
  by_cases c : n = st_ln S1 e
  · rw [show c_i (nI n = nI (st_ln S1 e)) (c_c (f_Jx4a65c_grow_d5877 S1 l) (fun r7 T7 => c_n r7 (fun p7 => j_Jx4a65c_add_7a177_38 l (nI p) a (nI n) T7 p7))) (j_Jx4a65c_add_7a177_38 l (nI p) a (nI n) S1 e) = c_c (f_Jx4a65c_grow_d5877 S1 l) (fun r7 T7 => c_n r7 (fun p7 => j_Jx4a65c_add_7a177_38 l (nI p) a (nI n) T7 p7)) from i_t (by rw [← c])]
    have gr := e_grow hh1 hn c (fun i hi => by rw [hk, hx]; exact ⟨(hf i hi).1, (hf i hi).2.1, (hf i hi).2.2.1⟩) (by omega) (by omega)
    rw [ok_c]
    refine ok_imp gr (fun r T ⟨t1, t2, t3, t4, t5, t6⟩ => ?_)
    rw [t1]
    have ka : st_K T a ≠ 0 ∧ st_K T a < 12 := by
      have := t6 a ⟨by omega, hal⟩
      rw [this.1, hk]
      exact ha
    show ok (j_Jx4a65c_add_7a177_38 l (nI p) a (nI n) T (st_nx S1)) _
    refine ok_imp (fin T (st_nx S1) t2 ka (fun i hi => ?_) (by omega)) (fun _ S' ⟨w1, w2⟩ => ?_)
    · have y := hf i hi
      have := t6 (f i) ⟨by omega, y.2.2.2⟩
      rw [this.1, hk]
      exact ⟨y.1, y.2.1⟩
    refine ⟨st_nx S1, w2, Or.inr hx, ?_, ?_, ?_, ?_⟩
    · rw [w1, nx_pi, nx_wo, nx_xo]; omega
    · rw [w1, nx_pi, nx_wo, nx_xo]; omega
    · rw [w1]
      show st_sa T = st_sa S
      rw [t5, hsa]
    · rw [w1]
      refine og_pi (og_wo (og_xo (og_tr (og_mono o1 (fun b hb => ⟨hb.1, hb.2.1⟩)) (og_mono t6 (fun b hb => ⟨by omega, hb.2.1⟩))) (by omega)) (by omega)) (by omega)
  · rw [show c_i (nI n = nI (st_ln S1 e)) (c_c (f_Jx4a65c_grow_d5877 S1 l) (fun r7 T7 => c_n r7 (fun p7 => j_Jx4a65c_add_7a177_38 l (nI p) a (nI n) T7 p7))) (j_Jx4a65c_add_7a177_38 l (nI p) a (nI n) S1 e) = j_Jx4a65c_add_7a177_38 l (nI p) a (nI n) S1 e from i_f (fun z => c ((nI_eq (by omega) (by omega)).mp z))]
    have g6 : st_K S1 e = 24 ∧ n ≤ st_ln S1 e ∧ 10 ≤ st_ln S1 e ∧ st_ln S1 e ≤ 64 ∧ l < e := by
      rcases g4 with z | z
      · omega
      · exact z
    have hr : HR S1 l e n f := ⟨g1, g2, g6.1, by omega, g6.2.2.1, g6.2.2.2.1, g6.2.2.2.2, g5⟩
    refine ok_imp (fin S1 e hr (by rw [hk]; exact ha) (fun i hi => by rw [hk]; exact ⟨(hf i hi).1, (hf i hi).2.1⟩) hle) (fun _ S' ⟨w1, w2⟩ => ?_)
    refine ⟨e, w2, Or.inl ⟨rfl, by rw [← hk]; exact g6.1⟩, ?_, ?_, ?_, ?_⟩
    · rw [w1, nx_pi, nx_wo, nx_xo]; omega
    · rw [w1, nx_pi, nx_wo, nx_xo]; omega
    · rw [w1]
      show st_sa S1 = st_sa S
      exact hsa
    · rw [w1]
      refine og_pi (og_wo (og_xo (og_mono o1 (fun b hb => ⟨hb.1, hb.2.1⟩)) (by omega)) (by omega)) (by omega)
/-- new cells alone: the class's picture stays -/
theorem CI_og (h : CI S x A M v) (g : og S S' (fun b => b < st_nx S)) (hs : st_sa S' = st_sa S) (hn : st_nx S ≤ st_nx S') : CI S' x A M v := by
  obtain ⟨c1, c2, c3, c4, c5, c6, c7, c8, c9, c10, c11, c12, c13, c14, c15⟩ := h
  have hx := AD_x c15
  have h1 := AD_ed c15
  have h2 := AD_et c15
  refine ⟨CS_og c1 g (fun i hi => by omega), SA_og c2 g hs (fun a ha => by omega), ?_, LSt_og c4 g (by omega) (by omega) hs, fun i hi => ?_, fun i hi => ?_, LSt_og c7 g (by omega) (by omega) hs, fun t ht => TX_og (c8 t ht) g (AD_t c15 ht).2 (fun j hj => (AD_b c15 ht hj).2), ?_, ?_, ?_, ?_, ?_, ?_, AD_mono c15 hn⟩
  · rw [(g (x + 2) (by omega)).2.2.1]; exact c3
  · exact CDi_og (c5 i hi) g hs (AD_d c15 hi).2 (AD_l c15 hi).2 (by have := AD_e c15 hi; omega) (fun k hk => (AD_n c15 hi hk).2)
  · exact CV_og (c6 i hi) g (AD_d c15 hi).2 (fun k hk => (AD_n c15 hi hk).2)
  · rw [(g (x + 10) (by omega)).2.2.2.2.2.1]; exact c9
  · rw [(g (x + 11) (by omega)).2.2.1]; exact c10
  · rw [(g (x + 23) (by omega)).2.2.1]; exact c11
  · rw [(g x (by omega)).2.2.2.2.2.1]; exact c12
  · rw [(g x (by omega)).2.2.2.2.2.1]; exact c13
  · rw [(g (x + 5) (by omega)).2.2.2.2.2.1]; exact c14
/-! the mathematics -/
def m_line (M : mT) (d p : Nat) (l : Nat → Nat) : mT := (M.1, M.2.1, M.2.2.1, (fun i => if i = d then m_nl M d + 1 else m_nl M i), (fun i => if i = d then ins (m_lv M d) p l else m_lv M i), M.2.2.2.2.2)
theorem nl_line {d p i : Nat} {l : Nat → Nat} : m_nl (m_line M d p l) i = if i = d then m_nl M d + 1 else m_nl M i := rfl
theorem lv_line {d p i : Nat} {l : Nat → Nat} : m_lv (m_line M d p l) i = if i = d then ins (m_lv M d) p l else m_lv M i := rfl
theorem wM_line {d p : Nat} {l : Nat → Nat} (hw : wM M) (hd : d < m_D M) (hn : m_nl M d < 24) (hl : wL l) (hi : isI M d (l 0) p) (hv : p < m_nl M d → l 1 < m_lv M d p 0) (hb : l 5 / 2 ^ m_dd M d 1 % 2 = 0) : wM (m_line M d p l) := by
  obtain ⟨a1, a2, a3, a4, a5, a6, a7, a8, a9, a10, a11, a12, a13, a14⟩ := hw
  obtain ⟨i1, i2, i3⟩ := hi
  refine ⟨a1, a2, a3, fun i => ?_, fun i hi => ?_, fun i k hk => ?_, fun i k hk => ?_, a8, a9, a10, a11, a12, a13, fun i k hk => ?_⟩
  · rw [nl_line]
    have := a4 i
    split <;> omega
  · have hi' : m_D M ≤ i := hi
    rw [nl_line, if_neg (by omega)]
    exact a5 i hi'
  · rw [nl_line] at hk
    rw [lv_line]
    by_cases e : i = d
    · rw [if_pos e] at hk ⊢
      by_cases c : k < p
      · rw [ins_l c]; exact a6 d k (by omega)
      · by_cases c2 : k = p
        · rw [c2, ins_e]; exact hl
        · rw [ins_g (by omega)]; exact a6 d (k - 1) (by omega)
    · rw [if_neg e] at hk ⊢
      exact a6 i k hk
  · rw [nl_line] at hk
    rw [lv_line]
    by_cases e : i = d
    · rw [if_pos e] at hk ⊢
      by_cases c : k + 1 < p
      · rw [ins_l c, ins_l (by omega)]
        exact a7 d k (by omega)
      · by_cases c2 : k + 1 = p
        · rw [c2, ins_e, ins_l (by omega)]
          exact i2 k (by omega)
        · by_cases c3 : k = p
          · rw [c3, ins_e, ins_g (by omega)]
            have : p + 1 - 1 = p := by omega
            rw [this]
            exact hv (by omega)
          · rw [ins_g (by omega), ins_g (by omega)]
            have q := a7 d (k - 1) (by omega)
            have e1 : k - 1 + 1 = k + 1 - 1 := by omega
            rw [e1] at q
            exact q
    · rw [if_neg e] at hk ⊢
      exact a7 i k hk
  · rw [nl_line] at hk
    rw [lv_line]
    show (if i = d then ins (m_lv M d) p l else m_lv M i) k 5 / 2 ^ m_dd M i 1 % 2 = 0
    by_cases e : i = d
    · rw [if_pos e] at hk ⊢
      rw [e]
      by_cases c : k < p
      · rw [ins_l c]; exact a14 d k (by omega)
      · by_cases c2 : k = p
        · rw [c2, ins_e]; exact hb
        · rw [ins_g (by omega)]; exact a14 d (k - 1) (by omega)
    · rw [if_neg e] at hk ⊢
      exact a14 i k hk
/-! the class: the walk of insert -/
theorem c_in_ov {d c p : Nat} {l : Nat → Nat} (h : CI S x A M v) (hw : wM M) (hd : d < m_D M) (hc : CL S c l) (hl : wL l) (hi : isI M d (l 0) p) (h1 : p < m_nl M d) (h2 : m_lv M d p 0 ≤ l 1) : f_X1_insert S (a_d A d) c = some (nI 0, S) := by
  have hnl := wM_nl hw d
  obtain ⟨i1, i2, i3⟩ := hi
  obtain ⟨d0, d1, d2, d3, d4, d5, d6, d7, d8⟩ := CI_d h hd
  have d9 := d7.1
  obtain ⟨k0, k1, k2, k3, k4, k5, k6⟩ := hc
  obtain ⟨r1, r2, r3⟩ := hl
  have i3' := i3 h1
  unfold f_X1_insert
  refine w_cnt0 p (fun k => (S, nI k, nI k)) (fun k hk rec => ?_) (fun rec => ?_) c_N 0 (by omega) (N_big (by omega))
  · obtain ⟨b1, b2, b3⟩ := wM_lv hw (show k < m_nl M d by omega)
    obtain ⟨l0, l1, l2, l3⟩ := d8 k (by omega)
    have y := i2 k hk
    have ec := e_tic2 l0 k0 l1 l2 k1 k2 b2 r2 (by omega) (by omega)
    have z : (if l 1 < m_lv M d k 1 then l 1 else m_lv M d k 1) + 1 - (if m_lv M d k 0 < l 0 then l 0 else m_lv M d k 0) = 0 := by split <;> split <;> omega
    rw [z] at ec
    have hk2 : k < m_nl M d := by omega
    clear h hw d8 i2 i3
    simp (disch := first | omega | assumption | (repeat first | assumption | apply RS_pi | apply RS_wi | apply RS_wl | apply CS_pi | apply CS_wi | apply CS_wl | apply CS_wo | apply CS_xo | apply RI_w15 | apply RI_w16 | apply RI_w17 | apply RI_w26 | apply RI_w27 | apply RI_w28 | apply RI_p1000)) only [b_X1_insert_4, j_X1_insert_57, ↓reduceIte, ↓xg, ↓xi, ↓xl_wi, ↓xl_wl, ↓xl_pi, ↓xlI, ↓xlL, ↓xlN, xl, ↓xn, ↓xc, ↓xon, ↓xos, ↓ln_1, ↓ln_2, ↓ln_3, ↓ln_8, qli_0, qli_1, qli_2, qli_3, qli_4, qli_5, qli_6, qli_7, qli_8, qli_9, qli_10, qli_11, qli_12, qli_13, qli_14, qli_15, qli_16, qli_17, qli_18, qli_19, qli_20, qli_21, qli_22, qli_23, qli_24, qli_25, qli_26, qli_31, qli_32, qli_37, qli_39, qli_40, qli_41, qli_42, qli_43, qli_45, qli_47, qli_48, qli_49, qli_50, qli_56, qli_57, qli_59, qli_60, qli_61, qli_63, qli_64, qli_96, qli_97, qli_99, qli_100, qli_101, qli_122, qli_126, qli_143, qli_144, qli_192, qli_200, qli_201, qli_216, qli_255, qli_256, qli_780, qli_799, qli_800, qli_801, qli_802, qli_880, qli_1000, qli_5760, qli_7040, qli_7920, qli_1000000, in_t, le_t, le_f, lt_t, lt_f, eq_t, eq_f, nI_add, nI_sub', nI_mul, nI_clamp, m1_ne, m1_ne', m1_lt, m1_le, m1_nlt, m1_nle, m1_add, eq_self, not_true_eq_false, not_false_eq_true, ne_eq, Nat.reduceLeDiff, Nat.reduceLT, and_true, true_and, and_self, or_true, true_or, or_false, false_or, false_and, and_false, qK_pi, qK_pr, qK_wi, qK_wl, qK_wo, qK_xi, qK_xo, qfr_pi', qfr_wi', qfr_wl', qfr_wo', qfr_xi', qfr_xo', qfi_pr, qfi_wi, qfi_wl, qfi_wo, qfi_xi, qfi_xo, qln_pi, qln_pr, qln_wi, qln_wl, qln_wo, qln_xi, qln_xo, qri_pi, qri_pr, qri_wl, qri_wo, qri_xo, qrl_pi, qrl_pr, qrl_wi, qrl_wo, qrl_xi, qrl_xo, qro_pi, qro_pr, qro_wi, qro_wl, qro_xi, qnx_pi, qnx_pr, qnx_wi, qnx_wl, qnx_wo, qnx_xi, qnx_xo, qsa_pi, qsa_wi, qsa_wl, qsa_pr, qsa_wo, fi_pi_at, fi_pi_nk, fi_pi_na, ri_wi_at, ri_wi_ne, ri_wi_nj, rl_wl_at, rl_wl_ne, rl_wl_nj, fr_pr_at, fr_pr_nk, fr_pr_na, d0, ↓n_s d6, d9, ↓cSl d7, ↓cGl d7 hk2 (by omega), l0, l2, k0, k1, ↓c_s ec]
  · obtain ⟨b1, b2, b3⟩ := wM_lv hw h1
    obtain ⟨l0, l1, l2, l3⟩ := d8 p h1
    have ec := e_tic2 l0 k0 l1 l2 k1 k2 b2 r2 (by omega) (by omega)
    have z : 1 ≤ (if l 1 < m_lv M d p 1 then l 1 else m_lv M d p 1) + 1 - (if m_lv M d p 0 < l 0 then l 0 else m_lv M d p 0) := by split <;> split <;> omega
    have z2 : (if l 1 < m_lv M d p 1 then l 1 else m_lv M d p 1) + 1 - (if m_lv M d p 0 < l 0 then l 0 else m_lv M d p 0) ≤ 144 := by split <;> split <;> omega
    generalize (if l 1 < m_lv M d p 1 then l 1 else m_lv M d p 1) + 1 - (if m_lv M d p 0 < l 0 then l 0 else m_lv M d p 0) = u at *
    clear h hw d8 i2 i3
    simp (disch := first | omega | assumption | (repeat first | assumption | apply RS_pi | apply RS_wi | apply RS_wl | apply CS_pi | apply CS_wi | apply CS_wl | apply CS_wo | apply CS_xo | apply RI_w15 | apply RI_w16 | apply RI_w17 | apply RI_w26 | apply RI_w27 | apply RI_w28 | apply RI_p1000)) only [b_X1_insert_4, j_X1_insert_57, ↓reduceIte, ↓xg, ↓xi, ↓xl_wi, ↓xl_wl, ↓xl_pi, ↓xlI, ↓xlL, ↓xlN, xl, ↓xn, ↓xc, ↓xon, ↓xos, ↓ln_1, ↓ln_2, ↓ln_3, ↓ln_8, qli_0, qli_1, qli_2, qli_3, qli_4, qli_5, qli_6, qli_7, qli_8, qli_9, qli_10, qli_11, qli_12, qli_13, qli_14, qli_15, qli_16, qli_17, qli_18, qli_19, qli_20, qli_21, qli_22, qli_23, qli_24, qli_25, qli_26, qli_31, qli_32, qli_37, qli_39, qli_40, qli_41, qli_42, qli_43, qli_45, qli_47, qli_48, qli_49, qli_50, qli_56, qli_57, qli_59, qli_60, qli_61, qli_63, qli_64, qli_96, qli_97, qli_99, qli_100, qli_101, qli_122, qli_126, qli_143, qli_144, qli_192, qli_200, qli_201, qli_216, qli_255, qli_256, qli_780, qli_799, qli_800, qli_801, qli_802, qli_880, qli_1000, qli_5760, qli_7040, qli_7920, qli_1000000, in_t, le_t, le_f, lt_t, lt_f, eq_t, eq_f, nI_add, nI_sub', nI_mul, nI_clamp, m1_ne, m1_ne', m1_lt, m1_le, m1_nlt, m1_nle, m1_add, eq_self, not_true_eq_false, not_false_eq_true, ne_eq, Nat.reduceLeDiff, Nat.reduceLT, and_true, true_and, and_self, or_true, true_or, or_false, false_or, false_and, and_false, qK_pi, qK_pr, qK_wi, qK_wl, qK_wo, qK_xi, qK_xo, qfr_pi', qfr_wi', qfr_wl', qfr_wo', qfr_xi', qfr_xo', qfi_pr, qfi_wi, qfi_wl, qfi_wo, qfi_xi, qfi_xo, qln_pi, qln_pr, qln_wi, qln_wl, qln_wo, qln_xi, qln_xo, qri_pi, qri_pr, qri_wl, qri_wo, qri_xo, qrl_pi, qrl_pr, qrl_wi, qrl_wo, qrl_xi, qrl_xo, qro_pi, qro_pr, qro_wi, qro_wl, qro_xi, qnx_pi, qnx_pr, qnx_wi, qnx_wl, qnx_wo, qnx_xi, qnx_xo, qsa_pi, qsa_wi, qsa_wl, qsa_pr, qsa_wo, fi_pi_at, fi_pi_nk, fi_pi_na, ri_wi_at, ri_wi_ne, ri_wi_nj, rl_wl_at, rl_wl_ne, rl_wl_nj, fr_pr_at, fr_pr_nk, fr_pr_na, d0, ↓n_s d6, d9, ↓cSl d7, ↓cGl d7 h1 (by omega), l0, l2, k0, k1, ↓c_s ec]
theorem c_in_go {d c p : Nat} {l : Nat → Nat} (h : CI S x A M v) (hw : wM M) (hd : d < m_D M) (hc : CL S c l) (hl : wL l) (hi : isI M d (l 0) p) (hv : p < m_nl M d → l 1 < m_lv M d p 0) : f_X1_insert S (a_d A d) c = c_c (f_Jx4a65c_add_7a177 S (a_l A d) (nI p) c) (fun _ T => c_g (st_K T (a_d A d) = 3) (c_l (st_pi T 206 (a_d A d) (-1)) (fun T2 => some (1, T2)))) := by
  have hnl := wM_nl hw d
  obtain ⟨i1, i2, i3⟩ := hi
  obtain ⟨d0, d1, d2, d3, d4, d5, d6, d7, d8⟩ := CI_d h hd
  have d9 := d7.1
  obtain ⟨k0, k1, k2, k3, k4, k5, k6⟩ := hc
  obtain ⟨r1, r2, r3⟩ := hl
  unfold f_X1_insert
  refine w_cnt0 (m_nl M d) (fun k => (S, nI (if k ≤ p then k else p), nI k)) (fun k hk rec => ?_) (fun rec => ?_) c_N 0 (by omega) (N_big (by omega))
  · obtain ⟨b1, b2, b3⟩ := wM_lv hw hk
    obtain ⟨l0, l1, l2, l3⟩ := d8 k hk
    have ec := e_tic2 l0 k0 l1 l2 k1 k2 b2 r2 (by omega) (by omega)
    by_cases c1 : k < p
    · have y := i2 k c1
      have z : (if l 1 < m_lv M d k 1 then l 1 else m_lv M d k 1) + 1 - (if m_lv M d k 0 < l 0 then l 0 else m_lv M d k 0) = 0 := by split <;> split <;> omega
      rw [z] at ec
      rw [if_pos (by omega), if_pos (by omega)]
      clear h hw d8 i2 i3 hv
      simp (disch := first | omega | assumption | (repeat first | assumption | apply RS_pi | apply RS_wi | apply RS_wl | apply CS_pi | apply CS_wi | apply CS_wl | apply CS_wo | apply CS_xo | apply RI_w15 | apply RI_w16 | apply RI_w17 | apply RI_w26 | apply RI_w27 | apply RI_w28 | apply RI_p1000)) only [b_X1_insert_4, j_X1_insert_57, ↓reduceIte, ↓xg, ↓xi, ↓xl_wi, ↓xl_wl, ↓xl_pi, ↓xlI, ↓xlL, ↓xlN, xl, ↓xn, ↓xc, ↓xon, ↓xos, ↓ln_1, ↓ln_2, ↓ln_3, ↓ln_8, qli_0, qli_1, qli_2, qli_3, qli_4, qli_5, qli_6, qli_7, qli_8, qli_9, qli_10, qli_11, qli_12, qli_13, qli_14, qli_15, qli_16, qli_17, qli_18, qli_19, qli_20, qli_21, qli_22, qli_23, qli_24, qli_25, qli_26, qli_31, qli_32, qli_37, qli_39, qli_40, qli_41, qli_42, qli_43, qli_45, qli_47, qli_48, qli_49, qli_50, qli_56, qli_57, qli_59, qli_60, qli_61, qli_63, qli_64, qli_96, qli_97, qli_99, qli_100, qli_101, qli_122, qli_126, qli_143, qli_144, qli_192, qli_200, qli_201, qli_216, qli_255, qli_256, qli_780, qli_799, qli_800, qli_801, qli_802, qli_880, qli_1000, qli_5760, qli_7040, qli_7920, qli_1000000, in_t, le_t, le_f, lt_t, lt_f, eq_t, eq_f, nI_add, nI_sub', nI_mul, nI_clamp, m1_ne, m1_ne', m1_lt, m1_le, m1_nlt, m1_nle, m1_add, eq_self, not_true_eq_false, not_false_eq_true, ne_eq, Nat.reduceLeDiff, Nat.reduceLT, and_true, true_and, and_self, or_true, true_or, or_false, false_or, false_and, and_false, qK_pi, qK_pr, qK_wi, qK_wl, qK_wo, qK_xi, qK_xo, qfr_pi', qfr_wi', qfr_wl', qfr_wo', qfr_xi', qfr_xo', qfi_pr, qfi_wi, qfi_wl, qfi_wo, qfi_xi, qfi_xo, qln_pi, qln_pr, qln_wi, qln_wl, qln_wo, qln_xi, qln_xo, qri_pi, qri_pr, qri_wl, qri_wo, qri_xo, qrl_pi, qrl_pr, qrl_wi, qrl_wo, qrl_xi, qrl_xo, qro_pi, qro_pr, qro_wi, qro_wl, qro_xi, qnx_pi, qnx_pr, qnx_wi, qnx_wl, qnx_wo, qnx_xi, qnx_xo, qsa_pi, qsa_wi, qsa_wl, qsa_pr, qsa_wo, fi_pi_at, fi_pi_nk, fi_pi_na, ri_wi_at, ri_wi_ne, ri_wi_nj, rl_wl_at, rl_wl_ne, rl_wl_nj, fr_pr_at, fr_pr_nk, fr_pr_na, d0, ↓n_s d6, d9, ↓cSl d7, ↓cGl d7 hk (by omega), l0, l2, k0, k1, ↓c_s ec]
    · have y := i3 (by omega)
      have y2 := hv (by omega)
      have y3 : m_lv M d p 0 ≤ m_lv M d k 0 ∧ m_lv M d p 1 ≤ m_lv M d k 1 := by
        by_cases e : k = p
        · rw [e]; exact ⟨Nat.le_refl _, Nat.le_refl _⟩
        · have q1 := wM_lt hw hk (show p < k by omega)
          have q2 := (wM_lv hw (show p < m_nl M d by omega)).1
          omega
      have z : (if l 1 < m_lv M d k 1 then l 1 else m_lv M d k 1) + 1 - (if m_lv M d k 0 < l 0 then l 0 else m_lv M d k 0) = 0 := by split <;> split <;> omega
      rw [z] at ec
      have e1 : (if k ≤ p then k else p) = p := by split <;> omega
      have e2 : (if k + 1 ≤ p then k + 1 else p) = p := by split <;> omega
      rw [e1, e2]
      clear h hw d8 i2 i3 hv
      simp (disch := first | omega | assumption | (repeat first | assumption | apply RS_pi | apply RS_wi | apply RS_wl | apply CS_pi | apply CS_wi | apply CS_wl | apply CS_wo | apply CS_xo | apply RI_w15 | apply RI_w16 | apply RI_w17 | apply RI_w26 | apply RI_w27 | apply RI_w28 | apply RI_p1000)) only [b_X1_insert_4, j_X1_insert_57, ↓reduceIte, ↓xg, ↓xi, ↓xl_wi, ↓xl_wl, ↓xl_pi, ↓xlI, ↓xlL, ↓xlN, xl, ↓xn, ↓xc, ↓xon, ↓xos, ↓ln_1, ↓ln_2, ↓ln_3, ↓ln_8, qli_0, qli_1, qli_2, qli_3, qli_4, qli_5, qli_6, qli_7, qli_8, qli_9, qli_10, qli_11, qli_12, qli_13, qli_14, qli_15, qli_16, qli_17, qli_18, qli_19, qli_20, qli_21, qli_22, qli_23, qli_24, qli_25, qli_26, qli_31, qli_32, qli_37, qli_39, qli_40, qli_41, qli_42, qli_43, qli_45, qli_47, qli_48, qli_49, qli_50, qli_56, qli_57, qli_59, qli_60, qli_61, qli_63, qli_64, qli_96, qli_97, qli_99, qli_100, qli_101, qli_122, qli_126, qli_143, qli_144, qli_192, qli_200, qli_201, qli_216, qli_255, qli_256, qli_780, qli_799, qli_800, qli_801, qli_802, qli_880, qli_1000, qli_5760, qli_7040, qli_7920, qli_1000000, in_t, le_t, le_f, lt_t, lt_f, eq_t, eq_f, nI_add, nI_sub', nI_mul, nI_clamp, m1_ne, m1_ne', m1_lt, m1_le, m1_nlt, m1_nle, m1_add, eq_self, not_true_eq_false, not_false_eq_true, ne_eq, Nat.reduceLeDiff, Nat.reduceLT, and_true, true_and, and_self, or_true, true_or, or_false, false_or, false_and, and_false, qK_pi, qK_pr, qK_wi, qK_wl, qK_wo, qK_xi, qK_xo, qfr_pi', qfr_wi', qfr_wl', qfr_wo', qfr_xi', qfr_xo', qfi_pr, qfi_wi, qfi_wl, qfi_wo, qfi_xi, qfi_xo, qln_pi, qln_pr, qln_wi, qln_wl, qln_wo, qln_xi, qln_xo, qri_pi, qri_pr, qri_wl, qri_wo, qri_xo, qrl_pi, qrl_pr, qrl_wi, qrl_wo, qrl_xi, qrl_xo, qro_pi, qro_pr, qro_wi, qro_wl, qro_xi, qnx_pi, qnx_pr, qnx_wi, qnx_wl, qnx_wo, qnx_xi, qnx_xo, qsa_pi, qsa_wi, qsa_wl, qsa_pr, qsa_wo, fi_pi_at, fi_pi_nk, fi_pi_na, ri_wi_at, ri_wi_ne, ri_wi_nj, rl_wl_at, rl_wl_ne, rl_wl_nj, fr_pr_at, fr_pr_nk, fr_pr_na, d0, ↓n_s d6, d9, ↓cSl d7, ↓cGl d7 hk (by omega), l0, l2, k0, k1, ↓c_s ec, Nat.add_zero]
  · have e1 : (if m_nl M d ≤ p then m_nl M d else p) = p := by split <;> omega
    rw [e1]
    clear h hw d8 i2 i3 hv
    unfold b_X1_insert_4
    generalize f_Jx4a65c_add_7a177 = F
    simp (disch := first | omega | assumption | (repeat first | assumption | apply RS_pi | apply RS_wi | apply RS_wl | apply CS_pi | apply CS_wi | apply CS_wl | apply CS_wo | apply CS_xo | apply RI_w15 | apply RI_w16 | apply RI_w17 | apply RI_w26 | apply RI_w27 | apply RI_w28 | apply RI_p1000)) only [↓reduceIte, ↓xg, ↓xi, ↓xn, d0, ↓n_s d6, d9, ↓cSl d7, eq_self, le_t]
end IN
