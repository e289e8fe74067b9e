/-! text: both -/
section TB
variable {β : Type} {S S' S0 T U : st_T} {m x v n : Nat} {M : mT} {A : aT} {L : List (Nat × Nat × Nat)} {rs st : List (Nat × Nat)} {mn : Nat}
theorem c_addt {y : tT} {c : Nat} {b : Nat → Nat} (hI : CI S x A M v) (hz : m_tz M = 0) (hT : m_T M < 8) (hc : TX S c b y) (hc1 : x + 54 < c) (hc2 : c < st_nx S) (hb : ∀ j, j < 4 → x + 54 < b j ∧ b j < st_nx S) :
    ok (f_Jx4a65c_add_9ea2d S (x + 4) c) (fun _ S' => CS S' x ∧ (∃ e', LSt S' (x + 4) e' (m_T M + 1) (fun i => if i = m_T M then c else a_t A i)) ∧ st_fi S' 909 x = nI v ∧ ∃ A', CI (st_pi (st_pi S' 908 x (nI (m_T M))) 909 x (nI (v + 1))) x A' (m_text M y) (v + 1) ∧ fc x S (st_pi (st_pi S' 908 x (nI (m_T M))) 909 x (nI (v + 1)))) := by
  obtain ⟨c1, c2, c3, c4, c5, c6, c7, c8, c9, c10, c11, c12, c13, c14, c15⟩ := hI
  have hx := AD_x c15
  have het : a_et A < st_nx S := by have := AD_et c15; omega
  refine ok_imp (e_add c7 (by omega) (by rw [hc.1]; omega) hc2 (by omega) (fun i hi => ?_) (by omega) het ?_) (fun _ S' ⟨e', w1, w2, w3, w4, w5, w6⟩ => ?_)
  · have b1 := AD_t c15 hi
    rw [(c8 i hi).1]
    omega
  · have := AD_et c15; omega
  have ge : (e' = a_et A ∧ x + 54 < e') ∨ e' = st_nx S := by
    rcases w2 with q | q
    · left
      refine ⟨q.1, ?_⟩
      rcases c7.2.2.2.1 with z | z
      · have := q.2; omega
      · have := AD_et c15; omega
    · right; exact q
  have knd : ∀ b, b < st_nx S → st_K S b ≠ 24 → b ≠ e' := by
    intro b hb hk z
    rcases w2 with q | q
    · rw [z, q.1] at hk
      exact hk q.2
    · omega
  have eX : ∀ b, b ≤ x + 54 → b ≠ x + 4 → b < st_nx S ∧ b ≠ x + 4 ∧ b ≠ e' := fun b h1 h2 => ⟨by omega, h2, by rcases ge with q | q <;> omega⟩
  have hcs : CS S' x := CS_og2 c1 w6 (fun i h1 h2 h3 => eX _ (by omega) (by omega)) ((w6 (x + 3) (eX _ (by omega) (by omega))).1) (by rw [w1.1, c7.1])
  have f9 : st_fi S' 909 x = nI v := by rw [(w6 x (eX _ (by omega) (by omega))).2.2.2.2.2.1]; exact c13
  refine ⟨hcs, ⟨e', w1⟩, f9, ?_⟩
  obtain ⟨W, hW⟩ : ∃ W, W = st_pi (st_pi S' 908 x (nI (m_T M))) 909 x (nI (v + 1)) := ⟨_, rfl⟩
  rw [← hW]
  have o2 : og S W (fun b => b < st_nx S ∧ b ≠ x + 4 ∧ b ≠ e' ∧ b ≠ x) := by
    rw [hW]
    exact og_pi (og_pi (og_mono w6 (fun b hb => ⟨hb.1, hb.2.1, hb.2.2.1⟩)) (by omega)) (by omega)
  have hs' : st_sa W = st_sa S := by rw [hW]; exact w5
  have hnx : st_nx W = st_nx S' := by rw [hW]; rfl
  have eY : ∀ b, b ≤ x + 54 → b ≠ x + 4 → b ≠ x → b < st_nx S ∧ b ≠ x + 4 ∧ b ≠ e' ∧ b ≠ x := fun b h1 h2 h3 => ⟨by omega, h2, by rcases ge with q | q <;> omega, h3⟩
  have eL : ∀ b, x + 54 < b → b < st_nx S → st_K S b ≠ 24 → b < st_nx S ∧ b ≠ x + 4 ∧ b ≠ e' ∧ b ≠ x := fun b h0 h1 h2 => ⟨h1, by omega, knd b h1 h2, by omega⟩
  have eE : ∀ b, b < x ∨ (x + 54 < b ∧ b < st_nx S) → (b = a_et A → b < x) → b < st_nx S ∧ b ≠ x + 4 ∧ b ≠ e' ∧ b ≠ x := fun b h1 h2 => ⟨by omega, by omega, (by
    intro z
    rcases ge with q | q
    · have := h2 (z.trans q.1); omega
    · omega), by omega⟩
  obtain ⟨A', hA⟩ : ∃ A' : aT, A' = (A.1, A.2.1, A.2.2.1, A.2.2.2.1, A.2.2.2.2.1, e', (fun i => if i = m_T M then c else a_t A i), (fun i => if i = m_T M then b else a_b A i)) := ⟨_, rfl⟩
  have d_n : a_d A' = a_d A := by rw [hA]; rfl
  have l_n : a_l A' = a_l A := by rw [hA]; rfl
  have e_n : a_e A' = a_e A := by rw [hA]; rfl
  have n_n : a_n A' = a_n A := by rw [hA]; rfl
  have ed_n : a_ed A' = a_ed A := by rw [hA]; rfl
  have et_n : a_et A' = e' := by rw [hA]; rfl
  have t_n : ∀ i, a_t A' i = if i = m_T M then c else a_t A i := fun i => by rw [hA]; rfl
  have b_n : ∀ i, a_b A' i = if i = m_T M then b else a_b A i := fun i => by rw [hA]; rfl
  refine ⟨A', ⟨?_, SA_og c2 o2 hs' (fun a ha => eY _ (by omega) (by omega) (by omega)), ?_, ?_, ?_, ?_, ?_, ?_, ?_, fun j hj => absurd hj (Nat.not_lt_zero _), ?_, ?_, ?_, ?_, ?_⟩, fc_og o2 (fun a g1 g2 => eY _ g2 (by omega) (by omega))⟩
  · rw [hW]; exact CS_pi _ _ _ (CS_pi _ _ _ hcs)
  · rw [(o2 (x + 2) (eY _ (by omega) (by omega) (by omega))).2.2.1]; exact c3
  · rw [ed_n, d_n]
    exact LSt_og c4 o2 (eY _ (by omega) (by omega) (by omega)) (eE _ (AD_ed c15) (fun z => AD_eq c15 z)) hs'
  · intro i hi
    have hi2 : i < m_D M := hi
    have k := c5 i hi2
    have b1 := AD_d c15 hi2
    have b2 := AD_l c15 hi2
    unfold CDi
    rw [d_n, l_n, e_n, n_n]
    exact CDi_og k o2 hs' (eL _ b1.1 b1.2 (by rw [k.1]; omega)) (eL _ b2.1 b2.2 (by rw [k.2.2.2.2.2.2.2.1.1]; omega)) (eE _ (AD_e c15 hi2) (fun z => AD_ee c15 hi2 (Or.inr z))) (fun kk hk => by
      have b3 := AD_n c15 hi2 hk
      exact eL _ b3.1 b3.2 (by rw [(k.2.2.2.2.2.2.2.2 kk hk).1]; omega))
  · intro i hi
    have hi2 : i < m_D M := hi
    have k := c5 i hi2
    have b1 := AD_d c15 hi2
    have q := CV_og (S' := W) (c6 i hi2) o2 (eL _ b1.1 b1.2 (by rw [k.1]; omega)) (fun kk hk => by
      have b3 := AD_n c15 hi2 hk
      exact eL _ b3.1 b3.2 (by rw [(k.2.2.2.2.2.2.2.2 kk hk).1]; omega))
    have q2 : CV W A (m_text M y) (v + 1) i := CV_new q
    unfold CV CO at q2 ⊢
    rw [d_n, n_n]
    exact q2
  · rw [et_n]
    have e1 : a_t A' = fun i => if i = m_T M then c else a_t A i := funext t_n
    rw [e1, hW]
    exact LSt_ag w1 rfl rfl rfl rfl rfl (by rw [fi_pi_nk _ _ _ _ _ _ (by omega), fi_pi_nk _ _ _ _ _ _ (by omega)])
  · intro t ht
    have ht' : t < m_T M + 1 := ht
    rw [t_n, b_n]
    show TX W (if t = m_T M then c else a_t A t) (if t = m_T M then b else a_b A t) (if t = m_T M then y else m_tx M t)
    have k20 : ∀ {a : Nat} {bb : Nat → Nat} {yy : tT}, TX S a bb yy → ∀ j, j < 4 → st_K S (bb j) = 20 := fun {a bb yy} k j hj => by
      have key : j = 0 ∨ j = 1 ∨ j = 2 ∨ j = 3 := by omega
      rcases key with z | z | z | z <;> subst z
      · exact k.2.2.2.2.2.1
      · exact k.2.2.2.2.2.2.1
      · exact k.2.2.2.2.2.2.2.1
      · exact k.2.2.2.2.2.2.2.2.1
    by_cases e : t = m_T M
    · rw [if_pos e, if_pos e, if_pos e]
      exact TX_og hc o2 (eL _ hc1 hc2 (by rw [hc.1]; omega)) (fun j hj => eL _ (hb j hj).1 (hb j hj).2 (by rw [k20 hc j hj]; omega))
    · rw [if_neg e, if_neg e, if_neg e]
      have ht2 : t < m_T M := by omega
      have k := c8 t ht2
      have b1 := AD_t c15 ht2
      exact TX_og k o2 (eL _ b1.1 b1.2 (by rw [k.1]; omega)) (fun j hj => by
        have b2 := AD_b c15 ht2 hj
        exact eL _ b2.1 b2.2 (by rw [k20 k j hj]; omega))
  · show st_fi W 501 (x + 10) = nI 0
    rw [(o2 (x + 10) (eY _ (by omega) (by omega) (by omega))).2.2.2.2.2.1, ← hz]; exact c9
  · rw [(o2 (x + 23) (eY _ (by omega) (by omega) (by omega))).2.2.1]; exact c11
  · show st_fi W 908 x = chI (m_T M + 1)
    rw [hW, fi_pi_nk _ _ _ _ _ _ (by omega), fi_pi_at]
    unfold chI
    rw [if_neg (by omega), Nat.add_sub_cancel]
  · rw [hW, fi_pi_at]
  · rw [(o2 (x + 5) (eY _ (by omega) (by omega) (by omega))).2.2.2.2.2.1]; exact c14
  · have D' : m_D (m_text M y) = m_D M := rfl
    have T' : m_T (m_text M y) = m_T M + 1 := rfl
    have N' : m_nl (m_text M y) = m_nl M := rfl
    have ex := AD_et c15
    have ey := AD_ed c15
    unfold AD
    rw [D', T', N', ed_n, et_n, d_n, l_n, e_n, n_n, hnx]
    refine ⟨by omega, fun i hi => ?_, ?_, ?_, fun i j hi hj => AD_di c15 hi hj, fun i j hi hj => AD_li c15 hi hj, fun i j hi hj => AD_ei c15 hi hj, fun i hi => ?_, ?_, fun i k hi hk => ?_, fun i k j l hi hk hj hl => AD_ni c15 hi hk hj hl, fun t ht => ?_, fun t j ht hj => ?_⟩
    · have b1 := AD_d c15 hi
      have b2 := AD_l c15 hi
      have b3 := AD_e c15 hi
      omega
    · omega
    · right; rcases ge with q | q <;> omega
    · intro z
      rcases z with z | z
      · exact AD_ee c15 hi (Or.inl z)
      · rcases ge with q | q
        · exact AD_ee c15 hi (Or.inr (z.trans q.1))
        · have b3 := AD_e c15 hi; omega
    · intro z
      rcases ge with q | q
      · exact AD_eq c15 (z.trans q.1)
      · omega
    · have := AD_n c15 hi hk; omega
    · rw [t_n]
      by_cases e : t = m_T M
      · rw [if_pos e]; omega
      · rw [if_neg e]
        have := AD_t c15 (show t < m_T M by omega)
        omega
    · rw [b_n]
      by_cases e : t = m_T M
      · rw [if_pos e]
        have := hb j hj
        omega
      · rw [if_neg e]
        have := AD_b c15 (show t < m_T M by omega) hj
        omega
theorem sp_text (h : INV S x A M v) : STEP (fun S => f_X8_text S x) (fun S => f_X9_text S (x + 24)) S x v := by
  have hw := h.2.2.1
  have hc := CI_s h.2.1
  have hl := CI_tl h.2.1
  have hT := wM_T hw
  by_cases c8 : m_T M = 8
  · rw [c8] at hl
    have e1 : f_X8_text S x = some (m1, st_pi S 501 (x + 10) (nI 0)) := by
      unfold f_X8_text
      clear h hw
      generalize f_X3_read = F1
      generalize f_X3_makeText = F2
      simp (disch := first | omega | assumption | (repeat first | assumption | apply RS_pi | apply RS_wi | apply RS_wl | apply CS_pi | apply CS_wi | apply CS_wl | apply CS_wo | apply CS_xo | apply RI_w15 | apply RI_w16 | apply RI_w17 | apply RI_w26 | apply RI_w27 | apply RI_w28 | apply RI_p1000)) only [↓reduceIte, ↓xg, ↓xi, ↓xl_wi, ↓xl_wl, ↓xl_pi, ↓xlI, ↓xlL, ↓xlN, xl, ↓xn, ↓xc, ↓xon, ↓xos, ↓ln_1, ↓ln_2, ↓ln_3, ↓ln_8, qli_0, qli_1, qli_2, qli_3, qli_4, qli_5, qli_6, qli_7, qli_8, qli_9, qli_10, qli_11, qli_12, qli_13, qli_14, qli_15, qli_16, qli_17, qli_18, qli_19, qli_20, qli_21, qli_22, qli_23, qli_24, qli_25, qli_26, qli_31, qli_32, qli_37, qli_39, qli_40, qli_41, qli_42, qli_43, qli_45, qli_47, qli_48, qli_49, qli_50, qli_56, qli_57, qli_59, qli_60, qli_61, qli_63, qli_64, qli_96, qli_97, qli_99, qli_100, qli_101, qli_122, qli_126, qli_143, qli_144, qli_192, qli_200, qli_201, qli_216, qli_255, qli_256, qli_780, qli_799, qli_800, qli_801, qli_802, qli_880, qli_1000, qli_5760, qli_7040, qli_7920, qli_1000000, in_t, le_t, le_f, lt_t, lt_f, eq_t, eq_f, nI_add, nI_sub', nI_mul, nI_clamp, m1_ne, m1_ne', m1_lt, m1_le, m1_nlt, m1_nle, m1_add, eq_self, not_true_eq_false, not_false_eq_true, ne_eq, Nat.reduceLeDiff, Nat.reduceLT, and_true, true_and, and_self, or_true, true_or, or_false, false_or, false_and, and_false, qK_pi, qK_pr, qK_wi, qK_wl, qK_wo, qK_xi, qK_xo, qfr_pi', qfr_wi', qfr_wl', qfr_wo', qfr_xi', qfr_xo', qfi_pr, qfi_wi, qfi_wl, qfi_wo, qfi_xi, qfi_xo, qln_pi, qln_pr, qln_wi, qln_wl, qln_wo, qln_xi, qln_xo, qri_pi, qri_pr, qri_wl, qri_wo, qri_xo, qrl_pi, qrl_pr, qrl_wi, qrl_wo, qrl_xi, qrl_xo, qro_pi, qro_pr, qro_wi, qro_wl, qro_xi, qnx_pi, qnx_pr, qnx_wi, qnx_wl, qnx_wo, qnx_xi, qnx_xo, qsa_pi, qsa_wi, qsa_wl, qsa_pr, qsa_wo, fi_pi_at, fi_pi_nk, fi_pi_na, ri_wi_at, ri_wi_ne, ri_wi_nj, rl_wl_at, rl_wl_ne, rl_wl_nj, fr_pr_at, fr_pr_nk, fr_pr_na, hc, ↓cn_902, ↓cSl hl, ↓cn_904]
    have g1 : fc x S (st_pi S 501 (x + 10) (nI 0)) := fc_pi fc_rf (by omega)
    have hr1 := RI_fc h.1 g1
    obtain ⟨U, e2, q1, q2⟩ := r_text8 hr1 c8
    exact STEP_of h e1 e2 (cI_t0 h.2.1) g1 q2 (fun _ => q1) (wM_t0 hw) (by omega)
  have hT8 : m_T M < 8 := by omega
  obtain ⟨r, T, f1, f2⟩ := c_read h.2.1 hw
  obtain ⟨G, hG⟩ : ∃ G, G = xRd (tks M) 24 0 [] [] := ⟨_, rfl⟩
  rw [← hG] at f2
  have hL := LG_tks hw
  have hd : f_X8_text S x = c_i (r = 0) (c_n (st_fr (st_pi T 501 (x + 10) (nI 0)) 902 x) (fun (q47 : Nat) => (c_n (st_fr (st_pi T 501 (x + 10) (nI 0)) 905 x) (fun (q51 : Nat) => (c_g (st_K (st_pi T 501 (x + 10) (nI 0)) q51 = 5) (c_c (f_X3_makeText (st_pi T 501 (x + 10) (nI 0)) q51) (fun (r54 : Option Nat) (T54 : st_T) => (c_n r54 (fun (p54 : Nat) => (c_g (st_K T54 q47 = 1) (c_c (f_Jx4a65c_add_9ea2d T54 q47 p54) (fun (r57 : Int32) (T57 : st_T) => (c_g (st_K T57 x = 10) (c_n (st_fr T57 902 x) (fun (q63 : Nat) => (c_g (st_K T57 q63 = 1) (c_c (f_Jx4a65c_size_8abf5 T57 q63) (fun (r66 : Int32) (T66 : st_T) => (c_g (st_K T66 x = 10) (c_c (f_X8_putInForce T66 x (r66 - 1)) (fun (r71 : Unit) (T71 : st_T) => (some (r, T71))))))))))))))))))))))) (some (r, st_pi T 501 (x + 10) (nI 0))) := by
    have fqT : fq (kR x) (kF x) S T := by
      cases G with
      | inl e => exact f2.2.1
      | inr y =>
        obtain ⟨-, p, q⟩ := f2
        exact q.1
    have hcT := CS_fq hc fqT
    have lt8 : nI (m_T M) < (8 : Int32) := nI_lt (b := 8) hT8 (by omega)
    unfold f_X8_text
    rw [g_t hc.1, cn_902 hc, g_t hl.1, cSl hl, i_t lt8, g_t hc.1, cn_905 hc, cn_904 hc, g_t (k12 hc), c_s f1, g_t hcT.1, cn_904 hcT, g_t hcT.2.2.2.2.2.2.2.2.2.2.1, xl]
    rfl
  cases G with
  | inl e =>
    obtain ⟨rfl, q⟩ := f2
    have g1 : fc x S (st_pi T 501 (x + 10) (nI 0)) := fc_pi (fc_kk q.1) (by omega)
    have e1 : f_X8_text S x = some (nI e, st_pi T 501 (x + 10) (nI 0)) := by
      have ne : ¬ nI e = (0 : Int32) := neF (a := e) (b := 0) (by have := q.2.2.2.2.1; omega) (by have := q.2.2.2.2.2.1; omega) (by omega)
      rw [hd, i_f ne]
    have hr1 := RI_fc h.1 g1
    obtain ⟨r2, U, e2, q1, q2⟩ := r_text hr1 hw hT8
    rw [← hG] at q1
    obtain ⟨rfl, q3⟩ := q1
    exact STEP_of h e1 e2 (cI_t0 (CI_kk h.2.1 q.1)) g1 q2 (fun _ => q3) (wM_t0 hw) (by omega)
  | inr y =>
    obtain ⟨rfl, p, q⟩ := f2
    have wy : wT y := xRd_wT hL 24 0 [] [] (by omega) (by show 0 ≤ 0; omega) rfl (fun q hq => by cases hq) rfl y hG.symm
    obtain ⟨q1, q2, q3, q4, q5, q6, q7, q8, q9, q10⟩ := q
    have hI0 := cI_t0 (CI_kk h.2.1 q1)
    have g0 : fc x S (st_pi T 501 (x + 10) (nI 0)) := fc_pi (fc_kk q1) (by omega)
    have hpt : PT (st_pi T 501 (x + 10) (nI 0)) x y := by
      refine ⟨?_, q7, ?_, q9, ?_⟩
      · rw [fi_pi_nk _ _ _ _ _ _ (by omega)]; exact q6
      · rw [fi_pi_nk _ _ _ _ _ _ (by omega)]; exact q8
      · rw [fi_pi_nk _ _ _ _ _ _ (by omega)]; exact q10
    generalize st_pi T 501 (x + 10) (nI 0) = B at hd hI0 g0 hpt
    have hcB := CI_s hI0
    have hxB := AD_x (CI_ad hI0)
    obtain ⟨r54, T54, m0, rfl, m2, m3, m4, m5⟩ := c_make hcB hxB hpt wy.1 wy.2.1
    have hI1 := CI_og hI0 m5 m4 (by omega)
    have g1 : fc x B T54 := fc_og m5 (fun a _ _ => by omega)
    have hc54 := CI_s hI1
    obtain ⟨r57, S', a0, a1, ⟨e', a2⟩, a3, A', a4, a5⟩ := c_addt hI1 rfl hT8 m2 hxB (by omega) (fun j hj => by omega)
    have a2' : LSt S' (x + 4) e' (m_T M + 1) (fun i => if i = m_T (m_t0 M) then st_nx B else a_t A i) := a2
    have e1 : f_X8_text S x = some (nI 0, st_pi (st_pi S' 908 x (nI (m_T M))) 909 x (nI (v + 1))) := by
      have ep : f_X8_putInForce S' x (nI (m_T M + 1) - 1) = some ((), st_pi (st_pi S' 908 x (nI (m_T M))) 909 x (nI (v + 1))) := by
        have es : nI (m_T M + 1) - 1 = nI (m_T M) := by
          have : nI (m_T M + 1) - nI 1 = nI (m_T M + 1 - 1) := nI_sub (by omega)
          rw [Nat.add_sub_cancel] at this
          exact this
        rw [es]
        unfold f_X8_putInForce
        have a3' := a3
        simp (disch := first | omega | assumption | (repeat first | assumption | apply RS_pi | apply RS_wi | apply RS_wl | apply CS_pi | apply CS_wi | apply CS_wl | apply CS_wo | apply CS_xo | apply RI_w15 | apply RI_w16 | apply RI_w17 | apply RI_w26 | apply RI_w27 | apply RI_w28 | apply RI_p1000)) only [↓reduceIte, ↓xg, ↓xi, ↓xl_wi, ↓xl_wl, ↓xl_pi, ↓xlI, ↓xlL, ↓xlN, xl, ↓xn, ↓xc, ↓xon, ↓xos, ↓ln_1, ↓ln_2, ↓ln_3, ↓ln_8, qli_0, qli_1, qli_2, qli_3, qli_4, qli_5, qli_6, qli_7, qli_8, qli_9, qli_10, qli_11, qli_12, qli_13, qli_14, qli_15, qli_16, qli_17, qli_18, qli_19, qli_20, qli_21, qli_22, qli_23, qli_24, qli_25, qli_26, qli_31, qli_32, qli_37, qli_39, qli_40, qli_41, qli_42, qli_43, qli_45, qli_47, qli_48, qli_49, qli_50, qli_56, qli_57, qli_59, qli_60, qli_61, qli_63, qli_64, qli_96, qli_97, qli_99, qli_100, qli_101, qli_122, qli_126, qli_143, qli_144, qli_192, qli_200, qli_201, qli_216, qli_255, qli_256, qli_780, qli_799, qli_800, qli_801, qli_802, qli_880, qli_1000, qli_5760, qli_7040, qli_7920, qli_1000000, in_t, le_t, le_f, lt_t, lt_f, eq_t, eq_f, nI_add, nI_sub', nI_mul, nI_clamp, m1_ne, m1_ne', m1_lt, m1_le, m1_nlt, m1_nle, m1_add, eq_self, not_true_eq_false, not_false_eq_true, ne_eq, Nat.reduceLeDiff, Nat.reduceLT, and_true, true_and, and_self, or_true, true_or, or_false, false_or, false_and, and_false, qK_pi, qK_pr, qK_wi, qK_wl, qK_wo, qK_xi, qK_xo, qfr_pi', qfr_wi', qfr_wl', qfr_wo', qfr_xi', qfr_xo', qfi_pr, qfi_wi, qfi_wl, qfi_wo, qfi_xi, qfi_xo, qln_pi, qln_pr, qln_wi, qln_wl, qln_wo, qln_xi, qln_xo, qri_pi, qri_pr, qri_wl, qri_wo, qri_xo, qrl_pi, qrl_pr, qrl_wi, qrl_wo, qrl_xi, qrl_xo, qro_pi, qro_pr, qro_wi, qro_wl, qro_xi, qnx_pi, qnx_pr, qnx_wi, qnx_wl, qnx_wo, qnx_xi, qnx_xo, qsa_pi, qsa_wi, qsa_wl, qsa_pr, qsa_wo, fi_pi_at, fi_pi_nk, fi_pi_na, ri_wi_at, ri_wi_ne, ri_wi_nj, rl_wl_at, rl_wl_ne, rl_wl_nj, fr_pr_at, fr_pr_nk, fr_pr_na, a1, a3']
      rw [hd, i_t (show nI 0 = (0 : Int32) from rfl), cn_902 hcB, cn_905 hcB, g_t (k12 hcB), c_s m0]
      show c_g (st_K T54 (x + 4) = 1) _ = _
      rw [g_t (show st_K T54 (x + 4) = 1 by simp only [hc54]), c_s a0, g_t a1.1, cn_902 a1, g_t a2'.1, cSl a2', g_t a1.1, c_s ep]
    have gg : fc x S (st_pi (st_pi S' 908 x (nI (m_T M))) 909 x (nI (v + 1))) := fc_tr (fc_tr g0 g1) a5
    have hr1 := RI_fc h.1 gg
    obtain ⟨r2, U, e2, u1, u2⟩ := r_text hr1 hw hT8
    rw [← hG] at u1
    obtain ⟨rfl, u3⟩ := u1
    exact STEP_of h e1 e2 (M' := m_text M y) a4 gg u2 (fun _ => u3) (wM_text hw hT8 wy) (by omega)
end TB
