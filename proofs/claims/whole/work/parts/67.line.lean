/-! line: the class -/
section LI
variable {β : Type} {S S' S0 : st_T} {m x v : Nat} {M : mT} {A : aT}
def NL (S : st_T) (y1 y2 y3 y4 y5 y6 : Int32) : st_T := st_pi (st_pi (st_pi (st_pi (st_pi (st_pi (st_pi (st_pi (st_pi (st_no S 3) 306 (st_nx S) m1) 307 (st_nx S) m1) 308 (st_nx S) (nI 0)) 300 (st_nx S) y1) 301 (st_nx S) y2) 302 (st_nx S) y3) 303 (st_nx S) y4) 304 (st_nx S) y5) 305 (st_nx S) y6
theorem e_newl (y1 y2 y3 y4 y5 y6 : Int32) : f_X2_init (st_no S 3) (st_nx S) y1 y2 y3 y4 y5 y6 = some ((), NL S y1 y2 y3 y4 y5 y6) := by
  have k1 : st_K (st_no S 3) (st_nx S) = 4 := by rw [K_no, if_pos rfl]
  unfold f_X2_init
  rw [g_t k1]
  rfl
def l6 (y1 y2 y3 y4 y5 y6 : Nat) (j : Nat) : Nat := if j = 0 then y1 else if j = 1 then y2 else if j = 2 then y3 else if j = 3 then y4 else if j = 4 then y5 else y6
theorem NL_og (y1 y2 y3 y4 y5 y6 : Int32) : og S (NL S y1 y2 y3 y4 y5 y6) (fun b => b < st_nx S) := by
  unfold NL
  exact og_pi (og_pi (og_pi (og_pi (og_pi (og_pi (og_pi (og_pi (og_pi (og_no og_rf (by omega)) (by omega)) (by omega)) (by omega)) (by omega)) (by omega)) (by omega)) (by omega)) (by omega)) (by omega)
theorem NL_sa (y1 y2 y3 y4 y5 y6 : Int32) : st_sa (NL S y1 y2 y3 y4 y5 y6) = st_sa S := by
  unfold NL
  simp only [qsa_pi, qsa_no]
theorem NL_nx (y1 y2 y3 y4 y5 y6 : Int32) : st_nx (NL S y1 y2 y3 y4 y5 y6) = st_nx S + 1 := by
  unfold NL
  simp only [qnx_pi, nx_no]
theorem NL_CL (y1 y2 y3 y4 y5 y6 : Nat) : CL (NL S (nI y1) (nI y2) (nI y3) (nI y4) (nI y5) (nI y6)) (st_nx S) (l6 y1 y2 y3 y4 y5 y6) := by
  unfold CL NL
  refine ⟨?_, ?_, ?_, ?_, ?_, ?_, ?_⟩
  · simp only [qK_pi]
    rw [K_no, if_pos rfl]
  all_goals simp (disch := omega) only [fi_pi_at, fi_pi_nk]
  all_goals rfl
theorem c_ins {d c p : Nat} {l : Nat → Nat} (h : CI S x A M v) (hw : wM M) (hd : d < m_D M) (hn : m_nl M d < 24) (hc : CL S c l) (hl : wL l) (hi : isI M d (l 0) p) (hv : p < m_nl M d → l 1 < m_lv M d p 0) (hx1 : x + 54 < c) (hx2 : c < st_nx S) (hx3 : ∀ i k, i < m_D M → k < m_nl M i → a_n A i k ≠ c) :
    ok (f_X1_insert S (a_d A d) c) (fun r S' => r = nI 1 ∧ ∃ A', CI S' x A' (m_line M d p l) v ∧ fc x S S' ∧ a_d A' = a_d A) := by
  have hwn : wM M := hw
  rw [c_in_go h hw hd hc hl hi hv]
  obtain ⟨c1, c2, c3, c4, c5, c6, c7, c8, c9, c10, c11, c12, c13, c14, c15⟩ := h
  have hx := AD_x c15
  obtain ⟨d0, d1, d2, d3, d4, d5, d6, d7, d8⟩ := c5 d hd
  have ad := AD_d c15 hd
  have al := AD_l c15 hd
  have ae := AD_e c15 hd
  have kE : st_K S (a_e A d) = 30 ∨ st_K S (a_e A d) = 24 := by rcases d7.2.2.2.1 with y | y <;> omega
  have hp := hi.1
  rw [ok_c]
  refine ok_imp (e_ins d7 (by omega) hp (by rw [hc.1]; omega) hx2 ?_ (fun k hk => ?_) al.2 (by omega) ?_) (fun _ T ⟨e', w1, w2, w3, w4, w5, w6⟩ => ?_)
  · intro z
    have := hc.1
    rw [z, d7.1] at this
    omega
  · have y := AD_n c15 hd hk
    have k4 := (d8 k hk).1
    refine ⟨by omega, by omega, y.2, fun z => ?_⟩
    rw [z, d7.1] at k4
    omega
  · intro z
    have := d7.1
    rw [z] at this
    omega
  have ge : (e' = a_e A d ∧ x + 54 < e' ∧ e' < st_nx S) ∨ e' = st_nx S := by
    rcases w2 with q | q
    · left
      have hk := q.2
      rcases d7.2.2.2.1 with y | y
      · omega
      · omega
    · right; exact q
  have knd : ∀ b, b < st_nx S → st_K S b ≠ 24 → b ≠ e' := by
    intro b hb hk z
    rcases w2 with q | q
    · rw [z, q.1] at hk
      exact hk q.2
    · omega
  have nl1 : ∀ b, st_K S b ≠ 1 → b ≠ a_l A d := fun b hk z => by rw [z, d7.1] at hk; exact hk rfl
  have nd3 : ∀ b, st_K S b ≠ 3 → b ≠ a_d A d := fun b hk z => by rw [z, d0] at hk; exact hk rfl
  have kD : st_K T (a_d A d) = 3 := by
    rw [(w6 (a_d A d) ⟨ad.2, nl1 _ (by omega), knd _ ad.2 (by omega)⟩).1]
    exact d0
  rw [g_t kD]
  obtain ⟨S', hS⟩ : ∃ S', S' = st_pi T 206 (a_d A d) m1 := ⟨_, rfl⟩
  show ok (some ((1 : Int32), st_pi T 206 (a_d A d) m1)) _
  rw [← hS]
  have o2 : og S S' (fun b => b < st_nx S ∧ b ≠ a_l A d ∧ b ≠ e' ∧ b ≠ a_d A d) := by
    rw [hS]
    exact og_pi (og_mono w6 (fun b hb => ⟨hb.1, hb.2.1, hb.2.2.1⟩)) (by omega)
  have hs' : st_sa S' = st_sa S := by rw [hS]; exact w5
  have hnx : st_nx S' = st_nx T := by rw [hS]; rfl
  have lsT : LSt S' (a_l A d) e' (m_nl M d + 1) (ins (a_n A d) p c) := by
    rw [hS]
    exact LSt_ag w1 rfl rfl rfl rfl rfl (fi_pi_nk _ _ _ _ _ _ (by omega))
  have gT := w6 (a_d A d) ⟨ad.2, nl1 _ (by omega), knd _ ad.2 (by omega)⟩
  have eL : ∀ b, b < st_nx S → st_K S b ≠ 1 → st_K S b ≠ 3 → st_K S b ≠ 24 → b < st_nx S ∧ b ≠ a_l A d ∧ b ≠ e' ∧ b ≠ a_d A d := fun b hb q1 q2 q3 => ⟨hb, nl1 b q1, knd b hb q3, nd3 b q2⟩
  have eX : ∀ b, b ≤ x + 54 → b < st_nx S ∧ b ≠ a_l A d ∧ b ≠ e' ∧ b ≠ a_d A d := fun b hb => ⟨by omega, by omega, by rcases ge with q | q <;> omega, by omega⟩
  have eE : ∀ b, b < st_nx S → (st_K S b = 30 ∨ st_K S b = 24) → (b = a_e A d → b < x) → b < st_nx S ∧ b ≠ a_l A d ∧ b ≠ e' ∧ b ≠ a_d A d := fun b hb q1 q2 => ⟨hb, nl1 b (by omega), (by
    intro z
    rcases ge with q | q
    · have := q2 (z.trans q.1); omega
    · omega), nd3 b (by omega)⟩
  obtain ⟨A', hA⟩ : ∃ A' : aT, A' = (A.1, A.2.1, A.2.2.1, (fun i => if i = d then e' else a_e A i), (fun i => if i = d then ins (a_n A d) p c else a_n A i), A.2.2.2.2.2) := ⟨_, rfl⟩
  have d_n : a_d A' = a_d A := by rw [hA]; rfl
  have l_n : a_l A' = a_l A := by rw [hA]; rfl
  have e_n : ∀ i, a_e A' i = if i = d then e' else a_e A i := fun i => by rw [hA]; rfl
  have n_n : ∀ i, a_n A' i = if i = d then ins (a_n A d) p c else a_n A i := fun i => by rw [hA]; rfl
  have t_n : a_t A' = a_t A := by rw [hA]; rfl
  have b_n : a_b A' = a_b A := by rw [hA]; rfl
  have ed_n : a_ed A' = a_ed A := by rw [hA]; rfl
  have et_n : a_et A' = a_et A := by rw [hA]; rfl
  have kl : ∀ {l0 e0 n0 : Nat} {f0 : Nat → Nat}, LSt S l0 e0 n0 f0 → st_K S e0 = 30 ∨ st_K S e0 = 24 := fun q => by rcases q.2.2.2.1 with y | y <;> omega
  refine ok_of rfl ⟨rfl, A', ⟨CS_og c1 o2 (fun i hi => eX _ (by omega)), SA_og c2 o2 hs' (fun a ha => eX _ (by omega)), ?_, ?_, ?_, ?_, ?_, ?_, ?_, ?_, ?_, ?_, ?_, ?_, ?_⟩, fc_og o2 (fun a g1 g2 => eX _ g2), d_n⟩
  · rw [(o2 (x + 2) (eX _ (by omega))).2.2.1]; exact c3
  · rw [ed_n, d_n]
    have := AD_ed c15
    exact LSt_og c4 o2 (eX _ (by omega)) (eE _ (by omega) (kl c4) (fun z => by
      have q := AD_ee c15 hd (Or.inl z.symm)
      omega)) hs'
  · intro i hi
    have hi2 : i < m_D M := hi
    unfold CDi
    rw [d_n, l_n, e_n, n_n, nl_line, lv_line]
    by_cases e : i = d
    · rw [if_pos e, if_pos e, if_pos e, if_pos e, e]
      have f6 : ∀ k, k ≠ 206 → st_fi S' k (a_d A d) = st_fi S k (a_d A d) := fun k hk => by
        rw [hS, fi_pi_nk _ _ _ _ _ _ (by omega)]
        exact gT.2.2.2.2.2.1 k
      refine ⟨?_, ?_, ?_, ?_, ?_, ?_, ?_, lsT, fun k hk => ?_⟩
      · rw [hS, K_pi]; exact kD
      · rw [f6 _ (by omega)]; exact d1
      · rw [f6 _ (by omega)]; exact d2
      · rw [f6 _ (by omega)]; exact d3
      · rw [f6 _ (by omega)]; exact d4
      · rw [f6 _ (by omega)]; exact d5
      · rw [hS]
        show st_fr T 204 (a_d A d) = _
        rw [gT.2.2.2.2.2.2]
        exact d6
      · by_cases q1 : k < p
        · rw [ins_l q1, ins_l q1]
          have y := d8 k (by omega)
          exact CL_og y o2 (eL _ (AD_n c15 hd (by omega)).2 (by rw [y.1]; omega) (by rw [y.1]; omega) (by rw [y.1]; omega))
        · by_cases q2 : k = p
          · rw [q2, ins_e, ins_e]
            exact CL_og hc o2 (eL _ hx2 (by rw [hc.1]; omega) (by rw [hc.1]; omega) (by rw [hc.1]; omega))
          · rw [ins_g (by omega), ins_g (by omega)]
            have y := d8 (k - 1) (by omega)
            exact CL_og y o2 (eL _ (AD_n c15 hd (by omega)).2 (by rw [y.1]; omega) (by rw [y.1]; omega) (by rw [y.1]; omega))
    · rw [if_neg e, if_neg e, if_neg e, if_neg e]
      have y := c5 i hi2
      have bd := AD_d c15 hi2
      have bl := AD_l c15 hi2
      have be := AD_e c15 hi2
      refine CDi_og y o2 hs' ⟨bd.2, nl1 _ (by rw [y.1]; omega), knd _ bd.2 (by rw [y.1]; omega), fun z => e (AD_di c15 hi2 hd z)⟩ ⟨bl.2, fun z => e (AD_li c15 hi2 hd z), knd _ bl.2 (by rw [y.2.2.2.2.2.2.2.1.1]; omega), nd3 _ (by rw [y.2.2.2.2.2.2.2.1.1]; omega)⟩ (eE _ (by omega) (kl y.2.2.2.2.2.2.2.1) (fun z => ?_)) (fun k hk => ?_)
      · rcases AD_ei c15 hi2 hd z with q | q
        · exact absurd q e
        · exact q
      · have k4 := (y.2.2.2.2.2.2.2.2 k hk).1
        exact eL _ (AD_n c15 hi2 hk).2 (by omega) (by omega) (by omega)
  · intro i hi
    have hi2 : i < m_D M := hi
    by_cases e : i = d
    · left
      rw [d_n, e, hS]
      exact fi_pi_at _ _ _ _
    · have y := c5 i hi2
      have bd := AD_d c15 hi2
      have q := CV_og (S' := S') (c6 i hi2) o2 ⟨bd.2, nl1 _ (by rw [y.1]; omega), knd _ bd.2 (by rw [y.1]; omega), fun z => e (AD_di c15 hi2 hd z)⟩ (fun k hk => by
        have k4 := (y.2.2.2.2.2.2.2.2 k hk).1
        exact eL _ (AD_n c15 hi2 hk).2 (by omega) (by omega) (by omega))
      exact CV_cg q rfl (by rw [lv_line, if_neg e]) (by rw [nl_line, if_neg e]) rfl rfl rfl (by rw [d_n]) (by rw [n_n, if_neg e])
  · rw [et_n, t_n]
    have := AD_et c15
    exact LSt_og c7 o2 (eX _ (by omega)) (eE _ (by omega) (kl c7) (fun z => by
      have q := AD_ee c15 hd (Or.inr z.symm)
      omega)) hs'
  · intro t ht
    rw [t_n, b_n]
    have b1 := AD_t c15 ht
    have k := c8 t ht
    refine TX_og k o2 (eL _ b1.2 (by rw [k.1]; omega) (by rw [k.1]; omega) (by rw [k.1]; omega)) (fun j hj => ?_)
    have b2 := AD_b c15 ht hj
    have k20 : st_K S (a_b A t j) = 20 := by
      have key : j = 0 ∨ j = 1 ∨ j = 2 ∨ j = 3 := by omega
      rcases key with z | z | z | z <;> subst z
      · exact k.2.2.2.2.2.1
      · exact k.2.2.2.2.2.2.1
      · exact k.2.2.2.2.2.2.2.1
      · exact k.2.2.2.2.2.2.2.2.1
    exact eL _ b2.2 (by omega) (by omega) (by omega)
  · rw [(o2 (x + 10) (eX _ (by omega))).2.2.2.2.2.1]; exact c9
  · rw [(o2 (x + 11) (eX _ (by omega))).2.2.1]; exact c10
  · rw [(o2 (x + 23) (eX _ (by omega))).2.2.1]; exact c11
  · rw [(o2 x (eX _ (by omega))).2.2.2.2.2.1]; exact c12
  · rw [(o2 x (eX _ (by omega))).2.2.2.2.2.1]; exact c13
  · rw [(o2 (x + 5) (eX _ (by omega))).2.2.2.2.2.1]; exact c14
  · have D' : m_D (m_line M d p l) = m_D M := rfl
    have T' : m_T (m_line M d p l) = m_T M := rfl
    have nn : ∀ i k, i < m_D M → k < m_nl (m_line M d p l) i → (i = d ∧ k = p ∧ a_n A' i k = c) ∨ ∃ k', k' < m_nl M i ∧ a_n A' i k = a_n A i k' ∧ (i = d → k' = if k < p then k else k - 1) ∧ (i ≠ d → k' = k) ∧ (i = d → k ≠ p) := by
      intro i k hi hk
      rw [nl_line] at hk
      rw [n_n]
      by_cases e : i = d
      · rw [if_pos e] at hk ⊢
        by_cases q1 : k < p
        · exact Or.inr ⟨k, by rw [e]; omega, by rw [ins_l q1, e], fun _ => by rw [if_pos q1], fun z => absurd e z, fun _ => by omega⟩
        · by_cases q2 : k = p
          · exact Or.inl ⟨e, q2, by rw [q2, ins_e]⟩
          · exact Or.inr ⟨k - 1, by rw [e]; omega, by rw [ins_g (by omega), e], fun _ => by rw [if_neg q1], fun z => absurd e z, fun _ => q2⟩
      · rw [if_neg e] at hk ⊢
        exact Or.inr ⟨k, hk, rfl, fun z => absurd z e, fun _ => rfl, fun z => absurd z e⟩
    unfold AD
    rw [D', T', ed_n, et_n, t_n, b_n, d_n, l_n, hnx]
    refine ⟨by omega, fun i hi => ?_, ?_, ?_, fun i j hi hj => AD_di c15 hi hj, fun i j hi hj => AD_li c15 hi hj, fun i j hi hj => ?_, fun i hi => ?_, AD_eq c15, fun i k hi hk => ?_, fun i k j l' hi hk hj hl' => ?_, fun t ht => ?_, fun t j ht hj => ?_⟩
    · rw [e_n]
      have b1 := AD_d c15 hi
      have b2 := AD_l c15 hi
      have b3 := AD_e c15 hi
      by_cases e : i = d
      · rw [if_pos e]
        rcases ge with q | q <;> omega
      · rw [if_neg e]; omega
    · have := AD_ed c15; omega
    · have := AD_et c15; omega
    · rw [e_n, e_n]
      have b3 := AD_e c15 hi
      have b4 := AD_e c15 hj
      by_cases e : i = d
      · by_cases e2 : j = d
        · intro _; left; omega
        · rw [if_pos e, if_neg e2]
          intro z
          rcases ge with q | q
          · have := AD_ei c15 hj hd (z.symm.trans q.1)
            omega
          · omega
      · by_cases e2 : j = d
        · rw [if_neg e, if_pos e2]
          intro z
          rcases ge with q | q
          · have := AD_ei c15 hi hd (z.trans q.1)
            omega
          · omega
        · rw [if_neg e, if_neg e2]
          exact AD_ei c15 hi hj
    · rw [e_n]
      by_cases e : i = d
      · rw [if_pos e]
        intro z
        rcases ge with q | q
        · have := AD_ee c15 hd (by rw [← q.1]; exact z)
          omega
        · have b3 := AD_ed c15
          have b4 := AD_et c15
          omega
      · rw [if_neg e]
        exact AD_ee c15 hi
    · rcases nn i k hi hk with ⟨q1, q2, q3⟩ | ⟨k', q1, q2, q3⟩
      · rw [q3]; omega
      · rw [q2]
        have := AD_n c15 hi q1
        omega
    · rcases nn i k hi hk with ⟨q1, q2, q3⟩ | ⟨k', q1, q2, q3, q4, q5⟩
      · rcases nn j l' hj hl' with ⟨s1, s2, s3⟩ | ⟨k2, s1, s2, s3⟩
        · intro _; exact ⟨by omega, by omega⟩
        · rw [q3, s2]
          intro z
          exact absurd z.symm (hx3 j k2 hj s1)
      · rcases nn j l' hj hl' with ⟨s1, s2, s3⟩ | ⟨k2, s1, s2, s3, s4, s5⟩
        · rw [q2, s3]
          intro z
          exact absurd z (hx3 i k' hi q1)
        · rw [q2, s2]
          intro z
          obtain ⟨u1, u2⟩ := AD_ni c15 hi q1 hj s1 z
          refine ⟨u1, ?_⟩
          by_cases e : i = d
          · have v1 := q3 e
            have v2 := s3 (by omega)
            have v3 := q5 e
            have v4 := s5 (by omega)
            rw [v1, v2] at u2
            split at u2 <;> split at u2 <;> omega
          · have v1 := q4 e
            have v2 := s4 (by omega)
            omega
    · have := AD_t c15 ht; omega
    · have := AD_b c15 ht hj; omega
end LI
