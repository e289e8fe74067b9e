/-! text: the class keeps a text -/
section CX
variable {β : Type} {S S' S0 T U : st_T} {m x v n : Nat} {M : mT} {A : aT} {L : List (Nat × Nat × Nat)} {rs st : List (Nat × Nat)} {mn : Nat}
theorem e_copy {q k N : Nat} (hq : q < st_nx S) (hK : st_K S q = 20) (hl : st_ln S q = N) (hN : N ≤ 800) (hk : k ≤ N) : ok (f_J7_copyOf_59c91 S q (nI k)) (fun r S' => r = some (st_nx S) ∧ st_K S' (st_nx S) = 20 ∧ st_ln S' (st_nx S) = k ∧ (∀ i, i < k → st_ri S' (st_nx S) i = st_ri S q i) ∧ st_nx S' = st_nx S + 1 ∧ st_sa S' = st_sa S ∧ og S S' (fun b => b < st_nx S)) := by
  have qn : q ≠ st_nx S := by omega
  by_cases c : k = N
  · have st0 : f_J7_copyOf_59c91 S q (nI k) = some (some (st_nx S), st_xi (st_na S 20 N) (st_nx S) (st_ri S q)) := by
      subst c
      have k1 : st_K (st_xi (st_na S 20 k) (st_nx S) (st_ri S q)) (st_nx S) = 20 := by rw [K_xi, K_na, if_pos rfl]
      unfold f_J7_copyOf_59c91
      rw [g_t (show (20 ≤ st_K S q ∧ st_K S q < 25) ∨ st_K S q = 30 by omega), hl, i_t rfl, g_t hK, g_t hN, xl, xl, g_t k1]
    rw [st0]
    refine ok_of rfl ⟨rfl, ?_, ?_, fun i hi => ?_, ?_, rfl, og_xi (og_na og_rf (by omega)) (by omega)⟩
    · rw [K_xi, K_na, if_pos rfl]
    · rw [ln_xi, ln_na, if_pos rfl]; exact c.symm
    · rw [ri_xi, if_pos rfl]
    · rw [nx_xi, nx_na]
  · obtain ⟨T, hT⟩ : ∃ T, T = st_na S 20 k := ⟨_, rfl⟩
    have k1 : st_K T q = 20 := by rw [hT, K_na, if_neg qn]; exact hK
    have k2 : st_K T (st_nx S) = 20 := by rw [hT, K_na, if_pos rfl]
    have l1 : st_ln T q = N := by rw [hT, ln_na, if_neg qn]; exact hl
    have l2 : st_ln T (st_nx S) = k := by rw [hT, ln_na, if_pos rfl]
    have r1 : st_ri T q = st_ri S q := by rw [hT, ri_na, if_neg qn]
    have mnk : (if nI k < nI N then nI k else nI N) = nI k := if_pos (nI_lt (by omega) (by omega))
    have ne : ¬ nI k = nI N := neF c (by omega) (by omega)
    have cond : ¬ (nI k : Int32) < 0 ∧ (nI k : Int32).toNatClampNeg ≤ 800 := ⟨of_eq_false (lt_f (a := k) (b := 0) (by omega) (by omega)), by rw [nI_clamp (by omega)]; omega⟩
    have cond2 : ¬ (0 : Int32) < 0 ∧ ¬ (0 : Int32) < 0 ∧ ¬ (nI k : Int32) < 0 ∧ (0 : Int32).toNatClampNeg + (nI k : Int32).toNatClampNeg ≤ st_ln T q ∧ (0 : Int32).toNatClampNeg + (nI k : Int32).toNatClampNeg ≤ st_ln T (st_nx S) := by
      have z0 : (0 : Int32).toNatClampNeg = 0 := by decide
      rw [z0, nI_clamp (by omega), l1, l2]
      exact ⟨by decide, by decide, cond.1, by omega, by omega⟩
    have st0 : f_J7_copyOf_59c91 S q (nI k) = some (some (st_nx S), st_xi T (st_nx S) (va_cpy (st_ri T q) (st_ri T (st_nx S)) 0 0 k)) := by
      unfold f_J7_copyOf_59c91
      rw [g_t (show (20 ≤ st_K S q ∧ st_K S q < 25) ∨ st_K S q = 30 by omega), hl, i_f ne, g_t cond, xl, xl]
      rw [nI_clamp (by omega), ← hT, g_t (show (20 ≤ st_K T q ∧ st_K T q < 25) ∨ st_K T q = 30 by omega), g_t k1, g_t k2]
      have mnk' : (if nI k < nI (st_ln T q) then nI k else nI (st_ln T q)) = nI k := by rw [l1]; exact mnk
      simp only [mnk']
      rw [g_t cond2, xl, nI_clamp (by omega)]
      rfl
    rw [st0]
    refine ok_of rfl ⟨rfl, ?_, ?_, fun i hi => ?_, ?_, ?_, ?_⟩
    · rw [K_xi]; exact k2
    · rw [ln_xi]; exact l2
    · rw [ri_xi, if_pos rfl]
      unfold va_cpy
      rw [if_pos (by omega), r1]
      congr 1
      omega
    · rw [nx_xi, hT, nx_na]
    · rw [hT]; rfl
    · refine og_xi ?_ (by omega)
      rw [hT]
      exact og_na og_rf (by omega)
theorem cI_t0 (h : CI S x A M v) : CI (st_pi S 501 (x + 10) (nI 0)) x A (m_t0 M) v := by
  obtain ⟨c1, c2, c3, c4, c5, c6, c7, c8, c9, c10, c11, c12, c13, c14, c15⟩ := h
  have g : og S (st_pi S 501 (x + 10) (nI 0)) (fun b => b ≠ x + 10) := og_pi og_rf (fun z => z rfl)
  have hx := AD_x c15
  have h1 := AD_ed c15
  have h2 := AD_et c15
  refine ⟨CS_pi _ _ _ c1, SA_og c2 g rfl (fun a ha => by omega), c3, LSt_og c4 g (by omega) (by omega) rfl, fun i hi => ?_, fun i hi => ?_, LSt_og c7 g (by omega) (by omega) rfl, fun t ht => TX_og (c8 t ht) g (by have := AD_t c15 ht; omega) (fun j hj => by have := AD_b c15 ht hj; omega), fi_pi_at _ _ _ _, fun j hj => absurd hj (Nat.not_lt_zero _), c11, ?_, ?_, ?_, c15⟩
  · have hi2 : i < m_D M := hi
    have b1 := AD_d c15 hi2
    have b2 := AD_l c15 hi2
    have b3 := AD_e c15 hi2
    exact CDi_og (c5 i hi2) g rfl (by omega) (by omega) (by omega) (fun k hk => by have := AD_n c15 hi2 hk; omega)
  · have hi2 : i < m_D M := hi
    have b1 := AD_d c15 hi2
    exact CV_cg (CV_og (c6 i hi2) g (by omega) (fun k hk => by have := AD_n c15 hi2 hk; omega)) rfl rfl rfl rfl rfl rfl rfl rfl
  · rw [fi_pi_nk _ _ _ _ _ _ (by omega)]; exact c12
  · rw [fi_pi_nk _ _ _ _ _ _ (by omega)]; exact c13
  · rw [fi_pi_nk _ _ _ _ _ _ (by omega)]; exact c14
/-- the parser's rows hold a text -/
def PT (S : st_T) (x : Nat) (y : tT) : Prop := st_fi S 406 (x + 12) = nI y.2.1.length ∧ (∀ i, i < y.2.1.length → st_ri S (x + 19) i = nI (y.2.1.getD i (0, 0)).1 ∧ st_ri S (x + 20) i = nI (y.2.1.getD i (0, 0)).2) ∧ st_fi S 405 (x + 12) = nI y.1.length ∧ (∀ i, i < y.1.length → st_ri S (x + 17) i = nI (y.1.getD i (0, 0)).1 ∧ st_ri S (x + 18) i = nI (y.1.getD i (0, 0)).2) ∧ st_fi S 407 (x + 12) = nI y.2.2
theorem c_make {y : tT} (hc : CS S x) (hx : x + 54 < st_nx S) (hp : PT S x y) (h1 : y.1.length ≤ 24) (h2 : y.2.1.length ≤ 800) : ok (f_X3_makeText S (x + 12)) (fun r T => r = some (st_nx S) ∧ TX T (st_nx S) (fun j => st_nx S + 1 + j) y ∧ st_nx T = st_nx S + 5 ∧ st_sa T = st_sa S ∧ og S T (fun b => b < st_nx S)) := by
  obtain ⟨p1, p2, p3, p4, p5⟩ := hp
  obtain ⟨S0, hS0⟩ : ∃ S0, S0 = st_no S 6 := ⟨_, rfl⟩
  have o0 : og S S0 (fun b => b < st_nx S) := by rw [hS0]; exact og_no og_rf (by omega)
  have n0 : st_nx S0 = st_nx S + 1 := by rw [hS0]; rfl
  have a0 : st_sa S0 = st_sa S := by rw [hS0]; rfl
  have kT : st_K S0 (st_nx S) = 7 := by rw [hS0, K_no, if_pos rfl]
  have P0 : ∀ i, i ≤ 23 → x + i < st_nx S := fun i hi => by omega
  have hc0 := CS_og hc o0 P0
  have sm0 : ∀ (U : st_T), og S0 U (fun b => b < st_nx S0) → CS U x ∧ (∀ i, i ≤ 23 → st_ri U (x + i) = st_ri S (x + i)) ∧ ∀ k, st_fi U k (x + 12) = st_fi S k (x + 12) := fun U g => by
    have g' : og S U (fun b => b < st_nx S) := og_tr o0 (og_mono g (fun b hb => by omega))
    exact ⟨CS_og hc g' P0, fun i hi => (g' _ (P0 i hi)).2.2.1, (g' _ (P0 12 (by omega))).2.2.2.2.2.1⟩
  unfold f_X3_makeText
  rw [ok_l, ok_l, ← hS0]
  refine ok_gt (k12 hc0) ?_
  rw [cn_401 hc0]
  have f0 := sm0 S0 og_rf
  rw [f0.2.2 405, p3]
  refine ok_cc (e_copy (N := 24) (by omega) (show st_K S0 (x + 17) = 20 by simp only [hc0]) (by simp only [hc0]) (by omega) h1) (fun r1 T1 ⟨q0, q1, q2, q3, q4, q5, q6⟩ => ?_)
  subst q0
  show ok (c_n (some (st_nx S0)) _) _
  rw [ok_ns]
  have f1 := sm0 T1 q6
  refine ok_gt (k12 f1.1) ?_
  rw [cn_402 f1.1, f1.2.2 405, p3]
  refine ok_cc (e_copy (N := 24) (by omega) (show st_K T1 (x + 18) = 20 by simp only [f1.1]) (by simp only [f1.1]) (by omega) h1) (fun r2 T2 ⟨u0, u1, u2, u3, u4, u5, u6⟩ => ?_)
  subst u0
  show ok (c_n (some (st_nx T1)) _) _
  rw [ok_ns]
  have o2 : og S0 T2 (fun b => b < st_nx S0) := og_tr q6 (og_mono u6 (fun b hb => by omega))
  have f2 := sm0 T2 o2
  refine ok_gt (k12 f2.1) ?_
  rw [cn_403 f2.1, f2.2.2 406, p1]
  refine ok_cc (e_copy (N := 800) (by omega) (show st_K T2 (x + 19) = 20 by simp only [f2.1]) (by simp only [f2.1]) (by omega) h2) (fun r3 T3 ⟨w0, w1, w2, w3, w4, w5, w6⟩ => ?_)
  subst w0
  show ok (c_n (some (st_nx T2)) _) _
  rw [ok_ns]
  have o3 : og S0 T3 (fun b => b < st_nx S0) := og_tr o2 (og_mono w6 (fun b hb => by omega))
  have f3 := sm0 T3 o3
  refine ok_gt (k12 f3.1) ?_
  rw [cn_404 f3.1, f3.2.2 406, p1]
  refine ok_cc (e_copy (N := 800) (by omega) (show st_K T3 (x + 20) = 20 by simp only [f3.1]) (by simp only [f3.1]) (by omega) h2) (fun r4 T4 ⟨z0, z1, z2, z3, z4, z5, z6⟩ => ?_)
  subst z0
  show ok (c_n (some (st_nx T3)) _) _
  rw [ok_ns]
  have o4 : og S0 T4 (fun b => b < st_nx S0) := og_tr o3 (og_mono z6 (fun b hb => by omega))
  have f4 := sm0 T4 o4
  refine ok_gt (k12 f4.1) ?_
  rw [f4.2.2 407, p5]
  have kT4 : st_K T4 (st_nx S) = 7 := by rw [(o4 (st_nx S) (by omega)).1]; exact kT
  -- what each cell holds now
  have e1 : st_nx S0 = st_nx S + 1 := n0
  have e2 : st_nx T1 = st_nx S + 2 := by omega
  have e3 : st_nx T2 = st_nx S + 3 := by omega
  have e4 : st_nx T3 = st_nx S + 4 := by omega
  have g1 : og T1 T4 (fun b => b < st_nx T1) := og_tr u6 (og_tr (og_mono w6 (fun b hb => by omega)) (og_mono z6 (fun b hb => by omega)))
  have g2 : og T2 T4 (fun b => b < st_nx T2) := og_tr w6 (og_mono z6 (fun b hb => by omega))
  have x1 := g1 (st_nx S0) (by omega)
  have x2 := g2 (st_nx T1) (by omega)
  have x3 := z6 (st_nx T2) (by omega)
  rw [e1] at x1 q1 q2 q3
  rw [e2] at x2 u1 u2 u3
  rw [e3] at x3 w1 w2 w3
  rw [e4] at z1 z2 z3
  unfold f_X5_init
  rw [e1, e2, e3, e4, g_t kT4]
  refine ok_of rfl ⟨rfl, ⟨kT4, ?_, ?_, ?_, ?_, ?_, ?_, ?_, ?_, ?_, ?_, ?_, ?_, ?_, fun r hr => ?_, fun j hj => ?_⟩, ?_, ?_, ?_⟩
  · simp (disch := omega) only [qfr_pi', fr_pr_nk, fr_pr_at, Nat.add_zero]
  · simp (disch := omega) only [qfr_pi', fr_pr_nk, fr_pr_at]
  · simp (disch := omega) only [qfr_pi', fr_pr_nk, fr_pr_at]
  · simp (disch := omega) only [qfr_pi', fr_pr_nk, fr_pr_at]
  · show st_K T4 (st_nx S + 1) = 20; rw [x1.1]; exact q1
  · show st_K T4 (st_nx S + 2) = 20; rw [x2.1]; exact u1
  · show st_K T4 (st_nx S + 3) = 20; rw [x3.1]; exact w1
  · show st_K T4 (st_nx S + 4) = 20; exact z1
  · show st_ln T4 (st_nx S + 1) = _; rw [x1.2.1]; exact q2
  · show st_ln T4 (st_nx S + 2) = _; rw [x2.2.1]; exact u2
  · show st_ln T4 (st_nx S + 3) = _; rw [x3.2.1]; exact w2
  · show st_ln T4 (st_nx S + 4) = _; exact z2
  · exact fi_pi_at _ _ _ _
  · show st_ri T4 (st_nx S + 1) r = _ ∧ st_ri T4 (st_nx S + 2) r = _
    rw [x1.2.2.1, x2.2.2.1, q3 r hr, u3 r hr, f0.2.1 17 (by omega), f1.2.1 18 (by omega)]
    exact p4 r hr
  · show st_ri T4 (st_nx S + 3) j = _ ∧ st_ri T4 (st_nx S + 4) j = _
    rw [x3.2.2.1, w3 j hj, z3 j hj, f2.2.1 19 (by omega), f3.2.1 20 (by omega)]
    exact p2 j hj
  · show st_nx T4 = _; omega
  · show st_sa T4 = _; rw [z5, w5, u5, q5, a0]
  · exact og_pi (og_pr (og_pr (og_pr (og_pr (og_tr o0 (og_mono o4 (fun b hb => by omega))) (by omega)) (by omega)) (by omega)) (by omega)) (by omega)
end CX
