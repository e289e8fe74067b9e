/-! the law -/
section LW
variable {x v : Nat} {L : Nat} {xs : Nat → Int32} {S : st_T} {A : aT} {M : mT}
theorem pg {c k : Prop} (h : c) (h2 : k) : p_g c k := ⟨h, h2⟩
theorem pc {α : Type} {y : Option (α × st_T)} {k : α → st_T → Prop} {q : α} {T : st_T} (h : y = some (q, T)) (h2 : k q T) : p_c y k := ⟨q, T, h, h2⟩
theorem pit {c a b : Prop} (h : c) (ha : a) : p_i c a b := ⟨fun _ => ha, fun z => absurd h z⟩
theorem pif {c a b : Prop} (h : ¬ c) (hb : b) : p_i c a b := ⟨fun z => absurd z h, fun _ => hb⟩
theorem lw_end {j : Nat} (hL : L ≤ 4096) (h : ¬ nI L - 8 < nI (8 * j)) (hj : j ≤ 512) : 8 * j + 8 ≤ L := by
  by_cases c : 8 * j + 8 ≤ L
  · exact c
  · exfalso
    apply h
    by_cases c2 : 8 ≤ L
    · have e : nI L - nI 8 = nI (L - 8) := nI_sub c2
      show nI L - nI 8 < nI (8 * j)
      rw [e]
      exact nI_lt (by omega) (by omega)
    · have e := nI_ab (w := L) (c := 8) (by omega) (by omega)
      rw [if_neg c2] at e
      show nI L - nI 8 < nI (8 * j)
      rw [e]
      have n1 := nI_ng (n := 8 - L) (by omega) (by omega)
      have n2 : -(nI (8 - L)) < nI 0 := Int32.not_le.mp n1
      exact Int32.lt_of_lt_of_le n2 (nI_le (by omega) (by omega))
theorem K_of {c : Prop} [Decidable c] {β : Type} {k : Option β} {y : β} (h : c_g c k = some y) : c := (c_g_some h).1
set_option maxRecDepth 20000 in
theorem law_b {j : Nat} {rec : st_T × Int32 → Prop} (hL : L ≤ 4096) (hj : j ≤ 512) (h : INV S x A M v) (hv : v < 1000) (hrec : 8 * (j + 1) ≤ L → ∀ S2 A' M' v', INV S2 x A' M' v' → v' ≤ v + 1 → rec (S2, nI (8 * (j + 1)))) : b_L_law_23 L xs x (x + 24) (x + 54) rec (S, nI (8 * j)) := by
  unfold b_L_law_23
  refine ⟨fun _ => trivial, fun hlt => ?_⟩
  have hl := lw_end hL hlt hj
  have ci : ∀ i, i < 8 → c_in (nI (8 * j) + nI i) L := fun i hi => by
    rw [nI_add]
    exact of_eq_true (in_t (by omega) (by omega))
  have c0 : c_in (nI (8 * j)) L := of_eq_true (in_t (by omega) (by omega))
  have c1 : c_in (nI (8 * j) + 1) L := ci 1 (by omega)
  have c2 : c_in (nI (8 * j) + 2) L := ci 2 (by omega)
  have c3 : c_in (nI (8 * j) + 3) L := ci 3 (by omega)
  have c4 : c_in (nI (8 * j) + 4) L := ci 4 (by omega)
  have c5 : c_in (nI (8 * j) + 5) L := ci 5 (by omega)
  have c6 : c_in (nI (8 * j) + 6) L := ci 6 (by omega)
  have c7 : c_in (nI (8 * j) + 7) L := ci 7 (by omega)
  have kx : st_K S x = 10 := (CI_s h.2.1).1
  have nxt : ∀ S2 A' M' v', INV S2 x A' M' v' → v' ≤ v + 1 → j_L_law_1034 rec (nI (8 * j)) S2 := by
    intro S2 A' M' v' q1 q2
    have e : nI (8 * j) + 8 = nI (8 * (j + 1)) := by
      have : nI (8 * j) + nI 8 = nI (8 * j + 8) := nI_add _ _
      have e2 : 8 * j + 8 = 8 * (j + 1) := by omega
      rw [e2] at this
      exact this
    unfold j_L_law_1034
    rw [e]
    exact hrec (by omega) S2 A' M' v' q1 q2
  refine pg c0 ?_
  refine ⟨fun _ => ?_, fun _ => ?_⟩
  · obtain ⟨r, S1, S2, A', M', v', e1, e2, i1, i2⟩ := sp_below h _ _
    refine pg c1 (pg c2 (pg kx (pc e1 (pg c1 (pg c2 (pg ?_ (pc e2 (pit rfl (nxt S2 A' M' v' i1 i2)))))))))
    dsimp only at e2
    unfold f_X9_below at e2
    exact K_of e2
  refine ⟨fun _ => ?_, fun _ => ?_⟩
  · obtain ⟨r, S1, S2, A', M', v', e1, e2, i1, i2⟩ := sp_diary h _ _ _ _
    refine pg c1 (pg c2 (pg c3 (pg c4 (pg kx (pc e1 (pg c1 (pg c2 (pg c3 (pg c4 (pg ?_ (pc e2 (pit rfl (nxt S2 A' M' v' i1 i2)))))))))))))
    dsimp only at e2
    unfold f_X9_diary at e2
    exact K_of e2
  refine ⟨fun _ => ?_, fun _ => ?_⟩
  · obtain ⟨r, S1, S2, A', M', v', e1, e2, i1, i2⟩ := sp_line h _ _ _ _ _ _ _
    refine pg c1 (pg c2 (pg c3 (pg c4 (pg c5 (pg c6 (pg c7 (pg kx (pc e1 (pg c1 (pg c2 (pg c3 (pg c4 (pg c5 (pg c6 (pg c7 (pg ?_ (pc e2 (pit rfl (nxt S2 A' M' v' i1 i2)))))))))))))))))))
    dsimp only at e2
    unfold f_X9_line at e2
    exact K_of e2
  refine ⟨fun _ => ?_, fun _ => ?_⟩
  · obtain ⟨r, S1, S2, A', M', v', e1, e2, i1, i2⟩ := sp_feed h _ _ _
    refine pg c1 (pg c2 (pg c3 (pg c4 (pg c5 (pg c6 (pg kx (pc e1 (pg c1 (pg c2 (pg c3 (pg c4 (pg c5 (pg c6 (pg ?_ (pc e2 (pit rfl (nxt S2 A' M' v' i1 i2)))))))))))))))))
    dsimp only at e2
    unfold f_X9_feed at e2
    exact K_of e2
  refine ⟨fun _ => ?_, fun _ => ?_⟩
  · obtain ⟨r, S1, S2, A', M', v', e1, e2, i1, i2⟩ := sp_text h
    refine pg kx (pc e1 (pg ?_ (pc e2 (pit rfl (nxt S2 A' M' v' i1 i2)))))
    dsimp only at e2
    unfold f_X9_text at e2
    exact K_of e2
  refine ⟨fun _ => ?_, fun _ => ?_⟩
  · obtain ⟨r, S1, S2, A', M', v', e1, e2, i1, i2⟩ := sp_choose h _
    refine pg c1 (pg kx (pc e1 (pg c1 (pg ?_ (pc e2 (pit rfl (nxt S2 A' M' v' i1 i2)))))))
    dsimp only at e2
    unfold f_X9_choose at e2
    exact K_of e2
  refine ⟨fun _ => ?_, fun _ => ?_⟩
  · obtain ⟨r, S1, S2, A', M', v', e1, e2, i1, i2⟩ := sp_code h hv _ _
    refine pg c1 (pg c2 (pg kx (pc e1 (pg c1 (pg c2 (pg ?_ (pc e2 (pit rfl (nxt S2 A' M' v' i1 i2)))))))))
    dsimp only at e2
    unfold f_X9_code at e2
    exact K_of e2
  refine ⟨fun _ => ?_, fun _ => ?_⟩
  · -- look
    refine pg c1 (pg c2 (pg c3 ?_))
    rcases sx_look h (xs (nI (8 * j) + 1).toNatClampNeg) (xs (nI (8 * j) + 2).toNatClampNeg) (xs (nI (8 * j) + 3).toNatClampNeg) with ⟨r, S1, S2, e1, k1, l1, e2, t2, r2, i2⟩ | ⟨SE, e1, hn⟩
    · refine Or.inl ⟨0, st_wl S1 (x + 54) 0 r.toInt64, ?_, ?_⟩
      · dsimp only at e1
        unfold f_L_look
        rw [g_t kx, c_s e1, g_t k1, g_t (show c_in 0 (st_ln S1 (x + 54)) by rw [l1]; exact of_eq_true (in_t (p := 0) (n := 1) (by omega) (by omega))), xl]
        rfl
      · have hs2 := RI_s i2.1
        have th : f_X9_thrown S2 (x + 24) = some (nI 0, S2) := by
          unfold f_X9_thrown
          rw [g_t hs2.1, t2]
        have kW : st_K (st_wl S1 (x + 54) 0 r.toInt64) (x + 24) = 11 := by
          dsimp only at e2
          unfold f_X9_look at e2
          exact K_of e2
        refine pg c1 (pg c2 (pg c3 (pg kW (pc e2 (pg hs2.1 (pc th (pit rfl (pit rfl (pg i2.2.2.2.1 (pg ?_ (pit ?_ (nxt S2 A M v i2 (by omega)))))))))))))
        · rw [i2.2.2.2.2]; exact of_eq_true (in_t (p := 0) (n := 1) (by omega) (by omega))
        · have r2' : st_rl S2 (x + 54) (0 : Int32).toNatClampNeg = r.toInt64 := r2
          rw [r2']
          exact lc_self _
    · refine Or.inr ⟨kx, SE, e1, fun n hn' => ?_⟩
      obtain ⟨r, S2, e2, t2, i2⟩ := hn n hn'
      have hs2 := RI_s i2.1
      have th : f_X9_thrown S2 (x + 24) = some (nI 1, S2) := by
        unfold f_X9_thrown
        rw [g_t hs2.1, t2]
      have kW : st_K (st_sx SE n) (x + 24) = 11 := by
        dsimp only at e2
        unfold f_X9_look at e2
        exact K_of e2
      exact pg c1 (pg c2 (pg c3 (pg kW (pc e2 (pg hs2.1 (pc th (pit rfl (pif (by decide) (nxt S2 A M v i2 (by omega))))))))))
  refine ⟨fun _ => ?_, fun _ => ?_⟩
  · obtain ⟨r, S1, S2, A', M', v', e1, e2, i1, i2⟩ := sp_ten h hv _ _
    refine pg c1 (pg c2 (pg kx (pc e1 (pg c1 (pg c2 (pg ?_ (pc e2 (pit rfl (nxt S2 A' M' v' i1 i2)))))))))
    dsimp only at e2
    unfold f_X9_ten at e2
    exact K_of e2
  refine ⟨fun _ => ?_, fun _ => ?_⟩
  · obtain ⟨r, S1, S2, A', M', v', e1, e2, i1, i2⟩ := sp_known h _ _
    refine pg c1 (pg c2 (pg kx (pc e1 (pg c1 (pg c2 (pg ?_ (pc e2 (pit rfl (nxt S2 A' M' v' i1 i2)))))))))
    dsimp only at e2
    unfold f_X9_known at e2
    exact K_of e2
  refine ⟨fun _ => ?_, fun _ => ?_⟩
  · obtain ⟨r, S1, S2, A', M', v', e1, e2, i1, i2⟩ := sp_rounds h _
    refine pg c1 (pg kx (pc e1 (pg c1 (pg ?_ (pc e2 (pit rfl (nxt S2 A' M' v' i1 i2)))))))
    dsimp only at e2
    unfold f_X9_rounds at e2
    exact K_of e2
  refine ⟨fun _ => ?_, fun _ => ?_⟩
  · obtain ⟨r, S1, S2, A', M', v', e1, e2, i1, i2⟩ := sp_weight h _
    refine pg c1 (pg kx (pc e1 (pg c1 (pg ?_ (pc e2 (pit rfl (nxt S2 A' M' v' i1 i2)))))))
    dsimp only at e2
    unfold f_X9_weight at e2
    exact K_of e2
  refine ⟨fun _ => ?_, fun _ => ?_⟩
  · -- cell
    refine pg c1 (pg c2 (pg c3 ?_))
    refine ⟨fun z => ?_, fun z => ?_⟩
    · obtain ⟨r, S1, S2, A', M', v', e1, e2, i1, i2⟩ := sp_cell h hv (xs (nI (8 * j) + 1).toNatClampNeg) (xs (nI (8 * j) + 2).toNatClampNeg) 0
      refine pg kx (pc e1 (pg c1 (pg c2 (pg c3 (pit z (pg ?_ (pc e2 (pit rfl (nxt S2 A' M' v' i1 i2)))))))))
      dsimp only at e2
      unfold f_X9_cell at e2
      exact K_of e2
    · obtain ⟨r, S1, S2, A', M', v', e1, e2, i1, i2⟩ := sp_cell h hv (xs (nI (8 * j) + 1).toNatClampNeg) (xs (nI (8 * j) + 2).toNatClampNeg) 1
      refine pg kx (pc e1 (pg c1 (pg c2 (pg c3 (pif z (pg ?_ (pc e2 (pit rfl (nxt S2 A' M' v' i1 i2)))))))))
      dsimp only at e2
      unfold f_X9_cell at e2
      exact K_of e2
  refine ⟨fun _ => ?_, fun _ => ?_⟩
  · obtain ⟨r, S1, S2, A', M', v', e1, e2, i1, i2⟩ := sp_lead h hv _ _ _
    refine pg c1 (pg c2 (pg c3 (pg kx (pc e1 (pg c1 (pg c2 (pg c3 (pg ?_ (pc e2 (pit rfl (nxt S2 A' M' v' i1 i2)))))))))))
    dsimp only at e2
    unfold f_X9_lead at e2
    exact K_of e2
  refine ⟨fun _ => ?_, fun _ => ?_⟩
  · obtain ⟨r, S1, S2, A', M', v', e1, e2, i1, i2⟩ := sp_next h hv _ _
    refine pg c1 (pg c2 (pg kx (pc e1 (pg c1 (pg c2 (pg ?_ (pc e2 (pit rfl (nxt S2 A' M' v' i1 i2)))))))))
    dsimp only at e2
    unfold f_X9_next at e2
    exact K_of e2
  refine ⟨fun _ => ?_, fun _ => ?_⟩
  · obtain ⟨r, S1, S2, A', M', v', e1, e2, i1, i2⟩ := sp_quarrels h _ _
    refine pg c1 (pg c2 (pg kx (pc e1 (pg c1 (pg c2 (pg ?_ (pc e2 (pit rfl (nxt S2 A' M' v' i1 i2)))))))))
    dsimp only at e2
    unfold f_X9_quarrels at e2
    exact K_of e2
  refine ⟨fun _ => ?_, fun _ => ?_⟩
  · -- day
    refine pg c1 (pg c2 ?_)
    rcases sx_day h hv (xs (nI (8 * j) + 1).toNatClampNeg) (xs (nI (8 * j) + 2).toNatClampNeg) with ⟨r, S1, S2, e1, k1, l1, e2, t2, r2, i2⟩ | ⟨SE, e1, hn⟩
    · refine Or.inl ⟨0, st_wl S1 (x + 54) 0 r.toInt64, ?_, ?_⟩
      · dsimp only at e1
        unfold f_L_day
        rw [g_t kx, c_s e1, g_t k1, g_t (show c_in 0 (st_ln S1 (x + 54)) by rw [l1]; exact of_eq_true (in_t (p := 0) (n := 1) (by omega) (by omega))), xl]
        rfl
      · have hs2 := RI_s i2.1
        have th : f_X9_thrown S2 (x + 24) = some (nI 0, S2) := by
          unfold f_X9_thrown
          rw [g_t hs2.1, t2]
        have kW : st_K (st_wl S1 (x + 54) 0 r.toInt64) (x + 24) = 11 := by
          dsimp only at e2
          unfold f_X9_day at e2
          exact K_of e2
        refine pg c1 (pg c2 (pg kW (pc e2 (pg hs2.1 (pc th (pit rfl (pit rfl (pg i2.2.2.2.1 (pg ?_ (pit ?_ (nxt S2 A M v i2 (by omega))))))))))))
        · rw [i2.2.2.2.2]; exact of_eq_true (in_t (p := 0) (n := 1) (by omega) (by omega))
        · have r2' : st_rl S2 (x + 54) (0 : Int32).toNatClampNeg = r.toInt64 := r2
          rw [r2']
          exact lc_self _
    · refine Or.inr ⟨kx, SE, e1, fun n hn' => ?_⟩
      obtain ⟨r, S2, e2, t2, i2⟩ := hn n hn'
      have hs2 := RI_s i2.1
      have th : f_X9_thrown S2 (x + 24) = some (nI 1, S2) := by
        unfold f_X9_thrown
        rw [g_t hs2.1, t2]
      have kW : st_K (st_sx SE n) (x + 24) = 11 := by
        dsimp only at e2
        unfold f_X9_day at e2
        exact K_of e2
      exact pg c1 (pg c2 (pg kW (pc e2 (pg hs2.1 (pc th (pit rfl (pif (by decide) (nxt S2 A M v i2 (by omega)))))))))
  refine ⟨fun _ => ?_, fun _ => ?_⟩
  · obtain ⟨r, S1, S2, A', M', v', e1, e2, i1, i2⟩ := sp_count h _
    refine pg c1 (pg kx (pc e1 (pg c1 (pg ?_ (pc e2 (pit rfl (nxt S2 A' M' v' i1 i2)))))))
    dsimp only at e2
    unfold f_X9_count at e2
    exact K_of e2
  exact nxt S A M v h (by omega)
theorem law_w (hL : L ≤ 4096) : ∀ (N j : Nat) (S : st_T) (A : aT) (M : mT) (v : Nat), INV S x A M v → v ≤ j → 512 < N + j → j ≤ 512 → p_w (b_L_law_23 L xs x (x + 24) (x + 54)) N (S, nI (8 * j)) := by
  intro N
  induction N with
  | zero => intro j S A M v h hv hN hj; omega
  | succ N ih =>
    intro j S A M v h hv hN hj
    show b_L_law_23 L xs x (x + 24) (x + 54) (p_w (b_L_law_23 L xs x (x + 24) (x + 54)) N) (S, nI (8 * j))
    exact law_b hL hj h (by omega) (fun hl S2 A' M' v' q1 q2 => ih (j + 1) S2 A' M' v' q1 (by omega) (by omega) (by omega))
theorem law_ok_pf : law_ok := by
  intro L xs n sa hL f1 f2 f3 f4
  have hSA := SA_0 f1 f2 f3 f4
  have hx : st_nx (st_0 n sa) = n := rfl
  obtain ⟨_, T4, e4, h4⟩ := c_init1 (HB_1 (c := 9) hx (by decide))
  have hx4 : st_nx T4 = n + 24 := h4.2.2.2.2.2.2.2.2.2.1
  obtain ⟨_, T12, e12, h12⟩ := r_init1 (HB_1 (c := 10) hx4 (by decide))
  have hx12 : st_nx T12 = n + 54 := h12.2.2.2.2.2.2.2.2.2.1
  have inv := INV_0 hSA h4 h12
  unfold p_L_law
  have e4' : f_X8_init (st_no (st_0 n sa) 9) (st_nx (st_0 n sa)) = some ((), T4) := e4
  have e12' : f_X9_init (st_no T4 10) (st_nx T4) = some ((), T12) := by rw [hx4]; exact e12
  refine pc e4' (pc e12' (pg (by decide) ?_))
  show p_w (b_L_law_23 L xs n (st_nx T4) (st_nx T12)) 513 (st_na T12 21 1, 0)
  rw [hx4, hx12]
  exact law_w hL 513 0 _ _ _ 0 inv (by omega) (by omega) (by omega)
end LW
