/-! lists grow -/
section AL
variable {β : Type} {S S' S0 : st_T} {m x v : Nat} {M : mT} {A : aT}
/-- the cells of P are as they were -/
def og (S S' : st_T) (P : Nat → Prop) : Prop := ∀ a, P a → st_K S' a = st_K S a ∧ st_ln S' a = st_ln S a ∧ st_ri S' a = st_ri S a ∧ st_rl S' a = st_rl S a ∧ st_ro S' a = st_ro S a ∧ (∀ k, st_fi S' k a = st_fi S k a) ∧ ∀ k, st_fr S' k a = st_fr S k a
theorem og_rf {P : Nat → Prop} : og S S P := fun _ _ => ⟨rfl, rfl, rfl, rfl, rfl, fun _ => rfl, fun _ => rfl⟩
theorem og_tr {S2 : st_T} {P : Nat → Prop} (h : og S S' P) (g : og S' S2 P) : og S S2 P := fun a ha => by
  obtain ⟨a1, a2, a3, a4, a5, a6, a7⟩ := h a ha
  obtain ⟨b1, b2, b3, b4, b5, b6, b7⟩ := g a ha
  exact ⟨b1.trans a1, b2.trans a2, b3.trans a3, b4.trans a4, b5.trans a5, fun k => (b6 k).trans (a6 k), fun k => (b7 k).trans (a7 k)⟩
theorem og_mono {P P2 : Nat → Prop} (h : og S S' P) (hp : ∀ a, P2 a → P a) : og S S' P2 := fun a ha => h a (hp a ha)
theorem og_pi {P : Nat → Prop} {k a : Nat} {u : Int32} (h : og S S' P) (ha : ¬ P a) : og S (st_pi S' k a u) P := og_tr h (fun b hb => ⟨rfl, rfl, rfl, rfl, rfl, fun k' => fi_pi_na _ _ _ _ _ _ (fun z => ha (z ▸ hb)), fun _ => rfl⟩)
theorem og_pr {P : Nat → Prop} {k a : Nat} {u : Option Nat} (h : og S S' P) (ha : ¬ P a) : og S (st_pr S' k a u) P := og_tr h (fun b hb => ⟨rfl, rfl, rfl, rfl, rfl, fun _ => rfl, fun k' => fr_pr_na _ _ _ _ _ _ (fun z => ha (z ▸ hb))⟩)
theorem og_wo {P : Nat → Prop} {a j : Nat} {u : Option Nat} (h : og S S' P) (ha : ¬ P a) : og S (st_wo S' a j u) P := og_tr h (fun b hb => ⟨rfl, rfl, rfl, rfl, by
  funext j'
  rw [ro_wo, if_neg (fun z : b = a => ha (z ▸ hb))], fun _ => rfl, fun _ => rfl⟩)
theorem og_xo {P : Nat → Prop} {a : Nat} {f : Nat → Option Nat} (h : og S S' P) (ha : ¬ P a) : og S (st_xo S' a f) P := og_tr h (fun b hb => ⟨rfl, rfl, rfl, rfl, by rw [ro_xo, if_neg (fun z : b = a => ha (z ▸ hb))], fun _ => rfl, fun _ => rfl⟩)
theorem og_xi {P : Nat → Prop} {a : Nat} {f : Nat → Int32} (h : og S S' P) (ha : ¬ P a) : og S (st_xi S' a f) P := og_tr h (fun b hb => ⟨rfl, rfl, by rw [ri_xi, if_neg (fun z : b = a => ha (z ▸ hb))], rfl, rfl, fun _ => rfl, fun _ => rfl⟩)
theorem og_na {P : Nat → Prop} {z n : Nat} (h : og S S' P) (ha : ¬ P (st_nx S')) : og S (st_na S' z n) P := og_tr h (fun b hb => by
  have hne : ¬ b = st_nx S' := fun z => ha (z ▸ hb)
  exact ⟨by rw [K_na, if_neg hne], by rw [ln_na, if_neg hne], by rw [ri_na, if_neg hne], by rw [rl_na, if_neg hne], by rw [ro_na, if_neg hne], fun _ => rfl, fun _ => rfl⟩)
theorem og_no {P : Nat → Prop} {c : Nat} (h : og S S' P) (ha : ¬ P (st_nx S')) : og S (st_no S' c) P := og_tr h (fun b hb => by
  have hne : ¬ b = st_nx S' := fun z => ha (z ▸ hb)
  exact ⟨by rw [K_no, if_neg hne], rfl, rfl, rfl, rfl, fun _ => by rw [fi_no, if_neg hne], fun _ => by rw [fr_no, if_neg hne]⟩)
theorem og_wi {P : Nat → Prop} {a j : Nat} {u : Int32} (h : og S S' P) (ha : ¬ P a) : og S (st_wi S' a j u) P := og_tr h (fun b hb => ⟨rfl, rfl, ri_wi_ne _ _ _ _ _ (fun z => ha (z ▸ hb)), rfl, rfl, fun _ => rfl, fun _ => rfl⟩)
section OGP
variable {P : Nat → Prop}
theorem LSt_og {l e n : Nat} {f : Nat → Nat} (h : LSt S l e n f) (g : og S S' P) (hl : P l) (he : P e) (hs : st_sa S' = st_sa S) : LSt S' l e n f := by
  obtain ⟨a1, a2, a3, a4, a5, a6, a7⟩ := g l hl
  obtain ⟨b1, b2, b3, b4, b5, b6, b7⟩ := g e he
  unfold LSt
  rw [a1, a7, a6, hs, b1, b2, b5]
  exact h
theorem TX_og {a : Nat} {b : Nat → Nat} {t : tT} (h : TX S a b t) (g : og S S' P) (ha : P a) (hb : ∀ j, j < 4 → P (b j)) : TX S' a b t := by
  obtain ⟨a1, a2, a3, a4, a5, a6, a7⟩ := g a ha
  have b0 := g _ (hb 0 (by omega))
  have b1 := g _ (hb 1 (by omega))
  have b2 := g _ (hb 2 (by omega))
  have b3 := g _ (hb 3 (by omega))
  unfold TX
  rw [a1, a7, a7, a7, a7, a6, b0.1, b1.1, b2.1, b3.1, b0.2.1, b1.2.1, b2.2.1, b3.2.1, b0.2.2.1, b1.2.2.1, b2.2.2.1, b3.2.2.1]
  exact h
theorem CL_og {a : Nat} {l : Nat → Nat} (h : CL S a l) (g : og S S' P) (ha : P a) : CL S' a l := by
  obtain ⟨a1, a2, a3, a4, a5, a6, a7⟩ := g a ha
  exact CL_ag h a1 (fun k _ _ => a6 k)
theorem CDi_og {i : Nat} (h : CDi S A M i) (g : og S S' P) (hs : st_sa S' = st_sa S) (h1 : P (a_d A i)) (h2 : P (a_l A i)) (h3 : P (a_e A i)) (h4 : ∀ k, k < m_nl M i → P (a_n A i k)) : CDi S' A M i := by
  obtain ⟨b1, b2, b3, b4, b5, b6, b7, b8, b9⟩ := h
  obtain ⟨a1, a2, a3, a4, a5, a6, a7⟩ := g _ h1
  exact ⟨by rw [a1]; exact b1, by rw [a6]; exact b2, by rw [a6]; exact b3, by rw [a6]; exact b4, by rw [a6]; exact b5, by rw [a6]; exact b6, by rw [a7]; exact b7, LSt_og b8 g h2 h3 hs, fun k hk => CL_og (b9 k hk) g (h4 k hk)⟩
theorem CV_og {i : Nat} (h : CV S A M v i) (g : og S S' P) (h1 : P (a_d A i)) (h4 : ∀ k, k < m_nl M i → P (a_n A i k)) : CV S' A M v i := CV_ag h ((g _ h1).2.2.2.2.2.1 _) (fun k hk j _ _ => (g _ (h4 k hk)).2.2.2.2.2.1 _)
theorem SA_og (h : SA S x) (g : og S S' P) (hs : st_sa S' = st_sa S) (hp : ∀ a, a < x → P a) : SA S' x := by
  obtain ⟨h1, h2, h3, h4⟩ := h
  have gq := g _ (hp _ h4)
  unfold SA
  rw [hs]
  refine ⟨fun i hi => ?_, by rw [gq.1]; exact h2, by rw [gq.2.1]; exact h3, h4⟩
  obtain ⟨a1, a2, a3, a4⟩ := h1 i hi
  have gi := g _ (hp _ a3)
  exact ⟨by rw [gi.1]; exact a1, by rw [gi.2.1]; exact a2, a3, by rw [gi.2.2.1]; exact a4⟩
theorem fc_og (g : og S S' P) (hp : ∀ a, x + 24 ≤ a → a ≤ x + 54 → P a) : fc x S S' := fun a h1 h2 => by
  obtain ⟨a1, a2, a3, a4, a5, a6, a7⟩ := g a (hp a h1 h2)
  exact ⟨a1, a2, a3, a4, a6, a7⟩
theorem CS_og (h : CS S x) (g : og S S' P) (hp : ∀ i, i ≤ 23 → P (x + i)) : CS S' x := by
  have hK : ∀ i, i ≤ 23 → st_K S' (x + i) = st_K S (x + i) := fun i hi => (g _ (hp i hi)).1
  have hL : ∀ i, i ≤ 23 → st_ln S' (x + i) = st_ln S (x + i) := fun i hi => (g _ (hp i hi)).2.1
  have hF : ∀ i, i ≤ 23 → ∀ k, st_fr S' k (x + i) = st_fr S k (x + i) := fun i hi => (g _ (hp i hi)).2.2.2.2.2.2
  have hK0 : st_K S' x = st_K S x := hK 0 (by omega)
  have hF0 : ∀ k, st_fr S' k x = st_fr S k x := hF 0 (by omega)
  unfold CS at h ⊢
  simp (disch := omega) only [hK0, hF0, hK, hL, hF]
  exact h
end OGP
theorem nI_sh {n : Nat} (h : n ≤ 64) : nI n >>> (1 &&& 31) = nI (n / 2) := by
  have key : ∀ n : Fin 65, nI n >>> (1 &&& 31) = nI (n / 2) := by decide +kernel
  exact key ⟨n, by omega⟩
theorem el_t {e n s : Nat} (h : ∀ i, i < n → ∃ q, st_ro S e (s + i) = some q ∧ st_K S q ≠ 0 ∧ st_K S q < 12) : el_all S e s n = true := by
  unfold el_all
  rw [List.all_eq_true]
  intro i hi
  obtain ⟨q, h1, h2⟩ := h i (List.mem_range.mp hi)
  rw [h1]
  exact decide_eq_true h2
/-- a list's row has room for one more -/
def HR (S : st_T) (l e n : Nat) (f : Nat → Nat) : Prop := st_K S l = 1 ∧ st_fr S 1 l = some e ∧ st_K S e = 24 ∧ n < st_ln S e ∧ 10 ≤ st_ln S e ∧ st_ln S e ≤ 64 ∧ l < e ∧ ∀ i, i < n → st_ro S e i = some (f i)
theorem e_grow {l e n : Nat} {f : Nat → Nat} (h : LSt S l e n f) (hn : n ≤ 39) (hln : n = st_ln S e) (hf : ∀ i, i < n → st_K S (f i) ≠ 0 ∧ st_K S (f i) < 12 ∧ f i < st_nx S) (hl : l < st_nx S) (he : e < st_nx S) :
    ok (f_Jx4a65c_grow_d5877 S l) (fun r S' => r = some (st_nx S) ∧ HR S' l (st_nx S) n f ∧ st_fi S' 2 l = nI n ∧ st_nx S' = st_nx S + 1 ∧ st_sa S' = st_sa S ∧ og S S' (fun b => b < st_nx S ∧ b ≠ l)) := by
  obtain ⟨h1, h2, h3, h4, h5⟩ := h
  have nne : ∀ a, a < st_nx S → a ≠ st_nx S := fun a ha => by omega
  have nl := nne l hl
  have ne := nne e he
  rcases h4 with ⟨z0, z1, z2, z3⟩ | ⟨z1, z2, z3, z4, z5⟩
  · have st : f_Jx4a65c_grow_d5877 S l = some (some (st_nx S), st_pr (st_na S 24 10) 1 l (some (st_nx S))) := by
      subst z0
      have K1 : st_K (st_na S 24 10) l = 1 := by rw [K_na, if_neg nl]; exact h1
      unfold f_Jx4a65c_grow_d5877 f_Jx4a65c_grow_92f84
      simp (disch := first | omega | assumption | (repeat first | assumption | apply RS_pi | apply RS_wi | apply RS_wl | apply CS_pi | apply CS_wi | apply CS_wl | apply CS_wo | apply CS_xo | apply RI_w15 | apply RI_w16 | apply RI_w17 | apply RI_w26 | apply RI_w27 | apply RI_w28 | apply RI_p1000)) only [↓reduceIte, ↓xg, ↓xi, ↓xl_wi, ↓xl_wl, ↓xl_pi, ↓xlI, ↓xlL, ↓xlN, xl, ↓xn, ↓xc, ↓xon, ↓xos, ↓ln_1, ↓ln_2, ↓ln_3, ↓ln_8, qli_0, qli_1, qli_2, qli_3, qli_4, qli_5, qli_6, qli_7, qli_8, qli_9, qli_10, qli_11, qli_12, qli_13, qli_14, qli_15, qli_16, qli_17, qli_18, qli_19, qli_20, qli_21, qli_22, qli_23, qli_24, qli_25, qli_26, qli_31, qli_32, qli_37, qli_39, qli_40, qli_41, qli_42, qli_43, qli_45, qli_47, qli_48, qli_49, qli_50, qli_56, qli_57, qli_59, qli_60, qli_61, qli_63, qli_64, qli_96, qli_97, qli_99, qli_100, qli_101, qli_122, qli_126, qli_143, qli_144, qli_192, qli_200, qli_201, qli_216, qli_255, qli_256, qli_780, qli_799, qli_800, qli_801, qli_802, qli_880, qli_1000, qli_5760, qli_7040, qli_7920, qli_1000000, in_t, le_t, le_f, lt_t, lt_f, eq_t, eq_f, nI_add, nI_sub', nI_mul, nI_clamp, m1_ne, m1_ne', m1_lt, m1_le, m1_nlt, m1_nle, m1_add, eq_self, not_true_eq_false, not_false_eq_true, ne_eq, Nat.reduceLeDiff, Nat.reduceLT, and_true, true_and, and_self, or_true, true_or, or_false, false_or, false_and, and_false, qK_pi, qK_pr, qK_wi, qK_wl, qK_wo, qK_xi, qK_xo, qfr_pi', qfr_wi', qfr_wl', qfr_wo', qfr_xi', qfr_xo', qfi_pr, qfi_wi, qfi_wl, qfi_wo, qfi_xi, qfi_xo, qln_pi, qln_pr, qln_wi, qln_wl, qln_wo, qln_xi, qln_xo, qri_pi, qri_pr, qri_wl, qri_wo, qri_xo, qrl_pi, qrl_pr, qrl_wi, qrl_wo, qrl_xi, qrl_xo, qro_pi, qro_pr, qro_wi, qro_wl, qro_xi, qnx_pi, qnx_pr, qnx_wi, qnx_wl, qnx_wo, qnx_xi, qnx_xo, qsa_pi, qsa_wi, qsa_wl, qsa_pr, qsa_wo, fi_pi_at, fi_pi_nk, fi_pi_na, ri_wi_at, ri_wi_ne, ri_wi_nj, rl_wl_at, rl_wl_ne, rl_wl_nj, fr_pr_at, fr_pr_nk, fr_pr_na, h1, h3, ↓n_s h2, z2, z3, z1.symm, K1]
    rw [st]
    refine ok_of rfl ⟨rfl, ⟨?_, fr_pr_at _ _ _ _, ?_, ?_, ?_, ?_, hl, fun i hi => by omega⟩, h3, rfl, rfl, og_pr (og_na og_rf (by omega)) (by omega)⟩
    · rw [K_pr, K_na, if_neg nl]; exact h1
    · rw [K_pr, K_na, if_pos rfl]
    · rw [ln_pr, ln_na, if_pos rfl]; omega
    · rw [ln_pr, ln_na, if_pos rfl]; omega
    · rw [ln_pr, ln_na, if_pos rfl]; omega
  · obtain ⟨L, hL⟩ : ∃ L, L = n + n / 2 := ⟨_, rfl⟩
    have hL1 : n < L := by omega
    have hL2 : L ≤ 64 := by omega
    obtain ⟨T, hT⟩ : ∃ T, T = st_na S 24 L := ⟨_, rfl⟩
    have kE : st_K T e = 24 := by rw [hT, K_na, if_neg ne]; exact z1
    have kN : st_K T (st_nx S) = 24 := by rw [hT, K_na, if_pos rfl]
    have lE : st_ln T e = n := by rw [hT, ln_na, if_neg ne]; exact hln.symm
    have lN' : st_ln T (st_nx S) = L := by rw [hT, ln_na, if_pos rfl]
    have rE : st_ro T e = st_ro S e := by rw [hT, ro_na, if_neg ne]
    have elA : el_all T e 0 n = true := el_t (fun i hi => ⟨f i, by rw [rE, Nat.zero_add]; exact h5 i hi, by
      have := hf i hi
      rw [hT, K_na, if_neg (by omega)]
      exact ⟨this.1, this.2.1⟩⟩)
    have K1 : st_K T l = 1 := by rw [hT, K_na, if_neg nl]; exact h1
    have hb : (2147483639 : Int32) = nI 2147483639 := rfl
    have hsh : nI n >>> (nI 1 &&& nI 31) = nI (n / 2) := nI_sh (by omega)
    have cp : f_J7_copyOf_6403c S e (nI L) (st_sa S 101) = some (some (st_nx S), st_xo T (st_nx S) (va_cpy (st_ro T e) (st_ro T (st_nx S)) 0 0 n)) := by
      unfold f_J7_copyOf_6403c
      simp (disch := first | omega | assumption | (repeat first | assumption | apply RS_pi | apply RS_wi | apply RS_wl | apply CS_pi | apply CS_wi | apply CS_wl | apply CS_wo | apply CS_xo | apply RI_w15 | apply RI_w16 | apply RI_w17 | apply RI_w26 | apply RI_w27 | apply RI_w28 | apply RI_p1000)) only [↓reduceIte, ↓xg, ↓xi, ↓xl_wi, ↓xl_wl, ↓xl_pi, ↓xlI, ↓xlL, ↓xlN, xl, ↓xn, ↓xc, ↓xon, ↓xos, ↓ln_1, ↓ln_2, ↓ln_3, ↓ln_8, qli_0, qli_1, qli_2, qli_3, qli_4, qli_5, qli_6, qli_7, qli_8, qli_9, qli_10, qli_11, qli_12, qli_13, qli_14, qli_15, qli_16, qli_17, qli_18, qli_19, qli_20, qli_21, qli_22, qli_23, qli_24, qli_25, qli_26, qli_31, qli_32, qli_37, qli_39, qli_40, qli_41, qli_42, qli_43, qli_45, qli_47, qli_48, qli_49, qli_50, qli_56, qli_57, qli_59, qli_60, qli_61, qli_63, qli_64, qli_96, qli_97, qli_99, qli_100, qli_101, qli_122, qli_126, qli_143, qli_144, qli_192, qli_200, qli_201, qli_216, qli_255, qli_256, qli_780, qli_799, qli_800, qli_801, qli_802, qli_880, qli_1000, qli_5760, qli_7040, qli_7920, qli_1000000, in_t, le_t, le_f, lt_t, lt_f, eq_t, eq_f, nI_add, nI_sub', nI_mul, nI_clamp, m1_ne, m1_ne', m1_lt, m1_le, m1_nlt, m1_nle, m1_add, eq_self, not_true_eq_false, not_false_eq_true, ne_eq, Nat.reduceLeDiff, Nat.reduceLT, and_true, true_and, and_self, or_true, true_or, or_false, false_or, false_and, and_false, qK_pi, qK_pr, qK_wi, qK_wl, qK_wo, qK_xi, qK_xo, qfr_pi', qfr_wi', qfr_wl', qfr_wo', qfr_xi', qfr_xo', qfi_pr, qfi_wi, qfi_wl, qfi_wo, qfi_xi, qfi_xo, qln_pi, qln_pr, qln_wi, qln_wl, qln_wo, qln_xi, qln_xo, qri_pi, qri_pr, qri_wl, qri_wo, qri_xo, qrl_pi, qrl_pr, qrl_wi, qrl_wo, qrl_xi, qrl_xo, qro_pi, qro_pr, qro_wi, qro_wl, qro_xi, qnx_pi, qnx_pr, qnx_wi, qnx_wl, qnx_wo, qnx_xi, qnx_xo, qsa_pi, qsa_wi, qsa_wl, qsa_pr, qsa_wo, fi_pi_at, fi_pi_nk, fi_pi_na, ri_wi_at, ri_wi_ne, ri_wi_nj, rl_wl_at, rl_wl_ne, rl_wl_nj, fr_pr_at, fr_pr_nk, fr_pr_na, hL2, hT.symm, kE, kN, lE, lN', Nat.zero_add, Nat.le_refl, Nat.le_of_lt hL1, elA]
    have e1 : nI (n + 1) - nI n = nI 1 := by rw [nI_sub (by omega)]; congr 1; omega
    have nw : f_J8_newLength_cabcc S (nI n) (nI 1) (nI (n / 2)) = some (nI L, S) := by
      unfold f_J8_newLength_cabcc
      simp (disch := first | omega | assumption | (repeat first | assumption | apply RS_pi | apply RS_wi | apply RS_wl | apply CS_pi | apply CS_wi | apply CS_wl | apply CS_wo | apply CS_xo | apply RI_w15 | apply RI_w16 | apply RI_w17 | apply RI_w26 | apply RI_w27 | apply RI_w28 | apply RI_p1000)) only [↓reduceIte, ↓xg, ↓xi, ↓xl_wi, ↓xl_wl, ↓xl_pi, ↓xlI, ↓xlL, ↓xlN, xl, ↓xn, ↓xc, ↓xon, ↓xos, ↓ln_1, ↓ln_2, ↓ln_3, ↓ln_8, qli_0, qli_1, qli_2, qli_3, qli_4, qli_5, qli_6, qli_7, qli_8, qli_9, qli_10, qli_11, qli_12, qli_13, qli_14, qli_15, qli_16, qli_17, qli_18, qli_19, qli_20, qli_21, qli_22, qli_23, qli_24, qli_25, qli_26, qli_31, qli_32, qli_37, qli_39, qli_40, qli_41, qli_42, qli_43, qli_45, qli_47, qli_48, qli_49, qli_50, qli_56, qli_57, qli_59, qli_60, qli_61, qli_63, qli_64, qli_96, qli_97, qli_99, qli_100, qli_101, qli_122, qli_126, qli_143, qli_144, qli_192, qli_200, qli_201, qli_216, qli_255, qli_256, qli_780, qli_799, qli_800, qli_801, qli_802, qli_880, qli_1000, qli_5760, qli_7040, qli_7920, qli_1000000, in_t, le_t, le_f, lt_t, lt_f, eq_t, eq_f, nI_add, nI_sub', nI_mul, nI_clamp, m1_ne, m1_ne', m1_lt, m1_le, m1_nlt, m1_nle, m1_add, eq_self, not_true_eq_false, not_false_eq_true, ne_eq, Nat.reduceLeDiff, Nat.reduceLT, and_true, true_and, and_self, or_true, true_or, or_false, false_or, false_and, and_false, qK_pi, qK_pr, qK_wi, qK_wl, qK_wo, qK_xi, qK_xo, qfr_pi', qfr_wi', qfr_wl', qfr_wo', qfr_xi', qfr_xo', qfi_pr, qfi_wi, qfi_wl, qfi_wo, qfi_xi, qfi_xo, qln_pi, qln_pr, qln_wi, qln_wl, qln_wo, qln_xi, qln_xo, qri_pi, qri_pr, qri_wl, qri_wo, qri_xo, qrl_pi, qrl_pr, qrl_wi, qrl_wo, qrl_xi, qrl_xo, qro_pi, qro_pr, qro_wi, qro_wl, qro_xi, qnx_pi, qnx_pr, qnx_wi, qnx_wl, qnx_wo, qnx_xi, qnx_xo, qsa_pi, qsa_wi, qsa_wl, qsa_pr, qsa_wo, fi_pi_at, fi_pi_nk, fi_pi_na, ri_wi_at, ri_wi_ne, ri_wi_nj, rl_wl_at, rl_wl_ne, rl_wl_nj, fr_pr_at, fr_pr_nk, fr_pr_na, hb, hL.symm]
    have st : f_Jx4a65c_grow_d5877 S l = some (some (st_nx S), st_pr (st_xo T (st_nx S) (va_cpy (st_ro T e) (st_ro T (st_nx S)) 0 0 n)) 1 l (some (st_nx S))) := by
      unfold f_Jx4a65c_grow_d5877 f_Jx4a65c_grow_92f84 j_Jx4a65c_grow_92f84_20 f_J7_copyOf_1904c
      simp (disch := first | omega | assumption | (repeat first | assumption | apply RS_pi | apply RS_wi | apply RS_wl | apply CS_pi | apply CS_wi | apply CS_wl | apply CS_wo | apply CS_xo | apply RI_w15 | apply RI_w16 | apply RI_w17 | apply RI_w26 | apply RI_w27 | apply RI_w28 | apply RI_p1000)) only [↓reduceIte, ↓xg, ↓xi, ↓xl_wi, ↓xl_wl, ↓xl_pi, ↓xlI, ↓xlL, ↓xlN, xl, ↓xn, ↓xc, ↓xon, ↓xos, ↓ln_1, ↓ln_2, ↓ln_3, ↓ln_8, qli_0, qli_1, qli_2, qli_3, qli_4, qli_5, qli_6, qli_7, qli_8, qli_9, qli_10, qli_11, qli_12, qli_13, qli_14, qli_15, qli_16, qli_17, qli_18, qli_19, qli_20, qli_21, qli_22, qli_23, qli_24, qli_25, qli_26, qli_31, qli_32, qli_37, qli_39, qli_40, qli_41, qli_42, qli_43, qli_45, qli_47, qli_48, qli_49, qli_50, qli_56, qli_57, qli_59, qli_60, qli_61, qli_63, qli_64, qli_96, qli_97, qli_99, qli_100, qli_101, qli_122, qli_126, qli_143, qli_144, qli_192, qli_200, qli_201, qli_216, qli_255, qli_256, qli_780, qli_799, qli_800, qli_801, qli_802, qli_880, qli_1000, qli_5760, qli_7040, qli_7920, qli_1000000, in_t, le_t, le_f, lt_t, lt_f, eq_t, eq_f, nI_add, nI_sub', nI_mul, nI_clamp, m1_ne, m1_ne', m1_lt, m1_le, m1_nlt, m1_nle, m1_add, eq_self, not_true_eq_false, not_false_eq_true, ne_eq, Nat.reduceLeDiff, Nat.reduceLT, and_true, true_and, and_self, or_true, true_or, or_false, false_or, false_and, and_false, qK_pi, qK_pr, qK_wi, qK_wl, qK_wo, qK_xi, qK_xo, qfr_pi', qfr_wi', qfr_wl', qfr_wo', qfr_xi', qfr_xo', qfi_pr, qfi_wi, qfi_wl, qfi_wo, qfi_xi, qfi_xo, qln_pi, qln_pr, qln_wi, qln_wl, qln_wo, qln_xi, qln_xo, qri_pi, qri_pr, qri_wl, qri_wo, qri_xo, qrl_pi, qrl_pr, qrl_wi, qrl_wo, qrl_xi, qrl_xo, qro_pi, qro_pr, qro_wi, qro_wl, qro_xi, qnx_pi, qnx_pr, qnx_wi, qnx_wl, qnx_wo, qnx_xi, qnx_xo, qsa_pi, qsa_wi, qsa_wl, qsa_pr, qsa_wo, fi_pi_at, fi_pi_nk, fi_pi_na, ri_wi_at, ri_wi_ne, ri_wi_nj, rl_wl_at, rl_wl_ne, rl_wl_nj, fr_pr_at, fr_pr_nk, fr_pr_na, h1, h3, ↓n_s h2, z1, hln.symm, e1, hsh, nw, xc, ↓c_s cp, K1]
    rw [st]
    refine ok_of rfl ⟨rfl, ⟨?_, fr_pr_at _ _ _ _, ?_, ?_, ?_, ?_, hl, fun i hi => ?_⟩, ?_, ?_, ?_, ?_⟩
    · rw [K_pr, K_xo]; exact K1
    · rw [K_pr, K_xo]; exact kN
    · rw [ln_pr, ln_xo, lN']; exact hL1
    · rw [ln_pr, ln_xo, lN']; omega
    · rw [ln_pr, ln_xo, lN']; exact hL2
    · rw [ro_pr, ro_xo, if_pos rfl]
      unfold va_cpy
      rw [if_pos (by omega), rE]
      have e2 : 0 + (i - 0) = i := by omega
      rw [e2]
      exact h5 i hi
    · rw [fi_pr, fi_xo, hT, fi_na]; exact h3
    · rw [nx_pr, nx_xo, hT, nx_na]
    · rw [hT]; rfl
    · refine og_pr (og_xo ?_ (by omega)) (by omega)
      rw [hT]
      exact og_na og_rf (by omega)
theorem e_add {l e n a : Nat} {f : Nat → Nat} (h : LSt S l e n f) (hn : n ≤ 39) (ha : st_K S a ≠ 0 ∧ st_K S a < 12) (han : a < st_nx S) (hal : a ≠ l) (hf : ∀ i, i < n → st_K S (f i) ≠ 0 ∧ st_K S (f i) < 12 ∧ f i < st_nx S) (hl : l < st_nx S) (he : e < st_nx S) (hle : l ≠ e) :
    ok (f_Jx4a65c_add_9ea2d S l a) (fun _ S' => ∃ e', LSt S' l e' (n + 1) (fun i => if i = n then a else f i) ∧ ((e' = e ∧ st_K S e = 24) ∨ e' = st_nx S) ∧ st_nx S ≤ st_nx S' ∧ e' < st_nx S' ∧ st_sa S' = st_sa S ∧ og S S' (fun b => b < st_nx S ∧ b ≠ l ∧ b ≠ e')) := by
  have fin : ∀ (T : st_T) (e' : Nat), HR T l e' n f → st_K T a ≠ 0 ∧ st_K T a < 12 → l ≠ e' → ok (j_Jx4a65c_add_72be8_11 l a (nI n) T e') (fun _ S' => S' = st_pi (st_wo T e' n (some a)) 2 l (nI (n + 1)) ∧ LSt S' l e' (n + 1) (fun i => if i = n then a else f i)) := by
    intro T e' ⟨q1, q2, q3, q4, q5, q6, q10, q7⟩ q8 q9
    have st : j_Jx4a65c_add_72be8_11 l a (nI n) T e' = some ((), st_pi (st_wo T e' n (some a)) 2 l (nI (n + 1))) := by
      unfold j_Jx4a65c_add_72be8_11
      simp (disch := first | omega | assumption | (repeat first | assumption | apply RS_pi | apply RS_wi | apply RS_wl | apply CS_pi | apply CS_wi | apply CS_wl | apply CS_wo | apply CS_xo | apply RI_w15 | apply RI_w16 | apply RI_w17 | apply RI_w26 | apply RI_w27 | apply RI_w28 | apply RI_p1000)) only [↓reduceIte, ↓xg, ↓xi, ↓xl_wi, ↓xl_wl, ↓xl_pi, ↓xlI, ↓xlL, ↓xlN, xl, ↓xn, ↓xc, ↓xon, ↓xos, ↓ln_1, ↓ln_2, ↓ln_3, ↓ln_8, qli_0, qli_1, qli_2, qli_3, qli_4, qli_5, qli_6, qli_7, qli_8, qli_9, qli_10, qli_11, qli_12, qli_13, qli_14, qli_15, qli_16, qli_17, qli_18, qli_19, qli_20, qli_21, qli_22, qli_23, qli_24, qli_25, qli_26, qli_31, qli_32, qli_37, qli_39, qli_40, qli_41, qli_42, qli_43, qli_45, qli_47, qli_48, qli_49, qli_50, qli_56, qli_57, qli_59, qli_60, qli_61, qli_63, qli_64, qli_96, qli_97, qli_99, qli_100, qli_101, qli_122, qli_126, qli_143, qli_144, qli_192, qli_200, qli_201, qli_216, qli_255, qli_256, qli_780, qli_799, qli_800, qli_801, qli_802, qli_880, qli_1000, qli_5760, qli_7040, qli_7920, qli_1000000, in_t, le_t, le_f, lt_t, lt_f, eq_t, eq_f, nI_add, nI_sub', nI_mul, nI_clamp, m1_ne, m1_ne', m1_lt, m1_le, m1_nlt, m1_nle, m1_add, eq_self, not_true_eq_false, not_false_eq_true, ne_eq, Nat.reduceLeDiff, Nat.reduceLT, and_true, true_and, and_self, or_true, true_or, or_false, false_or, false_and, and_false, qK_pi, qK_pr, qK_wi, qK_wl, qK_wo, qK_xi, qK_xo, qfr_pi', qfr_wi', qfr_wl', qfr_wo', qfr_xi', qfr_xo', qfi_pr, qfi_wi, qfi_wl, qfi_wo, qfi_xi, qfi_xo, qln_pi, qln_pr, qln_wi, qln_wl, qln_wo, qln_xi, qln_xo, qri_pi, qri_pr, qri_wl, qri_wo, qri_xo, qrl_pi, qrl_pr, qrl_wi, qrl_wo, qrl_xi, qrl_xo, qro_pi, qro_pr, qro_wi, qro_wl, qro_xi, qnx_pi, qnx_pr, qnx_wi, qnx_wl, qnx_wo, qnx_xi, qnx_xo, qsa_pi, qsa_wi, qsa_wl, qsa_pr, qsa_wo, fi_pi_at, fi_pi_nk, fi_pi_na, ri_wi_at, ri_wi_ne, ri_wi_nj, rl_wl_at, rl_wl_ne, rl_wl_nj, fr_pr_at, fr_pr_nk, fr_pr_na, q1, q3, q8]
    rw [st]
    refine ok_of rfl ⟨rfl, q1, q2, fi_pi_at _ _ _ _, Or.inr ⟨q3, q4, q5, q6, q10⟩, fun i hi => ?_⟩
    rw [ro_pi, ro_wo, if_pos rfl]
    show (if i = n then some a else st_ro T e' i) = some (if i = n then a else f i)
    by_cases c : i = n
    · rw [if_pos c, if_pos c]
    · rw [if_neg c, if_neg c]
      exact q7 i (by omega)
  obtain ⟨h1, h2, h3, h4, h5⟩ := id h
  obtain ⟨S1, hS1⟩ : ∃ S1, S1 = st_pi S 0 l (st_fi S 0 l + 1) := ⟨_, rfl⟩
  have o1 : og S S1 (fun b => b < st_nx S ∧ b ≠ l) := by rw [hS1]; exact og_pi og_rf (by omega)
  have hh1 : LSt S1 l e n f := by
    rw [hS1]
    exact LSt_ag h rfl rfl rfl rfl rfl (fi_pi_nk _ _ _ _ _ _ (by omega))
  have hx : st_nx S1 = st_nx S := by rw [hS1]; rfl
  have hk : st_K S1 = st_K S := by rw [hS1]; rfl
  have hsa : st_sa S1 = st_sa S := by rw [hS1]; rfl
  have k20 : (20 ≤ st_K S1 e ∧ st_K S1 e < 25) ∨ st_K S1 e = 30 := by rw [hk]; rcases h4 with z | z <;> omega
  obtain ⟨g1, g2, g3, g4, g5⟩ := id hh1
  have hln64 : st_ln S1 e ≤ 64 := by rcases g4 with z | z <;> omega
  have st : f_Jx4a65c_add_9ea2d S l a = c_c (c_i (nI n = nI (st_ln S1 e)) (c_c (f_Jx4a65c_grow_d5877 S1 l) (fun r7 T7 => c_n r7 (fun p7 => j_Jx4a65c_add_72be8_11 l a (nI n) T7 p7))) (j_Jx4a65c_add_72be8_11 l a (nI n) S1 e)) (fun _ T => some (1, T)) := by
    unfold f_Jx4a65c_add_9ea2d f_Jx4a65c_add_72be8
    simp (disch := first | omega | assumption | (repeat first | assumption | apply RS_pi | apply RS_wi | apply RS_wl | apply CS_pi | apply CS_wi | apply CS_wl | apply CS_wo | apply CS_xo | apply RI_w15 | apply RI_w16 | apply RI_w17 | apply RI_w26 | apply RI_w27 | apply RI_w28 | apply RI_p1000)) only [↓reduceIte, ↓xg, ↓xl, h1, hS1.symm, ↓n_s g2, g3, k20, g1, eq_self]
  rw [st]
  by_cases c : n = st_ln S1 e
  · rw [show c_i (nI n = nI (st_ln S1 e)) (c_c (f_Jx4a65c_grow_d5877 S1 l) (fun r7 T7 => c_n r7 (fun p7 => j_Jx4a65c_add_72be8_11 l a (nI n) T7 p7))) (j_Jx4a65c_add_72be8_11 l a (nI n) S1 e) = c_c (f_Jx4a65c_grow_d5877 S1 l) (fun r7 T7 => c_n r7 (fun p7 => j_Jx4a65c_add_72be8_11 l a (nI n) T7 p7)) from i_t (by rw [← c])]
    have gr := e_grow hh1 hn c (fun i hi => by rw [hk, hx]; exact hf i hi) (by omega) (by omega)
    rw [ok_c, ok_c]
    refine ok_imp gr (fun r T ⟨t1, t2, t3, t4, t5, t6⟩ => ?_)
    rw [t1]
    have ka : st_K T a ≠ 0 ∧ st_K T a < 12 := by
      have := t6 a ⟨by omega, hal⟩
      rw [this.1, hk]
      exact ha
    show ok (j_Jx4a65c_add_72be8_11 l a (nI n) T (st_nx S1)) _
    refine ok_imp (fin T (st_nx S1) t2 ka (by omega)) (fun _ S' ⟨w1, w2⟩ => ?_)
    refine ok_of rfl ⟨st_nx S1, w2, Or.inr hx, ?_, ?_, ?_, ?_⟩
    · rw [w1, nx_pi, nx_wo]; omega
    · rw [w1, nx_pi, nx_wo]; omega
    · rw [w1]
      show st_sa T = st_sa S
      rw [t5, hsa]
    · rw [w1]
      refine og_pi (og_wo (og_tr (og_mono o1 (fun b hb => ⟨hb.1, hb.2.1⟩)) (og_mono t6 (fun b hb => ⟨by omega, hb.2.1⟩))) (by omega)) (by omega)
  · rw [show c_i (nI n = nI (st_ln S1 e)) (c_c (f_Jx4a65c_grow_d5877 S1 l) (fun r7 T7 => c_n r7 (fun p7 => j_Jx4a65c_add_72be8_11 l a (nI n) T7 p7))) (j_Jx4a65c_add_72be8_11 l a (nI n) S1 e) = j_Jx4a65c_add_72be8_11 l a (nI n) S1 e from i_f (fun z => c ((nI_eq (by omega) (by omega)).mp z))]
    rw [ok_c]
    have g6 : st_K S1 e = 24 ∧ n ≤ st_ln S1 e ∧ 10 ≤ st_ln S1 e ∧ st_ln S1 e ≤ 64 ∧ l < e := by
      rcases g4 with z | z
      · omega
      · exact z
    have hr : HR S1 l e n f := ⟨g1, g2, g6.1, by omega, g6.2.2.1, g6.2.2.2.1, g6.2.2.2.2, g5⟩
    refine ok_imp (fin S1 e hr (by rw [hk]; exact ha) hle) (fun _ S' ⟨w1, w2⟩ => ?_)
    refine ok_of rfl ⟨e, w2, Or.inl ⟨rfl, by rw [← hk]; exact g6.1⟩, ?_, ?_, ?_, ?_⟩
    · rw [w1, nx_pi, nx_wo]; omega
    · rw [w1, nx_pi, nx_wo]; omega
    · rw [w1]
      show st_sa S1 = st_sa S
      exact hsa
    · rw [w1]
      refine og_pi (og_wo (og_mono o1 (fun b hb => ⟨hb.1, hb.2.1⟩)) (by omega)) (by omega)
end AL
