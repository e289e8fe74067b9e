/-! what calls leave -/
/-- rows and fields that hold nothing from call to call, and all of the reference -/
def cR (x a : Nat) : Prop := (x + 14 ≤ a ∧ a ≤ x + 20) ∨ a = x + 22 ∨ (x + 24 ≤ a ∧ a ≤ x + 54)
def cF (x k a : Nat) : Prop := (x + 24 ≤ a ∧ a ≤ x + 54) ∨ (a = x + 21 ∧ 102 ≤ k ∧ k ≤ 106) ∨ (a = x + 12 ∧ 405 ≤ k ∧ k ≤ 410) ∨ (a = x + 13 ∧ k = 703)
/-- the class's own of these -/
def kR (x a : Nat) : Prop := (x + 14 ≤ a ∧ a ≤ x + 20) ∨ a = x + 22
def kF (x k a : Nat) : Prop := (a = x + 21 ∧ 102 ≤ k ∧ k ≤ 106) ∨ (a = x + 12 ∧ 405 ≤ k ∧ k ≤ 410) ∨ (a = x + 13 ∧ k = 703)
/-- the reference's -/
def rR (m a : Nat) : Prop := m + 1 ≤ a ∧ a ≤ m + 29
def rF (m k a : Nat) : Prop := a = m ∧ k = k
/-- the law's cells between the class's: unchanged -/
def fc (x : Nat) (S S1 : st_T) : Prop := ∀ a, x + 24 ≤ a → a ≤ x + 54 → st_K S1 a = st_K S a ∧ st_ln S1 a = st_ln S a ∧ st_ri S1 a = st_ri S a ∧ st_rl S1 a = st_rl S a ∧ (∀ k, st_fi S1 k a = st_fi S k a) ∧ ∀ k, st_fr S1 k a = st_fr S k a
theorem fc_rf {x : Nat} {S : st_T} : fc x S S := fun _ _ _ => ⟨rfl, rfl, rfl, rfl, fun _ => rfl, fun _ => rfl⟩
theorem fc_tr {x : Nat} {S S1 S2 : st_T} (h : fc x S S1) (g : fc x S1 S2) : fc x S S2 := fun a h1 h2 => by
  obtain ⟨a1, a2, a3, a4, a5, a6⟩ := h a h1 h2
  obtain ⟨b1, b2, b3, b4, b5, b6⟩ := g a h1 h2
  exact ⟨b1.trans a1, b2.trans a2, b3.trans a3, b4.trans a4, fun k => (b5 k).trans (a5 k), fun k => (b6 k).trans (a6 k)⟩
theorem fc_fq {x : Nat} {R : Nat → Prop} {F : Nat → Nat → Prop} {S S1 : st_T} (h : fq R F S S1) (hR : ∀ a, R a → ¬ (x + 24 ≤ a ∧ a ≤ x + 54)) (hF : ∀ k a, F k a → ¬ (x + 24 ≤ a ∧ a ≤ x + 54)) : fc x S S1 := fun a h1 h2 =>
  ⟨by rw [fq_K h], by rw [fq_ln h], fq_ri h (fun q => hR a q ⟨h1, h2⟩), fq_rl h (fun q => hR a q ⟨h1, h2⟩), fun k => fq_fi h (fun q => hF k a q ⟨h1, h2⟩), fun k => by rw [fq_fr h]⟩
theorem fc_pi {x : Nat} {S S1 : st_T} {k a : Nat} {v : Int32} (h : fc x S S1) (ha : ¬ (x + 24 ≤ a ∧ a ≤ x + 54)) : fc x S (st_pi S1 k a v) := by
  refine fc_tr h (fun b h1 h2 => ⟨rfl, rfl, rfl, rfl, fun k' => ?_, fun _ => rfl⟩)
  rw [fi_pi, if_neg (show ¬ b = a by omega)]
  split
  · next e => rw [e]
  · rfl
theorem fc_pr {x : Nat} {S S1 : st_T} {k a : Nat} {v : Option Nat} (h : fc x S S1) (ha : ¬ (x + 24 ≤ a ∧ a ≤ x + 54)) : fc x S (st_pr S1 k a v) := by
  refine fc_tr h (fun b h1 h2 => ⟨rfl, rfl, rfl, rfl, fun _ => rfl, fun k' => ?_⟩)
  rw [fr_pr', if_neg (show ¬ b = a by omega)]
  split
  · next e => rw [e]
  · rfl
theorem fc_wi {x : Nat} {S S1 : st_T} {a j : Nat} {v : Int32} (h : fc x S S1) (ha : ¬ (x + 24 ≤ a ∧ a ≤ x + 54)) : fc x S (st_wi S1 a j v) := by
  refine fc_tr h (fun b h1 h2 => ⟨rfl, rfl, ?_, rfl, fun _ => rfl, fun _ => rfl⟩)
  funext j'
  rw [ri_wi, if_neg (show ¬ b = a by omega)]
theorem fc_wo {x : Nat} {S S1 : st_T} {a j : Nat} {v : Option Nat} (h : fc x S S1) : fc x S (st_wo S1 a j v) := fc_tr h (fun _ _ _ => ⟨rfl, rfl, rfl, rfl, fun _ => rfl, fun _ => rfl⟩)
theorem fc_xo {x : Nat} {S S1 : st_T} {a : Nat} {f : Nat → Option Nat} (h : fc x S S1) : fc x S (st_xo S1 a f) := fc_tr h (fun _ _ _ => ⟨rfl, rfl, rfl, rfl, fun _ => rfl, fun _ => rfl⟩)
theorem fc_xi {x : Nat} {S S1 : st_T} {a : Nat} {f : Nat → Int32} (h : fc x S S1) (ha : ¬ (x + 24 ≤ a ∧ a ≤ x + 54)) : fc x S (st_xi S1 a f) := by
  refine fc_tr h (fun b h1 h2 => ⟨rfl, rfl, ?_, rfl, fun _ => rfl, fun _ => rfl⟩)
  rw [ri_xi, if_neg (show ¬ b = a by omega)]
theorem fc_na {x : Nat} {S S1 : st_T} {z n : Nat} (h : fc x S S1) (ha : x + 54 < st_nx S1) : fc x S (st_na S1 z n) := by
  refine fc_tr h (fun b h1 h2 => ⟨?_, ?_, ?_, ?_, fun _ => rfl, fun _ => rfl⟩)
  · rw [K_na, if_neg (show ¬ b = st_nx S1 by omega)]
  · rw [ln_na, if_neg (show ¬ b = st_nx S1 by omega)]
  · rw [ri_na, if_neg (show ¬ b = st_nx S1 by omega)]
  · rw [rl_na, if_neg (show ¬ b = st_nx S1 by omega)]
theorem fc_no {x : Nat} {S S1 : st_T} {z : Nat} (h : fc x S S1) (ha : x + 54 < st_nx S1) : fc x S (st_no S1 z) := by
  refine fc_tr h (fun b h1 h2 => ⟨?_, rfl, rfl, rfl, fun k => ?_, fun k => ?_⟩)
  · rw [K_no, if_neg (show ¬ b = st_nx S1 by omega)]
  · rw [fi_no, if_neg (show ¬ b = st_nx S1 by omega)]
  · rw [fr_no, if_neg (show ¬ b = st_nx S1 by omega)]
theorem RS_fc {x : Nat} {S S1 : st_T} (h : RS S (x + 24)) (g : fc x S S1) : RS S1 (x + 24) := by
  unfold RS at h ⊢
  have hK : ∀ i, i ≤ 30 → st_K S1 (x + 24 + i) = st_K S (x + 24 + i) := fun i hi => (g _ (by omega) (by omega)).1
  have hL : ∀ i, i ≤ 30 → st_ln S1 (x + 24 + i) = st_ln S (x + 24 + i) := fun i hi => (g _ (by omega) (by omega)).2.1
  have hF : ∀ k, st_fr S1 k (x + 24) = st_fr S k (x + 24) := (g _ (by omega) (by omega)).2.2.2.2.2
  have hK0 : st_K S1 (x + 24) = st_K S (x + 24) := hK 0 (by omega)
  simp only [hK0, hF, hK 1 (by omega), hL 1 (by omega), hK 2 (by omega), hL 2 (by omega), hK 3 (by omega), hL 3 (by omega), hK 4 (by omega), hL 4 (by omega), hK 5 (by omega), hL 5 (by omega), hK 6 (by omega), hL 6 (by omega), hK 7 (by omega), hL 7 (by omega), hK 8 (by omega), hL 8 (by omega), hK 9 (by omega), hL 9 (by omega), hK 10 (by omega), hL 10 (by omega), hK 11 (by omega), hL 11 (by omega), hK 12 (by omega), hL 12 (by omega), hK 13 (by omega), hL 13 (by omega), hK 14 (by omega), hL 14 (by omega), hK 15 (by omega), hL 15 (by omega), hK 16 (by omega), hL 16 (by omega), hK 17 (by omega), hL 17 (by omega), hK 18 (by omega), hL 18 (by omega), hK 19 (by omega), hL 19 (by omega), hK 20 (by omega), hL 20 (by omega), hK 21 (by omega), hL 21 (by omega), hK 22 (by omega), hL 22 (by omega), hK 23 (by omega), hL 23 (by omega), hK 24 (by omega), hL 24 (by omega), hK 25 (by omega), hL 25 (by omega), hK 26 (by omega), hL 26 (by omega), hK 27 (by omega), hL 27 (by omega), hK 28 (by omega), hL 28 (by omega), hK 29 (by omega), hL 29 (by omega)]
  exact h
theorem RI_fc {x : Nat} {S S1 : st_T} {M : mT} (h : RI S (x + 24) M) (g : fc x S S1) : RI S1 (x + 24) M := by
  refine RI_ag h (RS_fc h.1 g) (fun i hi => ?_) (fun k _ => (g _ (by omega) (by omega)).2.2.2.2.1 k)
  have : i ≤ 29 := by
    simp only [List.mem_cons, List.not_mem_nil, or_false] at hi
    omega
  have := g (x + 24 + i) (by omega) (by omega)
  exact ⟨this.2.2.1, this.2.2.2.1⟩
-- pieces of the class's picture
section PC
variable {S S1 : st_T}
theorem SA_ag {x : Nat} (h : SA S x) (hK : st_K S1 = st_K S) (hL : st_ln S1 = st_ln S) (hs : st_sa S1 = st_sa S) (hr : ∀ a, a < x → st_ri S1 a = st_ri S a) : SA S1 x := by
  obtain ⟨h1, h2, h3, h4⟩ := h
  unfold SA
  rw [hK, hL, hs]
  refine ⟨fun i hi => ?_, h2, h3, h4⟩
  obtain ⟨a1, a2, a3, a4⟩ := h1 i hi
  exact ⟨a1, a2, a3, by rw [hr _ a3]; exact a4⟩
theorem LSt_ag {l e n : Nat} {f : Nat → Nat} (h : LSt S l e n f) (hK : st_K S1 = st_K S) (hF : st_fr S1 = st_fr S) (hL : st_ln S1 = st_ln S) (hs : st_sa S1 = st_sa S) (hr : st_ro S1 = st_ro S) (hi : st_fi S1 2 l = st_fi S 2 l) : LSt S1 l e n f := by
  unfold LSt
  rw [hK, hF, hL, hs, hr, hi]
  exact h
theorem TX_ag {a : Nat} {b : Nat → Nat} {t : tT} (h : TX S a b t) (hK : st_K S1 = st_K S) (hF : st_fr S1 = st_fr S) (hL : st_ln S1 = st_ln S) (hi : st_fi S1 604 a = st_fi S 604 a) (hr : ∀ j, j < 4 → st_ri S1 (b j) = st_ri S (b j)) : TX S1 a b t := by
  unfold TX
  rw [hK, hF, hL, hi, hr 0 (by omega), hr 1 (by omega), hr 2 (by omega), hr 3 (by omega)]
  exact h
theorem CL_ag {a : Nat} {l : Nat → Nat} (h : CL S a l) (hK : st_K S1 a = st_K S a) (hi : ∀ k, 300 ≤ k → k ≤ 305 → st_fi S1 k a = st_fi S k a) : CL S1 a l := by
  unfold CL
  rw [hK, hi 300 (by omega) (by omega), hi 301 (by omega) (by omega), hi 302 (by omega) (by omega), hi 303 (by omega) (by omega), hi 304 (by omega) (by omega), hi 305 (by omega) (by omega)]
  exact h
theorem CDi_ag {A : aT} {M : mT} {i : Nat} (h : CDi S A M i) (hK : st_K S1 = st_K S) (hF : st_fr S1 = st_fr S) (hL : st_ln S1 = st_ln S) (hs : st_sa S1 = st_sa S) (hr : st_ro S1 = st_ro S) (h2 : st_fi S1 2 (a_l A i) = st_fi S 2 (a_l A i)) (hd : ∀ k, 200 ≤ k → k ≤ 205 → st_fi S1 k (a_d A i) = st_fi S k (a_d A i)) (hn : ∀ k, k < m_nl M i → ∀ j, 300 ≤ j → j ≤ 305 → st_fi S1 j (a_n A i k) = st_fi S j (a_n A i k)) : CDi S1 A M i := by
  obtain ⟨b1, b2, b3, b4, b5, b6, b7, b8, b9⟩ := h
  refine ⟨by rw [hK]; exact b1, by rw [hd 200 (by omega) (by omega)]; exact b2, by rw [hd 201 (by omega) (by omega)]; exact b3, by rw [hd 202 (by omega) (by omega)]; exact b4, by rw [hd 203 (by omega) (by omega)]; exact b5, by rw [hd 205 (by omega) (by omega)]; exact b6, by rw [hF]; exact b7, LSt_ag b8 hK hF hL hs hr h2, fun k hk => CL_ag (b9 k hk) (by rw [hK]) (hn k hk)⟩
theorem CO_ag {A : aT} {M : mT} {i : Nat} (h : CO S A M i) (hn : ∀ k, k < m_nl M i → ∀ j, 306 ≤ j → j ≤ 308 → st_fi S1 j (a_n A i k) = st_fi S j (a_n A i k)) : CO S1 A M i := by
  intro k hk
  rw [hn k hk 306 (by omega) (by omega), hn k hk 307 (by omega) (by omega), hn k hk 308 (by omega) (by omega)]
  exact h k hk
theorem CV_ag {A : aT} {M : mT} {v i : Nat} (h : CV S A M v i) (hd : st_fi S1 206 (a_d A i) = st_fi S 206 (a_d A i)) (hn : ∀ k, k < m_nl M i → ∀ j, 306 ≤ j → j ≤ 308 → st_fi S1 j (a_n A i k) = st_fi S j (a_n A i k)) : CV S1 A M v i := by
  rcases h with h | ⟨u, h1, h2, h3⟩
  · exact Or.inl (by rw [hd]; exact h)
  · exact Or.inr ⟨u, h1, by rw [hd]; exact h2, fun e => CO_ag (h3 e) hn⟩
end PC
section AD0
variable {x nx : Nat} {A : aT} {M : mT}
theorem AD_x (h : AD x nx A M) : x + 54 < nx := h.1
theorem AD_d (h : AD x nx A M) {i : Nat} (hi : i < m_D M) : x + 54 < a_d A i ∧ a_d A i < nx := ⟨(h.2.1 i hi).1, (h.2.1 i hi).2.1⟩
theorem AD_l (h : AD x nx A M) {i : Nat} (hi : i < m_D M) : x + 54 < a_l A i ∧ a_l A i < nx := ⟨(h.2.1 i hi).2.2.1, (h.2.1 i hi).2.2.2.1⟩
theorem AD_e (h : AD x nx A M) {i : Nat} (hi : i < m_D M) : a_e A i < x ∨ (x + 54 < a_e A i ∧ a_e A i < nx) := (h.2.1 i hi).2.2.2.2
theorem AD_ed (h : AD x nx A M) : a_ed A < x ∨ (x + 54 < a_ed A ∧ a_ed A < nx) := h.2.2.1
theorem AD_et (h : AD x nx A M) : a_et A < x ∨ (x + 54 < a_et A ∧ a_et A < nx) := h.2.2.2.1
theorem AD_di (h : AD x nx A M) {i j : Nat} (hi : i < m_D M) (hj : j < m_D M) (e : a_d A i = a_d A j) : i = j := h.2.2.2.2.1 i j hi hj e
theorem AD_li (h : AD x nx A M) {i j : Nat} (hi : i < m_D M) (hj : j < m_D M) (e : a_l A i = a_l A j) : i = j := h.2.2.2.2.2.1 i j hi hj e
theorem AD_ei (h : AD x nx A M) {i j : Nat} (hi : i < m_D M) (hj : j < m_D M) (e : a_e A i = a_e A j) : i = j ∨ a_e A i < x := h.2.2.2.2.2.2.1 i j hi hj e
theorem AD_ee (h : AD x nx A M) {i : Nat} (hi : i < m_D M) (e : a_e A i = a_ed A ∨ a_e A i = a_et A) : a_e A i < x := h.2.2.2.2.2.2.2.1 i hi e
theorem AD_eq (h : AD x nx A M) (e : a_ed A = a_et A) : a_ed A < x := h.2.2.2.2.2.2.2.2.1 e
theorem AD_n (h : AD x nx A M) {i k : Nat} (hi : i < m_D M) (hk : k < m_nl M i) : x + 54 < a_n A i k ∧ a_n A i k < nx := h.2.2.2.2.2.2.2.2.2.1 i k hi hk
theorem AD_ni (h : AD x nx A M) {i k j l : Nat} (hi : i < m_D M) (hk : k < m_nl M i) (hj : j < m_D M) (hl : l < m_nl M j) (e : a_n A i k = a_n A j l) : i = j ∧ k = l := h.2.2.2.2.2.2.2.2.2.2.1 i k j l hi hk hj hl e
theorem AD_t (h : AD x nx A M) {t : Nat} (ht : t < m_T M) : x + 54 < a_t A t ∧ a_t A t < nx := h.2.2.2.2.2.2.2.2.2.2.2.1 t ht
theorem AD_b (h : AD x nx A M) {t j : Nat} (ht : t < m_T M) (hj : j < 4) : x + 54 < a_b A t j ∧ a_b A t j < nx := h.2.2.2.2.2.2.2.2.2.2.2.2 t j ht hj
end AD0
/-- calls that write in such rows and fields alone leave the class's picture -/
theorem CI_fq {x : Nat} {S S1 : st_T} {A : aT} {M : mT} {v : Nat} (h : CI S x A M v) (g : fq (cR x) (cF x) S S1) : CI S1 x A M v := by
  obtain ⟨c1, c2, c3, c4, c5, c6, c7, c8, c9, c10, c11, c12, c13, c14, c15⟩ := h
  have gi : ∀ k a, ¬ cF x k a → st_fi S1 k a = st_fi S k a := fun k a => fq_fi g
  have gr : ∀ a, ¬ cR x a → st_ri S1 a = st_ri S a := fun a => fq_ri g
  refine ⟨CS_fq c1 g, SA_ag c2 (fq_K g) (fq_ln g) (fq_sa g) (fun a ha => gr a (by unfold cR; omega)), ?_, LSt_ag c4 (fq_K g) (fq_fr g) (fq_ln g) (fq_sa g) (fq_ro g) (gi _ _ (by unfold cF; omega)), fun i hi => ?_, fun i hi => ?_, LSt_ag c7 (fq_K g) (fq_fr g) (fq_ln g) (fq_sa g) (fq_ro g) (gi _ _ (by unfold cF; omega)), fun t ht => ?_, ?_, ?_, ?_, ?_, ?_, ?_, by rw [fq_nx g]; exact c15⟩
  · rw [gr (x + 2) (by unfold cR; omega)]; exact c3
  · have b1 := AD_d c15 hi
    have b2 := AD_l c15 hi
    exact CDi_ag (c5 i hi) (fq_K g) (fq_fr g) (fq_ln g) (fq_sa g) (fq_ro g) (gi _ _ (by unfold cF; omega)) (fun k _ _ => gi _ _ (by unfold cF; omega)) (fun k hk j _ _ => gi _ _ (by have := AD_n c15 hi hk; unfold cF; omega))
  · have b1 := AD_d c15 hi
    exact CV_ag (c6 i hi) (gi _ _ (by unfold cF; omega)) (fun k hk j _ _ => gi _ _ (by have := AD_n c15 hi hk; unfold cF; omega))
  · have b1 := AD_t c15 ht
    exact TX_ag (c8 t ht) (fq_K g) (fq_fr g) (fq_ln g) (gi _ _ (by unfold cF; omega)) (fun j hj => gr _ (by have := AD_b c15 ht hj; unfold cR; omega))
  · rw [gi _ _ (by unfold cF; omega)]; exact c9
  · rw [gr (x + 11) (by unfold cR; omega)]; exact c10
  · rw [gr (x + 23) (by unfold cR; omega)]; exact c11
  · rw [gi _ _ (by unfold cF; omega)]; exact c12
  · rw [gi _ _ (by unfold cF; omega)]; exact c13
  · rw [gi _ _ (by unfold cF; omega)]; exact c14
theorem CI_fm {x : Nat} {S S1 : st_T} {A : aT} {M : mT} {v : Nat} (h : CI S x A M v) (g : fq (rR (x + 24)) (rF (x + 24)) S S1) : CI S1 x A M v :=
  CI_fq h (fq_mono g (fun a h => by unfold rR at h; unfold cR; omega) (fun k a h => by unfold rF at h; unfold cF; omega))
theorem CI_kk {x : Nat} {S S1 : st_T} {A : aT} {M : mT} {v : Nat} (h : CI S x A M v) (g : fq (kR x) (kF x) S S1) : CI S1 x A M v :=
  CI_fq h (fq_mono g (fun a h => by unfold kR at h; unfold cR; omega) (fun k a h => by unfold kF at h; unfold cF; omega))
theorem fc_kk {x : Nat} {S S1 : st_T} (g : fq (kR x) (kF x) S S1) : fc x S S1 := fc_fq g (fun a h => by unfold kR at h; omega) (fun k a h => by unfold kF at h; omega)
theorem rZ_rR {m a : Nat} (h : rZ m a) : rR m a := by
  simp only [rZ, List.mem_cons, List.not_mem_nil, or_false] at h
  unfold rR
  omega
theorem rY_rF {m k a : Nat} (h : rY m k a) : rF m k a := ⟨h.1, rfl⟩
