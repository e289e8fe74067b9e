/-! text: the reference's parser, what goes on behind a part -/
section RG
variable {β : Type} {S S' S0 T : st_T} {m x v n : Nat} {M : mT} {A : aT} {L : List (Nat × Nat × Nat)} {w p e u : Nat} {cs rr : List (Nat × Nat)} {nr mn : Nat} {fr rest : List (Nat × Nat × Nat)}
def vf (f : Nat × Nat × Nat) : Prop := (f.1 = 0 ∨ f.1 = 8 ∨ f.1 = 9) ∧ (f.2.1 = 0 ∨ f.2.1 = 6 ∨ f.2.1 = 7) ∧ (f.2.2 = 0 ∨ f.2.2 = 10)
def vFr (fr : List (Nat × Nat × Nat)) : Prop := fr.length ≤ 6 ∧ ∀ f ∈ fr, vf f
def pn (f : Nat × Nat × Nat) : Nat := (ws f.1).length + (ws f.2.1).length + (ws f.2.2).length
def pd : List (Nat × Nat × Nat) → Nat
  | [] => 0
  | f :: r => pn f + pd r
theorem ws_len (s : Nat) : (ws s).length = if s = 0 then 0 else 1 := by
  unfold ws
  split <;> rfl
theorem ws_rc {s : Nat} (h : s = 6 ∨ s = 7 ∨ s = 8 ∨ s = 9 ∨ s = 10) : (ws s).map rc = [(em s, 0)] ∧ 1 ≤ em s ∧ em s ≤ 8 := by
  rcases h with h | h | h | h | h <;> subst h <;> exact ⟨rfl, by decide, by decide⟩
theorem em_0 : em 0 = 0 := rfl
/-- the stage in which a bracket closes -/
def cls (m : Nat) (rec0 : st_T → Option (Int32 × st_T)) (T : st_T) : Option (Int32 × st_T) := c_g (st_K T m = 11) (c_i ((st_fi T 1019 m) = 0) (some (0, T)) (c_c (f_X9_takeSign T m 41) (fun (r261 : Unit) (T261 : st_T) => (c_g (st_K T261 m = 11) (c_l (st_pi T261 1019 m ((st_fi T261 1019 m) - 1)) (fun (S_271 : st_T) => (rec0 (S_271))))))))
/-- a wait that is over is told -/
theorem r_say {k : Nat} (hH : QH S m L n) (h : QG S m T p cs rr nr mn) (hk : k = 6 ∨ k = 7 ∨ k = 8 ∨ k = 9 ∨ k = 10) (hc : cs.length < 870) : ∃ T', f_X9_emit T m (nI (em k)) (nI 0) = some ((), T') ∧ QG S m T' p (cs ++ (ws k).map rc) rr nr mn ∧ (∀ fr, QW T m fr → QW T' m fr) ∧ RS T' m := by
  have hs := QF_s hH h.1
  have e := r_emit (a := em k) (b := 0) hs h.2.2.2.1 (by omega)
  refine ⟨_, e, ?_, fun fr q => QW_em q, RS_pi _ _ _ (RS_wi _ _ _ (RS_wi _ _ _ hs))⟩
  rw [(ws_rc hk).1]
  exact QG_em h
theorem r_218 {rec : st_T → Option (Int32 × st_T)} {Q : Int32 → st_T → Prop} (hH : QH S m L n) (h : QG S m T p cs rr nr mn) (hw : QW T m ((0, 0, 0) :: rest)) (hl : rest.length ≤ 5) (hp : p ≤ n)
    (h1 : tK L p = 10 → ∀ T', QG S m T' (p + 1) cs rr nr mn → QW T' m ((0, 0, 10) :: rest) → Q (nI 1) T') (h2 : tK L p ≠ 10 → ok (cls m rec T) Q) : ok (j_X9_goesOnBehind_218 m rec T) Q := by
  have hs := QF_s hH h.1
  have ei := r_isW (c := 3) hH h.1 h.2.1 h.2.2.1 hp (by omega)
  have k3 : kw 3 = 10 := rfl
  rw [k3] at ei
  have ei' : f_X9_isWord T m 3 = some (nI (if tK L p = 10 then 1 else 0), T) := ei
  obtain ⟨w1, w2, w3, w4⟩ := QW_top hw
  have hn := hH.2.2.2.2.1
  unfold j_X9_goesOnBehind_218
  refine ok_gt hs.1 ?_
  rw [c_s ei']
  by_cases c : tK L p = 10
  · rw [if_pos c]
    refine ok_if (by decide) ?_
    refine ok_gt hs.1 ?_
    rw [rn_1022 hs]
    refine ok_gt (show st_K T (m + 14) = 20 by simp only [hs]) ?_
    refine ok_gt (show c_in (st_fi T 1019 m) (st_ln T (m + 14)) by
      rw [w1, show st_ln T (m + 14) = 7 by simp only [hs]]
      exact of_eq_true (in_t (by omega) (by omega))) ?_
    rw [ok_l, ok_l, w1, nI_clamp (by omega)]
    have e7 : st_fi (st_wi T (m + 14) rest.length 7) 1007 m + 1 = nI (p + 1) := by
      show st_fi T 1007 m + 1 = _
      rw [h.2.1]
      exact nI_add p 1
    rw [e7]
    refine ok_of rfl (h1 c _ (QG_at (QG_w (i := 14) h (by omega))) (QW_pi ?_ (by omega)))
    exact QW_14 (a' := 10) hw
  · rw [if_neg c]
    refine ok_it (show nI 0 = (0 : Int32) from rfl) ?_
    exact h2 c
theorem r_189 {rec : st_T → Option (Int32 × st_T)} {Q : Int32 → st_T → Prop} {a : Nat} (hH : QH S m L n) (h : QG S m T p cs rr nr mn) (hw : QW T m ((0, 0, a) :: rest)) (ha : a = 0 ∨ a = 10) (hl : rest.length ≤ 5) (hc : cs.length < 870)
    (h1 : ∀ T', QG S m T' p (cs ++ (ws a).map rc) rr nr mn → QW T' m ((0, 0, 0) :: rest) → ok (j_X9_goesOnBehind_218 m rec T') Q) : ok (j_X9_goesOnBehind_189 m rec T) Q := by
  have hs := QF_s hH h.1
  obtain ⟨w1, w2, w3, w4⟩ := QW_top hw
  have hin : ∀ U : st_T, RS U m → st_fi U 1019 m = nI rest.length → c_in (st_fi U 1019 m) (st_ln U (m + 14)) := fun U hU h9 => by
    rw [h9, show st_ln U (m + 14) = 7 by simp only [hU]]
    exact of_eq_true (in_t (by omega) (by omega))
  unfold j_X9_goesOnBehind_189
  refine ok_gt hs.1 ?_
  rw [rn_1022 hs]
  refine ok_gt (show st_K T (m + 14) = 20 by simp only [hs]) ?_
  refine ok_gt (hin T hs w1) ?_
  rw [w1, nI_clamp (by omega), w4]
  rcases ha with ha | ha
  · subst ha
    refine ok_it (show nI (em 0) = (0 : Int32) from rfl) ?_
    refine h1 T ?_ hw
    rw [ws_0]
    show QG S m T p (cs ++ []) rr nr mn
    rw [List.append_nil]
    exact h
  · subst ha
    refine ok_if (by decide) ?_
    obtain ⟨T1, e1, g1, g2, g3⟩ := r_say (k := 10) hH h (by omega) hc
    have e1' : f_X9_emit T m 7 0 = some ((), T1) := e1
    rw [c_s e1']
    have hw1 := g2 _ hw
    obtain ⟨v1, v2, v3, v4⟩ := QW_top hw1
    refine ok_gt g3.1 ?_
    rw [rn_1022 g3]
    refine ok_gt (show st_K T1 (m + 14) = 20 by simp only [g3]) ?_
    refine ok_gt (hin T1 g3 v1) ?_
    rw [ok_l, v1, nI_clamp (by omega)]
    exact h1 _ (QG_w (i := 14) g1 (by omega)) (QW_14 (a' := 0) hw1)
theorem r_43 {rec : st_T → Option (Int32 × st_T)} {Q : Int32 → st_T → Prop} {t a : Nat} (hH : QH S m L n) (h : QG S m T p cs rr nr mn) (hw : QW T m ((0, t, a) :: rest)) (ht : t = 0 ∨ t = 6 ∨ t = 7) (hl : rest.length ≤ 5) (hp : p ≤ n) (hc : cs.length < 870)
    (h1 : tK L p = 8 ∨ tK L p = 9 → ∀ T', QG S m T' (p + 1) cs rr nr mn → QW T' m ((tK L p, t, a) :: rest) → Q (nI 1) T')
    (h2 : ¬ (tK L p = 8 ∨ tK L p = 9) → t ≠ 0 → ∀ T', QG S m T' p (cs ++ (ws t).map rc) rr nr mn → QW T' m ((0, 0, a) :: rest) → ok (j_X9_goesOnBehind_189 m rec T') Q)
    (h3 : tK L p = 6 ∨ tK L p = 7 → t = 0 → ∀ T', QG S m T' (p + 1) cs rr nr mn → QW T' m ((0, tK L p, a) :: rest) → Q (nI 1) T')
    (h4 : ¬ (tK L p = 8 ∨ tK L p = 9) → ¬ (tK L p = 6 ∨ tK L p = 7) → t = 0 → ok (j_X9_goesOnBehind_189 m rec T) Q) : ok (j_X9_goesOnBehind_43 m rec T) Q := by
  have hs := QF_s hH h.1
  obtain ⟨w1, w2, w3, w4⟩ := QW_top hw
  have hn := hH.2.2.2.2.1
  have e43 : f_X9_isSign T m 43 = some (nI (if tK L p = 8 then 1 else 0), T) := r_isS (c := 43) hH h.1 h.2.1 h.2.2.1 hp (by decide)
  have e45 : f_X9_isSign T m 45 = some (nI (if tK L p = 9 then 1 else 0), T) := r_isS (c := 45) hH h.1 h.2.1 h.2.2.1 hp (by decide)
  have e60 : f_X9_isSign T m 60 = some (nI (if tK L p = 6 then 1 else 0), T) := r_isS (c := 60) hH h.1 h.2.1 h.2.2.1 hp (by decide)
  have e61 : f_X9_isSign T m 61 = some (nI (if tK L p = 7 then 1 else 0), T) := r_isS (c := 61) hH h.1 h.2.1 h.2.2.1 hp (by decide)
  have l12 : st_ln T (m + 12) = 7 := by simp only [hs]
  have l13 : st_ln T (m + 13) = 7 := by simp only [hs]
  have k12' : st_K T (m + 12) = 20 := by simp only [hs]
  have k13 : st_K T (m + 13) = 20 := by simp only [hs]
  have hin : c_in (st_fi T 1019 m) 7 := by
    rw [w1]
    exact of_eq_true (in_t (by omega) (by omega))
  have plus : tK L p = 8 ∨ tK L p = 9 → ok (j_X9_goesOnBehind_61 m T) Q := by
    intro c
    have fin : ∀ y : Nat, y = em (tK L p) → ok (j_X9_goesOnBehind_83 m T (m + 12) T (nI y)) Q := by
      intro y hy
      unfold j_X9_goesOnBehind_83
      refine ok_gt k12' ?_
      refine ok_gt (by rw [l12]; exact hin) ?_
      rw [ok_l, w1, nI_clamp (by omega)]
      refine ok_gt hs.1 ?_
      rw [ok_l]
      have e7 : st_fi (st_wi T (m + 12) rest.length (nI y)) 1007 m + 1 = nI (p + 1) := by
        show st_fi T 1007 m + 1 = _
        rw [h.2.1]
        exact nI_add p 1
      rw [e7]
      refine ok_of rfl (h1 c _ (QG_at (QG_w (i := 12) h (by omega))) (QW_pi ?_ (by omega)))
      rw [hy]
      exact QW_12 hw
    unfold j_X9_goesOnBehind_61
    refine ok_gt hs.1 ?_
    rw [rn_1020 hs, c_s e43]
    by_cases c8 : tK L p = 8
    · rw [if_pos c8]
      refine ok_if (by decide) ?_
      exact fin 3 (by rw [c8]; rfl)
    · rw [if_neg c8]
      refine ok_it (show nI 0 = (0 : Int32) from rfl) ?_
      exact fin 4 (by rw [show tK L p = 9 by omega]; rfl)
  have sign : tK L p = 6 ∨ tK L p = 7 → t = 0 → ok (j_X9_goesOnBehind_153 m T) Q := by
    intro c ht0
    have fin : ∀ y : Nat, y = em (tK L p) → ok (j_X9_goesOnBehind_176 m T (m + 13) T (nI y)) Q := by
      intro y hy
      unfold j_X9_goesOnBehind_176
      refine ok_gt k13 ?_
      refine ok_gt (by rw [l13]; exact hin) ?_
      rw [ok_l, w1, nI_clamp (by omega)]
      refine ok_gt hs.1 ?_
      rw [ok_l]
      have e7 : st_fi (st_wi T (m + 13) rest.length (nI y)) 1007 m + 1 = nI (p + 1) := by
        show st_fi T 1007 m + 1 = _
        rw [h.2.1]
        exact nI_add p 1
      rw [e7]
      refine ok_of rfl (h3 c ht0 _ (QG_at (QG_w (i := 13) h (by omega))) (QW_pi ?_ (by omega)))
      rw [hy]
      exact QW_13 hw
    unfold j_X9_goesOnBehind_153
    refine ok_gt hs.1 ?_
    rw [rn_1021 hs, c_s e60]
    by_cases c8 : tK L p = 6
    · rw [if_pos c8]
      refine ok_if (by decide) ?_
      exact fin 5 (by rw [c8]; rfl)
    · rw [if_neg c8]
      refine ok_it (show nI 0 = (0 : Int32) from rfl) ?_
      exact fin 6 (by rw [show tK L p = 7 by omega]; rfl)
  unfold j_X9_goesOnBehind_43
  refine ok_gt hs.1 ?_
  rw [c_s e43]
  by_cases c8 : tK L p = 8
  · rw [if_pos c8]
    refine ok_if (by decide) ?_
    exact plus (Or.inl c8)
  · rw [if_neg c8]
    refine ok_it (show nI 0 = (0 : Int32) from rfl) ?_
    refine ok_gt hs.1 ?_
    rw [c_s e45]
    by_cases c9 : tK L p = 9
    · rw [if_pos c9]
      refine ok_if (by decide) ?_
      exact plus (Or.inr c9)
    · rw [if_neg c9]
      refine ok_it (show nI 0 = (0 : Int32) from rfl) ?_
      refine ok_gt hs.1 ?_
      rw [rn_1021 hs]
      refine ok_gt k13 ?_
      refine ok_gt (by rw [l13]; exact hin) ?_
      have hv : st_ri T (m + 13) (st_fi T 1019 m).toNatClampNeg = nI (em t) := by
        rw [w1, nI_clamp (by omega)]
        exact w3
      have no : ¬ (tK L p = 8 ∨ tK L p = 9) := by omega
      by_cases t0 : t = 0
      · refine ok_it (by rw [hv, t0]; rfl) ?_
        rw [c_s e60]
        by_cases c6 : tK L p = 6
        · rw [if_pos c6]
          refine ok_if (by decide) ?_
          exact sign (Or.inl c6) t0
        · rw [if_neg c6]
          refine ok_it (show nI 0 = (0 : Int32) from rfl) ?_
          refine ok_gt hs.1 ?_
          rw [c_s e61]
          by_cases c7 : tK L p = 7
          · rw [if_pos c7]
            refine ok_if (by decide) ?_
            exact sign (Or.inr c7) t0
          · rw [if_neg c7]
            refine ok_it (show nI 0 = (0 : Int32) from rfl) ?_
            exact h4 no (by omega) t0
      · have tk : t = 6 ∨ t = 7 ∨ t = 8 ∨ t = 9 ∨ t = 10 := by omega
        obtain ⟨r1, r2, r3⟩ := ws_rc tk
        refine ok_if (by rw [hv]; exact neF (a := em t) (b := 0) (by omega) (by omega) (by omega)) ?_
        refine ok_gt (by rw [l13]; exact hin) ?_
        obtain ⟨T1, e1, g1, g2, g3⟩ := r_say (k := t) hH h tk hc
        have e1' : f_X9_emit T m (st_ri T (m + 13) (st_fi T 1019 m).toNatClampNeg) 0 = some ((), T1) := by rw [hv]; exact e1
        rw [c_s e1']
        have hw1 := g2 _ hw
        obtain ⟨v1, v2, v3, v4⟩ := QW_top hw1
        refine ok_gt g3.1 ?_
        rw [rn_1021 g3]
        refine ok_gt (show st_K T1 (m + 13) = 20 by simp only [g3]) ?_
        refine ok_gt (show c_in (st_fi T1 1019 m) (st_ln T1 (m + 13)) by
          rw [v1, show st_ln T1 (m + 13) = 7 by simp only [g3]]
          exact of_eq_true (in_t (by omega) (by omega))) ?_
        rw [ok_l, v1, nI_clamp (by omega)]
        exact h2 no t0 _ (QG_w (i := 13) g1 (by omega)) (QW_13 (t' := 0) hw1)
theorem r_b0 {rec : st_T → Option (Int32 × st_T)} {Q : Int32 → st_T → Prop} {s t a : Nat} (hH : QH S m L n) (h : QG S m T p cs rr nr mn) (hw : QW T m ((s, t, a) :: rest)) (hsv : s = 0 ∨ s = 8 ∨ s = 9) (hl : rest.length ≤ 5) (hc : cs.length < 870)
    (h1 : ∀ T', QG S m T' p (cs ++ (ws s).map rc) rr nr mn → QW T' m ((0, t, a) :: rest) → ok (j_X9_goesOnBehind_43 m rec T') Q) : ok (b_X9_goesOnBehind_0 m rec T) Q := by
  have hs := QF_s hH h.1
  obtain ⟨w1, w2, w3, w4⟩ := QW_top hw
  have l12 : st_ln T (m + 12) = 7 := by simp only [hs]
  have hin : c_in (st_fi T 1019 m) 7 := by
    rw [w1]
    exact of_eq_true (in_t (by omega) (by omega))
  unfold b_X9_goesOnBehind_0
  refine ok_gt hs.1 ?_
  refine ok_it (by rw [h.2.2.1]; rfl) ?_
  rw [rn_1020 hs]
  refine ok_gt (show st_K T (m + 12) = 20 by simp only [hs]) ?_
  refine ok_gt (by rw [l12]; exact hin) ?_
  have hv : st_ri T (m + 12) (st_fi T 1019 m).toNatClampNeg = nI (em s) := by
    rw [w1, nI_clamp (by omega)]
    exact w2
  by_cases s0 : s = 0
  · subst s0
    refine ok_it (by rw [hv]; rfl) ?_
    refine h1 T ?_ hw
    rw [ws_0]
    show QG S m T p (cs ++ []) rr nr mn
    rw [List.append_nil]
    exact h
  · have tk : s = 6 ∨ s = 7 ∨ s = 8 ∨ s = 9 ∨ s = 10 := by omega
    obtain ⟨r1, r2, r3⟩ := ws_rc tk
    refine ok_if (by rw [hv]; exact neF (a := em s) (b := 0) (by omega) (by omega) (by omega)) ?_
    refine ok_gt (by rw [l12]; exact hin) ?_
    obtain ⟨T1, e1, g1, g2, g3⟩ := r_say (k := s) hH h tk hc
    have e1' : f_X9_emit T m (st_ri T (m + 12) (st_fi T 1019 m).toNatClampNeg) 0 = some ((), T1) := by rw [hv]; exact e1
    rw [c_s e1']
    have hw1 := g2 _ hw
    obtain ⟨v1, v2, v3, v4⟩ := QW_top hw1
    refine ok_gt g3.1 ?_
    rw [rn_1020 g3]
    refine ok_gt (show st_K T1 (m + 12) = 20 by simp only [g3]) ?_
    refine ok_gt (show c_in (st_fi T1 1019 m) (st_ln T1 (m + 12)) by
      rw [v1, show st_ln T1 (m + 12) = 7 by simp only [g3]]
      exact of_eq_true (in_t (by omega) (by omega))) ?_
    rw [ok_l, v1, nI_clamp (by omega)]
    exact h1 _ (QG_w (i := 12) g1 (by omega)) (QW_12 (s' := 0) hw1)
/-- what the moves behind a part come to -/
def GX (S : st_T) (m : Nat) (L : List (Nat × Nat × Nat)) (n p ρ : Nat) (cs rr : List (Nat × Nat)) (nr mn : Nat) (fr : List (Nat × Nat × Nat)) (r : Int32) (T : st_T) : Prop := (r = nI 1 ∧ ∃ fr' p' o, QG S m T p' (cs ++ o.map rc) rr nr mn ∧ QW T m fr' ∧ vFr fr' ∧ fr' ≠ [] ∧ p < p' ∧ p' ≤ n ∧ aF L fr p = pr o (aR L fr' p') ∧ cs.length + o.length + pd fr' ≤ p' + ρ) ∨ (r = nI 0 ∧ ∃ p' o, QG S m T p' (cs ++ o.map rc) rr nr mn ∧ p ≤ p' ∧ p' ≤ n ∧ aF L fr p = .inr (p', o) ∧ cs.length + o.length ≤ p' + ρ) ∨ (r = nI 0 ∧ ∃ e u, QB S m T e u ∧ aF L fr p = .inl e ∧ u ≤ n + ρ)
theorem vFr_tl {f : Nat × Nat × Nat} (h : vFr (f :: rest)) : vFr rest := ⟨by have := h.1; simp only [List.length_cons] at this; omega, fun g hg => h.2 g (List.mem_cons_of_mem _ hg)⟩
theorem vFr_cons {f : Nat × Nat × Nat} (h : vFr rest) (hf : vf f) (hl : rest.length ≤ 5) : vFr (f :: rest) := by
  refine ⟨by simp only [List.length_cons]; omega, fun g hg => ?_⟩
  rcases List.mem_cons.mp hg with z | z
  · rw [z]; exact hf
  · exact h.2 g z
theorem r_gob1 {ρ : Nat} {f : Nat × Nat × Nat} {rec : st_T → Option (Int32 × st_T)} (hH : QH S m L n) (hρ : ρ ≤ 30) (hv : vFr (f :: rest)) (h : QG S m T p cs rr nr mn) (hw : QW T m (f :: rest)) (hp : p ≤ n) (hb : cs.length + pd (f :: rest) ≤ p + ρ) (hcl : ∀ T' o, QG S m T' p (cs ++ o.map rc) rr nr mn → QW T' m ((0, 0, 0) :: rest) → aF L (f :: rest) p = pr o (aC L rest p) → cs.length + o.length + pd rest ≤ p + ρ → ok (cls m rec T') (GX S m L n p ρ cs rr nr mn (f :: rest))) : ok (b_X9_goesOnBehind_0 m rec T) (GX S m L n p ρ cs rr nr mn (f :: rest)) := by
  have hL := hH.2.2.2
  have hn := hL.2.1
  obtain ⟨s, t, a⟩ := f
  have hl : rest.length ≤ 5 := by have := hv.1; simp only [List.length_cons] at this; omega
  have hvr := vFr_tl hv
  obtain ⟨v1, v2, v3⟩ := hv.2 _ (List.mem_cons_self ..)
  have v1' : s = 0 ∨ s = 8 ∨ s = 9 := v1
  have v2' : t = 0 ∨ t = 6 ∨ t = 7 := v2
  have v3' : a = 0 ∨ a = 10 := v3
  have pdd : pd ((s, t, a) :: rest) = (ws s).length + (ws t).length + (ws a).length + pd rest := rfl
  rw [pdd] at hb
  have ls := ws_len s
  have lt := ws_len t
  have la' := ws_len a
  refine r_b0 hH h hw v1' hl (by omega) (fun T1 h1 hw1 => ?_)
  have eS := aF_s (L := L) (p := p) (s := s) (t := t) (a := a) (rest := rest)
  have c1l : (cs ++ (ws s).map rc).length = cs.length + (ws s).length := by rw [List.length_append, List.length_map]
  -- behind the stage of tests
  have and_ : ∀ (o : List (Nat × Nat)) (T2 : st_T), QG S m T2 p (cs ++ o.map rc) rr nr mn → QW T2 m ((0, 0, a) :: rest) → aF L ((s, t, a) :: rest) p = pr o (aS L a rest p) → cs.length + o.length + (ws a).length + pd rest ≤ p + ρ → ok (j_X9_goesOnBehind_189 m rec T2) (GX S m L n p ρ cs rr nr mn ((s, t, a) :: rest)) := by
    intro o T2 h2 hw2 e2 hb2
    have c2l : (cs ++ o.map rc).length = cs.length + o.length := by rw [List.length_append, List.length_map]
    refine r_189 hH h2 hw2 v3' hl (by omega) (fun T3 h3 hw3 => ?_)
    have e3 : cs ++ o.map rc ++ (ws a).map rc = cs ++ (o ++ ws a).map rc := by rw [List.map_append, List.append_assoc]
    rw [e3] at h3
    rw [aS_a, pr_pr] at e2
    have ol : (o ++ ws a).length = o.length + (ws a).length := List.length_append ..
    refine r_218 hH h3 hw3 hl hp (fun k10 T4 h4 hw4 => ?_) (fun k10 => ?_)
    · rw [aS_and hL hp k10] at e2
      have ltn := LG_lt hL hp (by omega)
      refine Or.inl ⟨rfl, (0, 0, 10) :: rest, p + 1, o ++ ws a, h4, hw4, vFr_cons hvr ⟨Or.inl rfl, Or.inl rfl, Or.inr rfl⟩ hl, by simp, by omega, by omega, e2, ?_⟩
      have : pd ((0, 0, 10) :: rest) = 1 + pd rest := rfl
      omega
    · rw [aS_c hL hp k10] at e2
      exact hcl T3 (o ++ ws a) h3 hw3 e2 (by omega)
  refine r_43 hH h1 hw1 v2' hl hp (by rw [c1l]; omega) (fun k89 T2 h2 hw2 => ?_) (fun k89 t0 T2 h2 hw2 => ?_) (fun k67 t0 T2 h2 hw2 => ?_) (fun k89 k67 t0 => ?_)
  · have ltn := LG_lt hL hp (by omega)
    rw [aF_plus hL hp k89] at eS
    refine Or.inl ⟨rfl, (tK L p, t, a) :: rest, p + 1, ws s, h2, hw2, vFr_cons hvr ⟨Or.inr k89, v2, v3⟩ hl, by simp, by omega, by omega, eS, ?_⟩
    have e5 : pd ((tK L p, t, a) :: rest) = (ws (tK L p)).length + (ws t).length + (ws a).length + pd rest := rfl
    have e6 := ws_len (tK L p)
    rw [if_neg (by omega)] at e6
    omega
  · rw [aF_t hL hp k89 t0, pr_pr] at eS
    have e3 : cs ++ (ws s).map rc ++ (ws t).map rc = cs ++ (ws s ++ ws t).map rc := by rw [List.map_append, List.append_assoc]
    rw [e3] at h2
    have wt : ws t = [(t, 0)] := by unfold ws; rw [if_neg t0]
    rw [← wt] at eS
    exact and_ _ T2 h2 hw2 eS (by rw [List.length_append]; omega)
  · have ltn := LG_lt hL hp (by omega)
    subst t0
    rw [aF_sg hL hp k67] at eS
    refine Or.inl ⟨rfl, (0, tK L p, a) :: rest, p + 1, ws s, h2, hw2, vFr_cons hvr ⟨Or.inl rfl, Or.inr k67, v3⟩ hl, by simp, by omega, by omega, eS, ?_⟩
    have e5 : pd ((0, tK L p, a) :: rest) = (ws 0).length + (ws (tK L p)).length + (ws a).length + pd rest := rfl
    have e6 := ws_len (tK L p)
    have e7 := ws_len 0
    rw [if_neg (by omega)] at e6
    rw [if_pos rfl] at e7
    omega
  · subst t0
    rw [aF_a hL hp k89 k67] at eS
    exact and_ _ T1 h1 hw1 eS (by omega)
theorem r_gob {ρ : Nat} (hH : QH S m L n) (hρ : ρ ≤ 30) : ∀ (rest : List (Nat × Nat × Nat)) (f : Nat × Nat × Nat) (p : Nat) (cs : List (Nat × Nat)) (T : st_T) (N : Nat), rest.length < N → vFr (f :: rest) → QG S m T p cs rr nr mn → QW T m (f :: rest) → p ≤ n → cs.length + pd (f :: rest) ≤ p + ρ → ok (c_w (b_X9_goesOnBehind_0 m) N T) (GX S m L n p ρ cs rr nr mn (f :: rest)) := by
  intro rest
  have hL := hH.2.2.2
  have hn := hL.2.1
  induction rest with
  | nil =>
    intro f p cs T N hN hv h hw hp hb
    obtain ⟨N', rfl⟩ : ∃ N', N = N' + 1 := ⟨N - 1, by omega⟩
    show ok (b_X9_goesOnBehind_0 m (c_w (b_X9_goesOnBehind_0 m) N') T) _
    refine r_gob1 hH hρ hv h hw hp hb (fun T1 o h1 hw1 e1 hb1 => ?_)
    have hs := QF_s hH h1.1
    unfold cls
    refine ok_gt hs.1 ?_
    refine ok_it (by rw [hw1.1]; rfl) ?_
    refine ok_of rfl (Or.inr (Or.inl ⟨rfl, p, o, h1, by omega, hp, ?_, by omega⟩))
    rw [e1]
    show Sum.inr (p, o ++ []) = Sum.inr (p, o)
    rw [List.append_nil]
  | cons g r ih =>
    intro f p cs T N hN hv h hw hp hb
    obtain ⟨N', rfl⟩ : ∃ N', N = N' + 1 := ⟨N - 1, by omega⟩
    have hl : (g :: r).length ≤ 5 := by have := hv.1; simp only [List.length_cons] at this ⊢; omega
    show ok (b_X9_goesOnBehind_0 m (c_w (b_X9_goesOnBehind_0 m) N') T) _
    refine r_gob1 hH hρ hv h hw hp hb (fun T1 o h1 hw1 e1 hb1 => ?_)
    have hs := QF_s hH h1.1
    have c1l : (cs ++ o.map rc).length = cs.length + o.length := by rw [List.length_append, List.length_map]
    unfold cls
    refine ok_gt hs.1 ?_
    have w9 : st_fi T1 1019 m = nI (r.length + 1) := hw1.1
    refine ok_if (by rw [w9]; exact neF (a := r.length + 1) (b := 0) (by omega) (by simp only [List.length_cons] at hl; omega) (by omega)) ?_
    have et := r_takeS (c := 41) hH h1.1 h1.2.1 h1.2.2.1 hp (by decide)
    have k41 : ks 41 = 4 := rfl
    rw [k41] at et
    by_cases c4 : tK L p = 4
    · rw [if_pos c4] at et
      have et' : f_X9_takeSign T1 m 41 = some ((), st_pi T1 1007 m (nI (p + 1))) := et
      rw [c_s et']
      refine ok_gt (RS_pi _ _ _ hs).1 ?_
      rw [ok_l]
      have e19 : st_fi (st_pi T1 1007 m (nI (p + 1))) 1019 m - 1 = nI r.length := by
        rw [fi_pi_nk _ _ _ _ _ _ (by omega), w9]
        have : nI (r.length + 1) - nI 1 = nI (r.length + 1 - 1) := nI_sub (by omega)
        rw [Nat.add_sub_cancel] at this
        exact this
      rw [e19]
      have ltn := LG_lt hL hp (by omega)
      have h2 := QG_d (y := nI r.length) (QG_at (p' := p + 1) h1)
      have hw2 := QW_pop (QW_pi (k := 1007) (y := nI (p + 1)) hw1 (by omega))
      have e2 : aF L (f :: g :: r) p = pr o (aF L (g :: r) (p + 1)) := by
        rw [e1]
        show pr o (if tK L p = 4 then aF L (g :: r) (p + 1) else fl L 1 p) = _
        rw [if_pos c4]
      have hvr := vFr_tl hv
      refine ok_imp (ih g (p + 1) (cs ++ o.map rc) _ N' (by simp only [List.length_cons] at hN; omega) hvr h2 hw2 (by omega) (by rw [c1l]; omega)) (fun rr' T3 q => ?_)
      have lm : ∀ o' : List (Nat × Nat), cs ++ o.map rc ++ o'.map rc = cs ++ (o ++ o').map rc := fun o' => by rw [List.map_append, List.append_assoc]
      rcases q with ⟨q0, fr', p', o', q1, q2, q3, q4, q5, q6, q7, q8⟩ | ⟨q0, p', o', q1, q2, q3, q4, q5⟩ | ⟨q0, e, u, q1, q2, q3⟩
      · rw [lm] at q1
        refine Or.inl ⟨q0, fr', p', o ++ o', q1, q2, q3, q4, by omega, q6, by rw [e2, q7, pr_pr], ?_⟩
        rw [c1l] at q8
        rw [List.length_append]
        omega
      · rw [lm] at q1
        refine Or.inr (Or.inl ⟨q0, p', o ++ o', q1, by omega, q3, by rw [e2, q4]; rfl, ?_⟩)
        rw [c1l] at q5
        rw [List.length_append]
        omega
      · refine Or.inr (Or.inr ⟨q0, e, u, q1, by rw [e2, q2]; rfl, q3⟩)
    · rw [if_neg c4] at et
      have et' : f_X9_takeSign T1 m 41 = some ((), st_pi T1 1008 m (nI (1 + 16 * tP L p))) := et
      rw [c_s et']
      have kb := hL.2.2.2.2 p hp
      have hb2 := QB_d (y := st_fi (st_pi T1 1008 m (nI (1 + 16 * tP L p))) 1019 m - 1) (QB_of h1 (e := 1 + 16 * tP L p) (by omega) (by omega))
      refine ok_gt (RS_pi _ _ _ hs).1 ?_
      rw [ok_l]
      obtain ⟨N'', rfl⟩ : ∃ N'', N' = N'' + 1 := ⟨N' - 1, by simp only [List.length_cons] at hN; omega⟩
      have hs2 := QF_s hH hb2.1
      have e2 : aF L (f :: g :: r) p = .inl (1 + 16 * tP L p) := by
        rw [e1]
        show pr o (if tK L p = 4 then aF L (g :: r) (p + 1) else fl L 1 p) = _
        rw [if_neg c4]
        rfl
      show ok (b_X9_goesOnBehind_0 m (c_w (b_X9_goesOnBehind_0 m) N'') _) _
      unfold b_X9_goesOnBehind_0
      refine ok_gt hs2.1 ?_
      refine ok_if (by rw [hb2.2.1]; exact neF (a := 1 + 16 * tP L p) (b := 0) (by omega) (by omega) (by omega)) ?_
      refine ok_of rfl (Or.inr (Or.inr ⟨rfl, _, _, hb2, e2, ?_⟩))
      rw [c1l]
      omega
end RG
