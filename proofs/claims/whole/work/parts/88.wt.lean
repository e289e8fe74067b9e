/-! text: what is read is well made -/
section WT
variable {L : List (Nat × Nat × Nat)} {w p n : Nat}
theorem dp_c (q : Nat × Nat) (r : List (Nat × Nat)) (d : Nat) : dp (q :: r) d = if 6 ≤ q.1 ∧ q.1 ≤ 10 then (if 2 ≤ d then dp r (d - 1) else none) else if d < 16 then dp r (d + 1) else none := rfl
theorem dp_app : ∀ (a b : List (Nat × Nat)) (d d' : Nat), dp a d = some d' → dp (a ++ b) d = dp b d' := by
  intro a
  induction a with
  | nil =>
    intro b d d' h
    have h' : some d = some d' := h
    cases h'
    rfl
  | cons q r ih =>
    intro b d d' h
    show dp (q :: (r ++ b)) d = dp b d'
    rw [dp_c q r] at h
    rw [dp_c q (r ++ b)]
    by_cases c1 : 6 ≤ q.1 ∧ q.1 ≤ 10
    · rw [if_pos c1] at h ⊢
      by_cases c2 : 2 ≤ d
      · rw [if_pos c2] at h ⊢
        exact ih b _ d' h
      · rw [if_neg c2] at h
        cases h
    · rw [if_neg c1] at h ⊢
      by_cases c2 : d < 16
      · rw [if_pos c2] at h ⊢
        exact ih b _ d' h
      · rw [if_neg c2] at h
        cases h
def gdd (k : Nat) (r : rT) : Prop := ∀ q o, r = .inr (q, o) → (∀ z ∈ o, vo z) ∧ ∀ d, d + k ≤ 16 → dp o d = some (d + 1)
def grr (k : Nat) (r : rT) : Prop := ∀ q o, r = .inr (q, o) → (∀ z ∈ o, vo z) ∧ ∀ d, 1 ≤ d → d + k ≤ 16 → dp o d = some d
theorem rb_inr {α : Type} {r : rT} {k : Nat → List (Nat × Nat) → Sum Nat α} {y : α} (h : rb r k = .inr y) : ∃ q o, r = .inr (q, o) ∧ k q o = .inr y := by
  cases r with
  | inl e => cases h
  | inr q => exact ⟨q.1, q.2, rfl, h⟩
theorem dp_j {k d : Nat} (hk : 6 ≤ k ∧ k ≤ 10) (hd : 2 ≤ d) (r : List (Nat × Nat)) : dp ((k, 0) :: r) d = dp r (d - 1) := by
  show (if 6 ≤ k ∧ k ≤ 10 then (if 2 ≤ d then dp r (d - 1) else none) else if d < 16 then dp r (d + 1) else none) = _
  rw [if_pos hk, if_pos hd]
theorem dp_v {k u d : Nat} (hk : ¬ (6 ≤ k ∧ k ≤ 10)) (hd : d < 16) : dp [(k, u)] d = some (d + 1) := by
  show (if 6 ≤ k ∧ k ≤ 10 then (if 2 ≤ d then dp [] (d - 1) else none) else if d < 16 then dp [] (d + 1) else none) = _
  rw [if_neg hk, if_pos hd]
  rfl
theorem vo_j {k : Nat} (hk : 6 ≤ k ∧ k ≤ 10) : vo (k, 0) := Or.inr (Or.inl ⟨hk.1, hk.2, rfl⟩)
theorem one_mem {q z : Nat × Nat} (h : z ∈ [q]) : z = q := by
  rcases List.mem_cons.mp h with e | e
  · exact e
  · cases e
theorem part_gd (hL : LG L n) {E : Nat → rT} {k : Nat} (hk : 1 ≤ k) (hp : p ≤ n) (hE : w < 5 → gdd k (E (p + 1))) : gdd k (xPart L E w p) := by
  intro q o h
  unfold xPart at h
  have kb := hL.2.2.2.2 p hp
  by_cases c1 : tK L p = 2 ∨ tK L p = 3 ∨ (14 ≤ tK L p ∧ tK L p ≤ 23)
  rotate_left
  · rw [if_neg c1] at h; cases h
  rw [if_pos c1] at h
  have lt := LG_lt hL hp (by omega)
  by_cases c2 : w < 5
  rotate_left
  · rw [if_neg c2] at h; cases h
  rw [if_pos c2] at h
  by_cases c3 : tK L p = 3
  · rw [if_pos c3] at h
    obtain ⟨p1, o1, h1, h2⟩ := rb_inr h
    by_cases c4 : tK L p1 = 4
    · rw [if_pos c4] at h2
      cases h2
      exact hE c2 p1 o h1
    · rw [if_neg c4] at h2; cases h2
  · rw [if_neg c3] at h
    by_cases c4 : tK L p = 2
    · rw [if_pos c4] at h
      cases h
      refine ⟨fun z hz => ?_, fun d hd => dp_v (by omega) (by omega)⟩
      rw [one_mem hz]
      exact Or.inl ⟨rfl, kb.2.1⟩
    · rw [if_neg c4] at h
      by_cases c5 : tK L p ≤ 16
      · rw [if_pos c5] at h
        by_cases c6 : tK L (p + 1) = 2
        · rw [if_pos c6] at h
          by_cases c7 : 1 ≤ tV L (p + 1) ∧ tV L (p + 1) ≤ 200
          · rw [if_pos c7] at h
            cases h
            refine ⟨fun z hz => ?_, fun d hd => dp_v (by omega) (by omega)⟩
            rw [one_mem hz]
            exact Or.inr (Or.inr (Or.inl ⟨by show 14 ≤ tK L p; omega, c5, c7.1, c7.2⟩))
          · rw [if_neg c7] at h; cases h
        · rw [if_neg c6] at h; cases h
      · rw [if_neg c5] at h
        cases h
        refine ⟨fun z hz => ?_, fun d hd => dp_v (by omega) (by omega)⟩
        rw [one_mem hz]
        exact Or.inr (Or.inr (Or.inr ⟨by show 17 ≤ tK L p; omega, by show tK L p ≤ 23; omega, rfl⟩))
theorem sumR_gd (hL : LG L n) {E : Nat → rT} {k : Nat} (hA : ∀ q, q ≤ n → w < 5 → adv n q (E q)) (hP : ∀ p, p ≤ n → gdd k (xPart L E w p)) : ∀ f p, p ≤ n → grr k (xSumR L E w f p) := by
  intro f
  induction f with
  | zero =>
    intro p hp q o h
    cases h
    exact ⟨fun z hz => (by cases hz), fun d _ _ => rfl⟩
  | succ f ih =>
    intro p hp q o h
    rw [xSumR] at h
    by_cases c : tK L p = 8 ∨ tK L p = 9
    · rw [if_pos c] at h
      have lt := LG_lt hL hp (by omega)
      obtain ⟨p1, o1, h1, h2⟩ := rb_inr h
      obtain ⟨p2, o2, h3, h4⟩ := rb_inr h2
      have a1 := (part_adv hL hA (show p + 1 ≤ n by omega)).1 p1 o1 h1
      obtain ⟨v1, d1⟩ := hP (p + 1) (by omega) p1 o1 h1
      obtain ⟨v2, d2⟩ := ih p1 a1.2.1 p2 o2 h3
      cases h4
      refine ⟨fun z hz => ?_, fun d hd hk => ?_⟩
      · rcases List.mem_append.mp hz with e | e
        · exact v1 z e
        · rcases List.mem_cons.mp e with e | e
          · rw [e]; exact vo_j (by omega)
          · exact v2 z e
      · rw [dp_app o1 _ d (d + 1) (d1 d (by omega)), dp_j (by omega) (by omega), Nat.add_sub_cancel]
        exact d2 d hd hk
    · rw [if_neg c] at h
      cases h
      exact ⟨fun z hz => (by cases hz), fun d _ _ => rfl⟩
theorem sum_gd (hL : LG L n) {E : Nat → rT} {k : Nat} (hA : ∀ q, q ≤ n → w < 5 → adv n q (E q)) (hP : ∀ p, p ≤ n → gdd k (xPart L E w p)) (hp : p ≤ n) : gdd (k + 1) (xSum L E w p) := by
  intro q o h
  unfold xSum at h
  obtain ⟨p1, o1, h1, h2⟩ := rb_inr h
  obtain ⟨p2, o2, h3, h4⟩ := rb_inr h2
  have a1 := (part_adv hL hA hp).1 p1 o1 h1
  obtain ⟨v1, d1⟩ := hP p hp p1 o1 h1
  obtain ⟨v2, d2⟩ := sumR_gd hL hA hP 800 p1 a1.2.1 p2 o2 h3
  cases h4
  refine ⟨fun z hz => ?_, fun d hd => ?_⟩
  · rcases List.mem_append.mp hz with e | e
    · exact v1 z e
    · exact v2 z e
  · rw [dp_app o1 _ d (d + 1) (d1 d (by omega))]
    exact d2 (d + 1) (by omega) (by omega)
theorem test_gd (hL : LG L n) {E : Nat → rT} {k : Nat} (hA : ∀ q, q ≤ n → w < 5 → adv n q (E q)) (hP : ∀ p, p ≤ n → gdd k (xPart L E w p)) (hp : p ≤ n) : gdd (k + 2) (xTest L E w p) := by
  intro q o h
  unfold xTest at h
  obtain ⟨p1, o1, h1, h2⟩ := rb_inr h
  have a1 := (sum_adv hL hA hp).1 p1 o1 h1
  obtain ⟨v1, d1⟩ := sum_gd hL hA hP hp p1 o1 h1
  by_cases c : tK L p1 = 6 ∨ tK L p1 = 7
  · rw [if_pos c] at h2
    have lt := LG_lt hL a1.2.1 (by omega)
    obtain ⟨p2, o2, h3, h4⟩ := rb_inr h2
    obtain ⟨v2, d2⟩ := sum_gd hL hA hP (show p1 + 1 ≤ n by omega) p2 o2 h3
    cases h4
    refine ⟨fun z hz => ?_, fun d hd => ?_⟩
    · rcases List.mem_append.mp hz with e | e
      · exact v1 z e
      · rcases List.mem_append.mp e with e | e
        · exact v2 z e
        · rw [one_mem e]; exact vo_j (by omega)
    · rw [dp_app o1 _ d (d + 1) (d1 d (by omega)), dp_app o2 _ (d + 1) (d + 1 + 1) (d2 (d + 1) (by omega)), dp_j (by omega) (by omega)]
      rfl
  · rw [if_neg c] at h2
    cases h2
    exact ⟨v1, fun d hd => d1 d (by omega)⟩
theorem andR_gd (hL : LG L n) {E : Nat → rT} {k : Nat} (hA : ∀ q, q ≤ n → w < 5 → adv n q (E q)) (hP : ∀ p, p ≤ n → gdd k (xPart L E w p)) : ∀ f p, p ≤ n → grr (k + 2) (xAndR L E w f p) := by
  intro f
  induction f with
  | zero =>
    intro p hp q o h
    cases h
    exact ⟨fun z hz => (by cases hz), fun d _ _ => rfl⟩
  | succ f ih =>
    intro p hp q o h
    rw [xAndR] at h
    by_cases c : tK L p = 10
    · rw [if_pos c] at h
      have lt := LG_lt hL hp (by omega)
      obtain ⟨p1, o1, h1, h2⟩ := rb_inr h
      obtain ⟨p2, o2, h3, h4⟩ := rb_inr h2
      have a1 := (test_adv hL hA (show p + 1 ≤ n by omega)).1 p1 o1 h1
      obtain ⟨v1, d1⟩ := test_gd hL hA hP (show p + 1 ≤ n by omega) p1 o1 h1
      obtain ⟨v2, d2⟩ := ih p1 a1.2.1 p2 o2 h3
      cases h4
      refine ⟨fun z hz => ?_, fun d hd hk => ?_⟩
      · rcases List.mem_append.mp hz with e | e
        · exact v1 z e
        · rcases List.mem_cons.mp e with e | e
          · rw [e]; exact vo_j (by omega)
          · exact v2 z e
      · rw [dp_app o1 _ d (d + 1) (d1 d (by omega)), dp_j (by omega) (by omega), Nat.add_sub_cancel]
        exact d2 d hd hk
    · rw [if_neg c] at h
      cases h
      exact ⟨fun z hz => (by cases hz), fun d _ _ => rfl⟩
theorem exp_gd (hL : LG L n) {E : Nat → rT} {k : Nat} (hA : ∀ q, q ≤ n → w < 5 → adv n q (E q)) (hP : ∀ p, p ≤ n → gdd k (xPart L E w p)) (hp : p ≤ n) : gdd (k + 3) (xExp L E w p) := by
  intro q o h
  unfold xExp at h
  obtain ⟨p1, o1, h1, h2⟩ := rb_inr h
  obtain ⟨p2, o2, h3, h4⟩ := rb_inr h2
  have a1 := (test_adv hL hA hp).1 p1 o1 h1
  obtain ⟨v1, d1⟩ := test_gd hL hA hP hp p1 o1 h1
  obtain ⟨v2, d2⟩ := andR_gd hL hA hP 800 p1 a1.2.1 p2 o2 h3
  cases h4
  refine ⟨fun z hz => ?_, fun d hd => ?_⟩
  · rcases List.mem_append.mp hz with e | e
    · exact v1 z e
    · exact v2 z e
  · rw [dp_app o1 _ d (d + 1) (d1 d (by omega))]
    exact d2 (d + 1) (by omega) (by omega)
theorem xE_gd (hL : LG L n) : ∀ d w p, w ≤ 5 → p ≤ n → gdd (16 - 3 * w) (xE L d w p) := by
  intro d
  induction d with
  | zero => intro w p _ _ q o h; cases h
  | succ d ih =>
    intro w p hw hp
    have hA : ∀ q, q ≤ n → w < 5 → adv n q (xE L d (w + 1) q) := fun q hq _ => xE_adv hL d (w + 1) q hq
    by_cases c : w = 5
    · have hP : ∀ p, p ≤ n → gdd 1 (xPart L (xE L d (w + 1)) w p) := fun p hp => part_gd hL (by omega) hp (fun z => by omega)
      intro q o h
      have h' : xExp L (xE L d (w + 1)) w p = .inr (q, o) := h
      unfold xExp xTest xSum xPart at h'
      obtain ⟨p1, o1, h1, -⟩ := rb_inr h'
      obtain ⟨p2, o2, h2, -⟩ := rb_inr h1
      obtain ⟨p3, o3, h3, -⟩ := rb_inr h2
      by_cases c1 : tK L p = 2 ∨ tK L p = 3 ∨ (14 ≤ tK L p ∧ tK L p ≤ 23)
      · rw [if_pos c1, if_neg (by omega)] at h3; cases h3
      · rw [if_neg c1] at h3; cases h3
    · have hP : ∀ p, p ≤ n → gdd (13 - 3 * w) (xPart L (xE L d (w + 1)) w p) := fun p hp => by
        by_cases c2 : p < n
        · refine part_gd hL (by omega) hp (fun z => ?_)
          have := ih (w + 1) (p + 1) (by omega) (by omega)
          have e : 16 - 3 * (w + 1) = 13 - 3 * w := by omega
          rw [e] at this
          exact this
        · have e : p = n := by omega
          have k1 := hL.2.2.1
          intro q o h
          unfold xPart at h
          rw [if_neg (by rw [e]; omega)] at h
          cases h
      have := exp_gd hL hA hP hp
      have e : 13 - 3 * w + 3 = 16 - 3 * w := by omega
      rw [e] at this
      exact this
/-! rules -/
theorem sg_app {P o : List (Nat × Nat)} {s e : Nat} (h : s ≤ e) (h2 : e ≤ P.length) : sg (P ++ o) s e = sg P s e := by
  unfold sg
  rw [List.drop_append_of_le_length (by omega), List.take_append_of_le_length (by rw [List.length_drop]; omega)]
theorem sg_last {P o : List (Nat × Nat)} : sg (P ++ o) P.length (P.length + o.length) = o := by
  unfold sg
  rw [List.drop_left, Nat.add_sub_cancel_left]
  exact List.take_of_length_le (Nat.le_refl _)
theorem wR_add {P o : List (Nat × Nat)} {c : Nat} (hc : c ≤ 49) (ho : dp o 0 = some 1) : ∀ (rs : List (Nat × Nat)) (s : Nat), s ≤ P.length → wR P rs s → wR (P ++ o) (rs ++ [(c, P.length + o.length)]) s := by
  intro rs
  induction rs with
  | nil =>
    intro s _ h
    have h' : s = P.length := h
    subst h'
    refine ⟨hc, by omega, by rw [List.length_append]; omega, by rw [sg_last]; exact ho, ?_⟩
    show P.length + o.length = (P ++ o).length
    rw [List.length_append]
  | cons q rs ih =>
    intro s hs h
    obtain ⟨c0, e0⟩ := q
    obtain ⟨a1, a2, a3, a4, a5⟩ := h
    exact ⟨a1, a2, by rw [List.length_append]; omega, by rw [sg_app a2 a3]; exact a4, ih e0 a3 a5⟩
theorem xRd_wT (hL : LG L n) : ∀ (f p : Nat) (rs st : List (Nat × Nat)), p ≤ n → st.length ≤ p → rs.length + f = 24 → (∀ q ∈ st, vo q) → wR st rs 0 → ∀ t, xRd L f p rs st = .inr t → wT t := by
  have hn := hL.2.1
  have tail : ∀ (p : Nat) (rs st : List (Nat × Nat)), p ≤ n → st.length ≤ p → rs.length ≤ 24 → (∀ q ∈ st, vo q) → wR st rs 0 → ∀ t, xTail L p rs st = .inr t → wT t := by
    intro p rs st hp hst hrs hv hR t h
    unfold xTail at h
    by_cases c1 : tK L p = 13
    · rw [if_pos c1] at h
      by_cases c2 : tK L (p + 1) = 2
      · rw [if_pos c2] at h
        by_cases c3 : 1 ≤ tV L (p + 1) ∧ tV L (p + 1) ≤ 143
        · rw [if_pos c3] at h
          by_cases c4 : tK L (p + 2) = 5
          · rw [if_pos c4] at h
            by_cases c5 : tK L (p + 3) = 1
            · rw [if_pos c5] at h
              cases h
              exact ⟨hrs, by show st.length ≤ 800; omega, c3.2, hv, hR⟩
            · rw [if_neg c5] at h; cases h
          · rw [if_neg c4] at h; cases h
        · rw [if_neg c3] at h; cases h
      · rw [if_neg c2] at h; cases h
    · rw [if_neg c1] at h
      by_cases c2 : tK L p = 1
      · rw [if_pos c2] at h
        cases h
        exact ⟨hrs, by show st.length ≤ 800; omega, by show 0 ≤ 143; omega, hv, hR⟩
      · rw [if_neg c2] at h; cases h
  intro f
  induction f with
  | zero =>
    intro p rs st hp hst hrs hv hR t h
    rw [xRd] at h
    by_cases c : tK L p = 11
    · rw [if_pos c] at h; cases h
    · rw [if_neg c] at h
      exact tail p rs st hp hst (by omega) hv hR t h
  | succ f ih =>
    intro p rs st hp hst hrs hv hR t h
    rw [xRd] at h
    by_cases c : tK L p = 11
    · rw [if_pos c] at h
      obtain ⟨p1, o, h1, h2⟩ := rb_inr h
      have a1 := (rule_adv hL hp c).1 p1 o h1
      have lt := LG_lt hL hp (by omega)
      unfold xRule at h1
      by_cases c1 : tK L (p + 1) = 2
      · rw [if_pos c1] at h1
        have l1 := LG_lt hL (show p + 1 ≤ n by omega) (by omega)
        by_cases c2 : tV L (p + 1) ≤ 49
        · rw [if_pos c2] at h1
          by_cases c3 : tK L (p + 2) = 12
          · rw [if_pos c3] at h1
            have l2 := LG_lt hL (show p + 2 ≤ n by omega) (by omega)
            obtain ⟨p2, o2, h3, h4⟩ := rb_inr h1
            by_cases c4 : tK L p2 = 5
            · rw [if_pos c4] at h4
              cases h4
              obtain ⟨v1, d1⟩ := xE_gd hL 8 0 (p + 3) (by omega) (by omega) p2 o h3
              refine ih (p2 + 1) _ (st ++ o) a1.2.1 (by rw [List.length_append]; omega) (by rw [List.length_append]; simp only [List.length_cons, List.length_nil]; omega) (fun q hq => ?_) (wR_add c2 (d1 0 (by omega)) rs 0 (by omega) hR) t h2
              rcases List.mem_append.mp hq with e | e
              · exact hv q e
              · exact v1 q e
            · rw [if_neg c4] at h4; cases h4
          · rw [if_neg c3] at h1; cases h1
        · rw [if_neg c2] at h1; cases h1
      · rw [if_neg c1] at h1; cases h1
    · rw [if_neg c] at h
      exact tail p rs st hp hst (by omega) hv hR t h
theorem wM_t0 {M : mT} (hw : wM M) : wM (m_t0 M) := by
  obtain ⟨a1, a2, a3, a4, a5, a6, a7, a8, a9, a10, a11, a12, a13, a14⟩ := hw
  exact ⟨a1, a2, a3, a4, a5, a6, a7, by show 0 ≤ 800; omega, a9, a10, a11, a12, a13, a14⟩
theorem wM_text {M : mT} {y : tT} (hw : wM M) (hT : m_T M < 8) (hy : wT y) : wM (m_text M y) := by
  obtain ⟨a1, a2, a3, a4, a5, a6, a7, a8, a9, a10, a11, a12, a13, a14⟩ := hw
  refine ⟨a1, a2, a3, a4, a5, a6, a7, by show 0 ≤ 800; omega, a9, a10, by show m_T M + 1 ≤ m_T M + 1; omega, by show m_T M + 1 ≤ 8; omega, fun t ht => ?_, a14⟩
  have ht' : t < m_T M + 1 := ht
  show wT (if t = m_T M then y else m_tx M t)
  by_cases c : t = m_T M
  · rw [if_pos c]; exact hy
  · rw [if_neg c]; exact a13 t (by omega)
end WT
