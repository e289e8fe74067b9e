/-! text: the mathematics of reading -/
section PA
variable {L : List (Nat × Nat × Nat)} {w : Nat}
def tK (L : List (Nat × Nat × Nat)) (i : Nat) : Nat := (L.getD i (0, 0, 0)).1
def tV (L : List (Nat × Nat × Nat)) (i : Nat) : Nat := (L.getD i (0, 0, 0)).2.1
def tP (L : List (Nat × Nat × Nat)) (i : Nat) : Nat := (L.getD i (0, 0, 0)).2.2
/-- tokens as a scanner leaves them: n of them, then the end -/
def LG (L : List (Nat × Nat × Nat)) (n : Nat) : Prop := L.length = n + 1 ∧ n ≤ 800 ∧ tK L n = 1 ∧ (∀ i, i < n → tK L i ≠ 1) ∧ (∀ i, i ≤ n → tK L i ≤ 23 ∧ tV L i < 10000 ∧ tP L i ≤ 800)
abbrev rT : Type := Sum Nat (Nat × List (Nat × Nat))
def fl (L : List (Nat × Nat × Nat)) (how p : Nat) : rT := .inl (how + 16 * tP L p)
def rb {α : Type} (r : rT) (k : Nat → List (Nat × Nat) → Sum Nat α) : Sum Nat α := match r with
  | .inl e => .inl e
  | .inr (p, o) => k p o
theorem rb_l {α : Type} {e : Nat} {k : Nat → List (Nat × Nat) → Sum Nat α} : rb (.inl e) k = .inl e := rfl
theorem rb_r {α : Type} {p : Nat} {o : List (Nat × Nat)} {k : Nat → List (Nat × Nat) → Sum Nat α} : rb (.inr (p, o)) k = k p o := rfl
theorem rb_a {α : Type} {r : rT} {k : Nat → List (Nat × Nat) → rT} {k2 : Nat → List (Nat × Nat) → Sum Nat α} : rb (rb r k) k2 = rb r (fun p o => rb (k p o) k2) := by
  cases r with
  | inl e => rfl
  | inr q => rfl
theorem rb_if {α : Type} {c : Prop} [Decidable c] {a b : rT} {k : Nat → List (Nat × Nat) → Sum Nat α} : rb (if c then a else b) k = if c then rb a k else rb b k := by
  by_cases h : c
  · rw [if_pos h, if_pos h]
  · rw [if_neg h, if_neg h]
theorem rb_cg {α : Type} {r : rT} {k k2 : Nat → List (Nat × Nat) → Sum Nat α} (h : ∀ p o, r = .inr (p, o) → k p o = k2 p o) : rb r k = rb r k2 := by
  cases r with
  | inl e => rfl
  | inr q => exact h q.1 q.2 rfl
def xPart (L : List (Nat × Nat × Nat)) (E : Nat → rT) (w p : Nat) : rT :=
  if tK L p = 2 ∨ tK L p = 3 ∨ (14 ≤ tK L p ∧ tK L p ≤ 23) then
    (if w < 5 then
      (if tK L p = 3 then rb (E (p + 1)) (fun p1 o => if tK L p1 = 4 then .inr (p1 + 1, o) else fl L 1 p1)
      else if tK L p = 2 then .inr (p + 1, [(2, tV L p)])
      else if tK L p ≤ 16 then (if tK L (p + 1) = 2 then (if 1 ≤ tV L (p + 1) ∧ tV L (p + 1) ≤ 200 then .inr (p + 2, [(tK L p, tV L (p + 1))]) else fl L 4 (p + 1)) else fl L 1 (p + 1))
      else .inr (p + 1, [(tK L p, 0)]))
    else fl L 5 p)
  else fl L 1 p
def xSumR (L : List (Nat × Nat × Nat)) (E : Nat → rT) (w : Nat) : Nat → Nat → rT
  | 0, p => .inr (p, [])
  | f + 1, p => if tK L p = 8 ∨ tK L p = 9 then rb (xPart L E w (p + 1)) (fun p1 o1 => rb (xSumR L E w f p1) (fun p2 o2 => .inr (p2, o1 ++ (tK L p, 0) :: o2))) else .inr (p, [])
def xSum (L : List (Nat × Nat × Nat)) (E : Nat → rT) (w p : Nat) : rT := rb (xPart L E w p) (fun p1 o1 => rb (xSumR L E w 800 p1) (fun p2 o2 => .inr (p2, o1 ++ o2)))
def xTest (L : List (Nat × Nat × Nat)) (E : Nat → rT) (w p : Nat) : rT := rb (xSum L E w p) (fun p1 o1 => if tK L p1 = 6 ∨ tK L p1 = 7 then rb (xSum L E w (p1 + 1)) (fun p2 o2 => .inr (p2, o1 ++ (o2 ++ [(tK L p1, 0)]))) else .inr (p1, o1))
def xAndR (L : List (Nat × Nat × Nat)) (E : Nat → rT) (w : Nat) : Nat → Nat → rT
  | 0, p => .inr (p, [])
  | f + 1, p => if tK L p = 10 then rb (xTest L E w (p + 1)) (fun p1 o1 => rb (xAndR L E w f p1) (fun p2 o2 => .inr (p2, o1 ++ (10, 0) :: o2))) else .inr (p, [])
def xExp (L : List (Nat × Nat × Nat)) (E : Nat → rT) (w p : Nat) : rT := rb (xTest L E w p) (fun p1 o1 => rb (xAndR L E w 800 p1) (fun p2 o2 => .inr (p2, o1 ++ o2)))
def xE (L : List (Nat × Nat × Nat)) : Nat → Nat → Nat → rT
  | 0, _, _ => .inl 1
  | d + 1, w, p => xExp L (xE L d (w + 1)) w p
/-- what is read is behind, no more steps than tokens; a fault is one -/
def adv (n p : Nat) (r : rT) : Prop := (∀ q o, r = .inr (q, o) → p < q ∧ q ≤ n ∧ o.length ≤ q - p) ∧ ∀ e, r = .inl e → 1 ≤ e ∧ e ≤ 20000
def adw (n p : Nat) (r : rT) : Prop := (∀ q o, r = .inr (q, o) → p ≤ q ∧ q ≤ n ∧ o.length ≤ q - p) ∧ ∀ e, r = .inl e → 1 ≤ e ∧ e ≤ 20000
theorem adv_w {n p : Nat} {r : rT} (h : adv n p r) : adw n p r := ⟨fun q o e => by have := h.1 q o e; omega, h.2⟩
theorem adv_r {n p q : Nat} {o : List (Nat × Nat)} (h1 : p < q) (h2 : q ≤ n) (h3 : o.length ≤ q - p) : adv n p (.inr (q, o)) := ⟨fun q' o' e => by cases e; exact ⟨h1, h2, h3⟩, fun e h => by cases h⟩
theorem adw_r {n p q : Nat} {o : List (Nat × Nat)} (h1 : p ≤ q) (h2 : q ≤ n) (h3 : o.length ≤ q - p) : adw n p (.inr (q, o)) := ⟨fun q' o' e => by cases e; exact ⟨h1, h2, h3⟩, fun e h => by cases h⟩
theorem adv_f {n p how q : Nat} (h : LG L n) (hq : q ≤ n) (h1 : 1 ≤ how) (h2 : how ≤ 5) : adv n p (fl L how q) := by
  refine ⟨fun q' o' e => (by cases e), fun e he => ?_⟩
  have := (h.2.2.2.2 q hq).2.2
  cases he
  omega
theorem adv_b {n p : Nat} {r : rT} {k : Nat → List (Nat × Nat) → rT} (h : adv n p r) (hk : ∀ q o, p < q → q ≤ n → o.length ≤ q - p → adv n p (k q o)) : adv n p (rb r k) := by
  cases r with
  | inl e => exact ⟨fun q o z => (by cases z), fun e' z => by cases z; exact h.2 e rfl⟩
  | inr q =>
    have := h.1 q.1 q.2 rfl
    exact hk q.1 q.2 this.1 this.2.1 this.2.2
theorem adw_b {n p q0 : Nat} {r : rT} {k : Nat → List (Nat × Nat) → rT} (h : adv n q0 r) (hk : ∀ q o, q0 < q → q ≤ n → o.length ≤ q - q0 → adw n p (k q o)) : adw n p (rb r k) := by
  cases r with
  | inl e => exact ⟨fun q o z => (by cases z), fun e' z => by cases z; exact h.2 e rfl⟩
  | inr q =>
    have := h.1 q.1 q.2 rfl
    exact hk q.1 q.2 this.1 this.2.1 this.2.2
theorem adw_bw {n p q0 : Nat} {r : rT} {k : Nat → List (Nat × Nat) → rT} (h : adw n q0 r) (hk : ∀ q o, q0 ≤ q → q ≤ n → o.length ≤ q - q0 → adw n p (k q o)) : adw n p (rb r k) := by
  cases r with
  | inl e => exact ⟨fun q o z => (by cases z), fun e' z => by cases z; exact h.2 e rfl⟩
  | inr q =>
    have := h.1 q.1 q.2 rfl
    exact hk q.1 q.2 this.1 this.2.1 this.2.2
theorem adv_bw {n p q0 : Nat} {r : rT} {k : Nat → List (Nat × Nat) → rT} (h : adw n q0 r) (hk : ∀ q o, q0 ≤ q → q ≤ n → o.length ≤ q - q0 → adv n p (k q o)) : adv n p (rb r k) := by
  cases r with
  | inl e => exact ⟨fun q o z => (by cases z), fun e' z => by cases z; exact h.2 e rfl⟩
  | inr q =>
    have := h.1 q.1 q.2 rfl
    exact hk q.1 q.2 this.1 this.2.1 this.2.2
theorem LG_lt {n p : Nat} (h : LG L n) (hp : p ≤ n) (hk : tK L p ≠ 1) : p < n := by
  by_cases e : p = n
  · rw [e] at hk
    exact absurd h.2.2.1 hk
  · omega
theorem part_adv {n p : Nat} {E : Nat → rT} (h : LG L n) (hE : ∀ q, q ≤ n → w < 5 → adv n q (E q)) (hp : p ≤ n) : adv n p (xPart L E w p) := by
  unfold xPart
  by_cases c1 : tK L p = 2 ∨ tK L p = 3 ∨ (14 ≤ tK L p ∧ tK L p ≤ 23)
  · rw [if_pos c1]
    have lt := LG_lt h hp (by omega)
    by_cases c2 : w < 5
    · rw [if_pos c2]
      by_cases c3 : tK L p = 3
      · rw [if_pos c3]
        have := hE (p + 1) (by omega) c2
        cases hr : E (p + 1) with
        | inl e => exact ⟨fun q o z => (by cases z), fun e' z => by cases z; exact this.2 e hr⟩
        | inr q =>
          obtain ⟨q, o⟩ := q
          have t := this.1 q o hr
          rw [rb_r]
          by_cases c4 : tK L q = 4
          · rw [if_pos c4]
            have := LG_lt h t.2.1 (by omega)
            exact adv_r (by omega) (by omega) (by omega)
          · rw [if_neg c4]
            exact adv_f h t.2.1 (by omega) (by omega)
      · rw [if_neg c3]
        by_cases c4 : tK L p = 2
        · rw [if_pos c4]
          exact adv_r (by omega) (by omega) (by show 1 ≤ _; omega)
        · rw [if_neg c4]
          by_cases c5 : tK L p ≤ 16
          · rw [if_pos c5]
            by_cases c6 : tK L (p + 1) = 2
            · rw [if_pos c6]
              have := LG_lt h (show p + 1 ≤ n by omega) (by omega)
              split
              · exact adv_r (by omega) (by omega) (by show 1 ≤ _; omega)
              · exact adv_f h (by omega) (by omega) (by omega)
            · rw [if_neg c6]
              exact adv_f h (by omega) (by omega) (by omega)
          · rw [if_neg c5]
            exact adv_r (by omega) (by omega) (by show 1 ≤ _; omega)
    · rw [if_neg c2]
      exact adv_f h hp (by omega) (by omega)
  · rw [if_neg c1]
    exact adv_f h hp (by omega) (by omega)
theorem sumR_adv {n : Nat} {E : Nat → rT} (h : LG L n) (hE : ∀ q, q ≤ n → w < 5 → adv n q (E q)) : ∀ f p, p ≤ n → adw n p (xSumR L E w f p) := by
  intro f
  induction f with
  | zero => intro p hp; exact adw_r (by omega) hp (by show 0 ≤ _; omega)
  | succ f ih =>
    intro p hp
    unfold xSumR
    by_cases c : tK L p = 8 ∨ tK L p = 9
    · rw [if_pos c]
      have lt := LG_lt h hp (by omega)
      refine adw_b (part_adv h hE (show p + 1 ≤ n by omega)) (fun q o h1 h2 h3 => ?_)
      refine adw_bw (ih q h2) (fun q2 o2 h4 h5 h6 => ?_)
      refine adw_r (by omega) h5 ?_
      simp only [List.length_append, List.length_cons]
      omega
    · rw [if_neg c]
      exact adw_r (by omega) hp (by show 0 ≤ _; omega)
theorem sum_adv {n p : Nat} {E : Nat → rT} (h : LG L n) (hE : ∀ q, q ≤ n → w < 5 → adv n q (E q)) (hp : p ≤ n) : adv n p (xSum L E w p) := by
  unfold xSum
  refine adv_b (part_adv h hE hp) (fun q o h1 h2 h3 => ?_)
  refine adv_bw (sumR_adv h hE 800 q h2) (fun q2 o2 h4 h5 h6 => ?_)
  refine adv_r (by omega) h5 ?_
  simp only [List.length_append]
  omega
theorem test_adv {n p : Nat} {E : Nat → rT} (h : LG L n) (hE : ∀ q, q ≤ n → w < 5 → adv n q (E q)) (hp : p ≤ n) : adv n p (xTest L E w p) := by
  unfold xTest
  refine adv_b (sum_adv h hE hp) (fun q o h1 h2 h3 => ?_)
  by_cases c : tK L q = 6 ∨ tK L q = 7
  · rw [if_pos c]
    have lt := LG_lt h h2 (by omega)
    refine adv_bw (adv_w (sum_adv h hE (show q + 1 ≤ n by omega))) (fun q2 o2 h4 h5 h6 => ?_)
    refine adv_r (by omega) h5 ?_
    simp only [List.length_append, List.length_cons, List.length_nil]
    omega
  · rw [if_neg c]
    exact adv_r h1 h2 h3
theorem andR_adv {n : Nat} {E : Nat → rT} (h : LG L n) (hE : ∀ q, q ≤ n → w < 5 → adv n q (E q)) : ∀ f p, p ≤ n → adw n p (xAndR L E w f p) := by
  intro f
  induction f with
  | zero => intro p hp; exact adw_r (by omega) hp (by show 0 ≤ _; omega)
  | succ f ih =>
    intro p hp
    unfold xAndR
    by_cases c : tK L p = 10
    · rw [if_pos c]
      have lt := LG_lt h hp (by omega)
      refine adw_b (test_adv h hE (show p + 1 ≤ n by omega)) (fun q o h1 h2 h3 => ?_)
      refine adw_bw (ih q h2) (fun q2 o2 h4 h5 h6 => ?_)
      refine adw_r (by omega) h5 ?_
      simp only [List.length_append, List.length_cons]
      omega
    · rw [if_neg c]
      exact adw_r (by omega) hp (by show 0 ≤ _; omega)
theorem exp_adv {n p : Nat} {E : Nat → rT} (h : LG L n) (hE : ∀ q, q ≤ n → w < 5 → adv n q (E q)) (hp : p ≤ n) : adv n p (xExp L E w p) := by
  unfold xExp
  refine adv_b (test_adv h hE hp) (fun q o h1 h2 h3 => ?_)
  refine adv_bw (andR_adv h hE 800 q h2) (fun q2 o2 h4 h5 h6 => ?_)
  refine adv_r (by omega) h5 ?_
  simp only [List.length_append]
  omega
theorem xE_adv {n : Nat} (h : LG L n) : ∀ d w p, p ≤ n → adv n p (xE L d w p) := by
  intro d
  induction d with
  | zero => intro w p _; exact ⟨fun q o e => (by cases e), fun e he => by cases he; omega⟩
  | succ d ih => intro w p hp; exact exp_adv h (fun q hq _ => ih (w + 1) q hq) hp
/-! enough fuel is enough -/
theorem sumR_fuel {n : Nat} {E : Nat → rT} (h : LG L n) (hE : ∀ q, q ≤ n → w < 5 → adv n q (E q)) : ∀ f g p, p ≤ n → n - p ≤ f → n - p ≤ g → xSumR L E w f p = xSumR L E w g p := by
  intro f
  induction f with
  | zero =>
    intro g p hp h1 h2
    have e : p = n := by omega
    cases g with
    | zero => rfl
    | succ g =>
      have k1 := h.2.2.1
      show Sum.inr (p, []) = xSumR L E w (g + 1) p
      rw [xSumR, if_neg (by rw [e]; omega)]
  | succ f ih =>
    intro g p hp h1 h2
    cases g with
    | zero =>
      have e : p = n := by omega
      have k1 := h.2.2.1
      show xSumR L E w (f + 1) p = Sum.inr (p, [])
      rw [xSumR, if_neg (by rw [e]; omega)]
    | succ g =>
      rw [xSumR, xSumR]
      by_cases c : tK L p = 8 ∨ tK L p = 9
      · rw [if_pos c, if_pos c]
        have lt := LG_lt h hp (by omega)
        refine rb_cg (fun q o hq => ?_)
        have := (part_adv h hE (show p + 1 ≤ n by omega)).1 q o hq
        rw [ih g q (by omega) (by omega) (by omega)]
      · rw [if_neg c, if_neg c]
theorem andR_fuel {n : Nat} {E : Nat → rT} (h : LG L n) (hE : ∀ q, q ≤ n → w < 5 → adv n q (E q)) : ∀ f g p, p ≤ n → n - p ≤ f → n - p ≤ g → xAndR L E w f p = xAndR L E w g p := by
  intro f
  induction f with
  | zero =>
    intro g p hp h1 h2
    have e : p = n := by omega
    cases g with
    | zero => rfl
    | succ g =>
      have k1 := h.2.2.1
      show Sum.inr (p, []) = xAndR L E w (g + 1) p
      rw [xAndR, if_neg (by rw [e]; omega)]
  | succ f ih =>
    intro g p hp h1 h2
    cases g with
    | zero =>
      have e : p = n := by omega
      have k1 := h.2.2.1
      show xAndR L E w (f + 1) p = Sum.inr (p, [])
      rw [xAndR, if_neg (by rw [e]; omega)]
    | succ g =>
      rw [xAndR, xAndR]
      by_cases c : tK L p = 10
      · rw [if_pos c, if_pos c]
        have lt := LG_lt h hp (by omega)
        refine rb_cg (fun q o hq => ?_)
        have := (test_adv h hE (show p + 1 ≤ n by omega)).1 q o hq
        rw [ih g q (by omega) (by omega) (by omega)]
      · rw [if_neg c, if_neg c]
theorem sumR_st {n p : Nat} {E : Nat → rT} (h : LG L n) (hE : ∀ q, q ≤ n → w < 5 → adv n q (E q)) (hp : p ≤ n) : xSumR L E w 800 p = if tK L p = 8 ∨ tK L p = 9 then rb (xPart L E w (p + 1)) (fun p1 o1 => rb (xSumR L E w 800 p1) (fun p2 o2 => .inr (p2, o1 ++ (tK L p, 0) :: o2))) else .inr (p, []) := by
  have hn := h.2.1
  show xSumR L E w (799 + 1) p = _
  rw [xSumR]
  by_cases c : tK L p = 8 ∨ tK L p = 9
  · rw [if_pos c, if_pos c]
    have lt := LG_lt h hp (by omega)
    refine rb_cg (fun q o hq => ?_)
    have := (part_adv h hE (show p + 1 ≤ n by omega)).1 q o hq
    rw [sumR_fuel h hE 799 800 q (by omega) (by omega) (by omega)]
  · rw [if_neg c, if_neg c]
theorem andR_st {n p : Nat} {E : Nat → rT} (h : LG L n) (hE : ∀ q, q ≤ n → w < 5 → adv n q (E q)) (hp : p ≤ n) : xAndR L E w 800 p = if tK L p = 10 then rb (xTest L E w (p + 1)) (fun p1 o1 => rb (xAndR L E w 800 p1) (fun p2 o2 => .inr (p2, o1 ++ (10, 0) :: o2))) else .inr (p, []) := by
  have hn := h.2.1
  show xAndR L E w (799 + 1) p = _
  rw [xAndR]
  by_cases c : tK L p = 10
  · rw [if_pos c, if_pos c]
    have lt := LG_lt h hp (by omega)
    refine rb_cg (fun q o hq => ?_)
    have := (test_adv h hE (show p + 1 ≤ n by omega)).1 q o hq
    rw [andR_fuel h hE 799 800 q (by omega) (by omega) (by omega)]
  · rw [if_neg c, if_neg c]
/-! rules and texts -/
abbrev sT : Type := Sum Nat tT
def xTail (L : List (Nat × Nat × Nat)) (p : Nat) (rs st : List (Nat × Nat)) : sT :=
  if tK L p = 13 then
    (if tK L (p + 1) = 2 then (if 1 ≤ tV L (p + 1) ∧ tV L (p + 1) ≤ 143 then (if tK L (p + 2) = 5 then (if tK L (p + 3) = 1 then .inr (rs, st, tV L (p + 1)) else .inl (1 + 16 * tP L (p + 3))) else .inl (1 + 16 * tP L (p + 2))) else .inl (4 + 16 * tP L (p + 1))) else .inl (1 + 16 * tP L (p + 1)))
  else if tK L p = 1 then .inr (rs, st, 0) else .inl (1 + 16 * tP L p)
/-- a rule: its code, and where it ends, with its steps -/
def xRule (L : List (Nat × Nat × Nat)) (p : Nat) : rT :=
  if tK L (p + 1) = 2 then (if tV L (p + 1) ≤ 49 then (if tK L (p + 2) = 12 then rb (xE L 8 0 (p + 3)) (fun p1 o => if tK L p1 = 5 then .inr (p1 + 1, o) else fl L 1 p1) else fl L 1 (p + 2)) else fl L 4 (p + 1)) else fl L 1 (p + 1)
def xRd (L : List (Nat × Nat × Nat)) : Nat → Nat → List (Nat × Nat) → List (Nat × Nat) → sT
  | 0, p, rs, st => if tK L p = 11 then .inl (5 + 16 * tP L p) else xTail L p rs st
  | f + 1, p, rs, st => if tK L p = 11 then rb (xRule L p) (fun p1 o => xRd L f p1 (rs ++ [(tV L (p + 1), st.length + o.length)]) (st ++ o)) else xTail L p rs st
theorem rule_adv {n p : Nat} (h : LG L n) (hp : p ≤ n) (hk : tK L p = 11) : adv n p (xRule L p) := by
  have lt := LG_lt h hp (by omega)
  unfold xRule
  by_cases c1 : tK L (p + 1) = 2
  · rw [if_pos c1]
    have l1 := LG_lt h (show p + 1 ≤ n by omega) (by omega)
    by_cases c2 : tV L (p + 1) ≤ 49
    · rw [if_pos c2]
      by_cases c3 : tK L (p + 2) = 12
      · rw [if_pos c3]
        have l2 := LG_lt h (show p + 2 ≤ n by omega) (by omega)
        refine adv_bw (adv_w (xE_adv h 8 0 (p + 3) (by omega))) (fun q o h1 h2 h3 => ?_)
        by_cases c4 : tK L q = 5
        · rw [if_pos c4]
          have := LG_lt h h2 (by omega)
          exact adv_r (by omega) (by omega) (by omega)
        · rw [if_neg c4]
          exact adv_f h h2 (by omega) (by omega)
      · rw [if_neg c3]
        exact adv_f h (by omega) (by omega) (by omega)
    · rw [if_neg c2]
      exact adv_f h (by omega) (by omega) (by omega)
  · rw [if_neg c1]
    exact adv_f h (by omega) (by omega) (by omega)
end PA
