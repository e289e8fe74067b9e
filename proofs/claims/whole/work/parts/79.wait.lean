/-! text: expressions read with waits, the mathematics -/
section WA
variable {L : List (Nat × Nat × Nat)} {w p n : Nat}
def pre {α : Type} (o : List (Nat × Nat)) (r : Sum Nat (Nat × List α)) (f : List (Nat × Nat) → List α → List α) : Sum Nat (Nat × List α) := match r with
  | .inl e => .inl e
  | .inr (p, o2) => .inr (p, f o o2)
def pr (o : List (Nat × Nat)) (r : rT) : rT := rb r (fun p2 o2 => .inr (p2, o ++ o2))
def ws (s : Nat) : List (Nat × Nat) := if s = 0 then [] else [(s, 0)]
theorem ws_0 : ws 0 = [] := rfl
def Ew (L : List (Nat × Nat × Nat)) (w : Nat) : Nat → rT := xE L (7 - w) (w + 1)
theorem Ew_adv (h : LG L n) (w : Nat) : ∀ q, q ≤ n → w < 5 → adv n q (Ew L w q) := fun q hq _ => xE_adv h _ _ q hq
theorem Ew_st {q : Nat} (hw : w < 5) : Ew L w q = xExp L (Ew L (w + 1)) (w + 1) q := by
  have e : 7 - w = (6 - w) + 1 := by omega
  have e2 : 7 - (w + 1) = 6 - w := by omega
  unfold Ew
  rw [e, e2]
  rfl
def aAnd (L : List (Nat × Nat × Nat)) (a w p : Nat) : rT := pr (ws a) (xAndR L (Ew L w) w 800 p)
def aTest (L : List (Nat × Nat × Nat)) (t a w p : Nat) : rT := if t ≠ 0 then pr [(t, 0)] (aAnd L a w p) else if tK L p = 6 ∨ tK L p = 7 then rb (xSum L (Ew L w) w (p + 1)) (fun p1 o1 => pr (o1 ++ [(tK L p, 0)]) (aAnd L a w p1)) else aAnd L a w p
def aPart (L : List (Nat × Nat × Nat)) (s t a w p : Nat) : rT := pr (ws s) (rb (xSumR L (Ew L w) w 800 p) (fun p1 o1 => pr o1 (aTest L t a w p1)))
/-- what follows a part, by the frames that wait -/
def aF (L : List (Nat × Nat × Nat)) : List (Nat × Nat × Nat) → Nat → rT
  | [], p => .inr (p, [])
  | [f], p => aPart L f.1 f.2.1 f.2.2 0 p
  | f :: g :: rest, p => rb (aPart L f.1 f.2.1 f.2.2 (rest.length + 1) p) (fun p1 o1 => if tK L p1 = 4 then pr o1 (aF L (g :: rest) (p1 + 1)) else fl L 1 p1)
def aC (L : List (Nat × Nat × Nat)) (rest : List (Nat × Nat × Nat)) (p : Nat) : rT := match rest with
  | [] => .inr (p, [])
  | g :: r => if tK L p = 4 then aF L (g :: r) (p + 1) else fl L 1 p
def aR (L : List (Nat × Nat × Nat)) (fr : List (Nat × Nat × Nat)) (p : Nat) : rT := rb (xPart L (Ew L (fr.length - 1)) (fr.length - 1) p) (fun p1 o1 => pr o1 (aF L fr p1))
theorem pr_pr {a b : List (Nat × Nat)} {r : rT} : pr a (pr b r) = pr (a ++ b) r := by
  cases r with
  | inl e => rfl
  | inr q =>
    show Sum.inr (q.1, a ++ (b ++ q.2)) = Sum.inr (q.1, a ++ b ++ q.2)
    rw [List.append_assoc]
theorem pr_nil {r : rT} : pr [] r = r := by
  cases r with
  | inl e => rfl
  | inr q => rfl
theorem pr_rb {a : List (Nat × Nat)} {r : rT} {k : Nat → List (Nat × Nat) → rT} : pr a (rb r k) = rb r (fun p o => pr a (k p o)) := by
  unfold pr
  rw [rb_a]
theorem rb_pr {a : List (Nat × Nat)} {r : rT} {c : Nat → rT} : rb (pr a r) (fun p o => pr o (c p)) = pr a (rb r (fun p o => pr o (c p))) := by
  cases r with
  | inl e => rfl
  | inr q =>
    show pr (a ++ q.2) (c q.1) = pr a (pr q.2 (c q.1))
    rw [pr_pr]
theorem rb_prk {o1 : List (Nat × Nat)} {r : rT} {c : Nat → rT} : rb (rb r (fun p2 o2 => .inr (p2, o1 ++ o2))) (fun p o => pr o (c p)) = pr o1 (rb r (fun p o => pr o (c p))) := rb_pr
theorem aF_c {f : Nat × Nat × Nat} {rest : List (Nat × Nat × Nat)} : aF L (f :: rest) p = rb (aPart L f.1 f.2.1 f.2.2 rest.length p) (fun p1 o1 => pr o1 (aC L rest p1)) := by
  cases rest with
  | nil =>
    show aPart L f.1 f.2.1 f.2.2 0 p = rb (aPart L f.1 f.2.1 f.2.2 0 p) (fun p1 o1 => pr o1 (.inr (p1, [])))
    cases aPart L f.1 f.2.1 f.2.2 0 p with
    | inl e => rfl
    | inr q =>
      show Sum.inr q = Sum.inr (q.1, q.2 ++ [])
      rw [List.append_nil]
  | cons g r =>
    show rb (aPart L f.1 f.2.1 f.2.2 (r.length + 1) p) (fun p1 o1 => if tK L p1 = 4 then pr o1 (aF L (g :: r) (p1 + 1)) else fl L 1 p1) = rb (aPart L f.1 f.2.1 f.2.2 (r.length + 1) p) (fun p1 o1 => pr o1 (if tK L p1 = 4 then aF L (g :: r) (p1 + 1) else fl L 1 p1))
    refine rb_cg (fun p1 o1 _ => ?_)
    by_cases c : tK L p1 = 4
    · rw [if_pos c, if_pos c]
    · rw [if_neg c, if_neg c]
      rfl
/-- the stage of 'and' -/
def aS (L : List (Nat × Nat × Nat)) (a : Nat) (rest : List (Nat × Nat × Nat)) (p : Nat) : rT := rb (aAnd L a rest.length p) (fun p1 o1 => pr o1 (aC L rest p1))
theorem aF_s {s t a : Nat} {rest : List (Nat × Nat × Nat)} : aF L ((s, t, a) :: rest) p = pr (ws s) (aF L ((0, t, a) :: rest) p) := by
  rw [aF_c, aF_c]
  show rb (aPart L s t a rest.length p) _ = pr (ws s) (rb (aPart L 0 t a rest.length p) _)
  unfold aPart
  rw [rb_pr, ws_0, pr_nil]
theorem aF_0 {t a : Nat} {rest : List (Nat × Nat × Nat)} : aF L ((0, t, a) :: rest) p = rb (xSumR L (Ew L rest.length) rest.length 800 p) (fun p1 o1 => pr o1 (rb (aTest L t a rest.length p1) (fun p2 o2 => pr o2 (aC L rest p2)))) := by
  rw [aF_c]
  show rb (aPart L 0 t a rest.length p) _ = _
  unfold aPart
  rw [ws_0, pr_nil, rb_a]
  refine rb_cg (fun p1 o1 _ => ?_)
  rw [rb_pr]
theorem aF_plus (h : LG L n) {t a : Nat} {rest : List (Nat × Nat × Nat)} (hp : p ≤ n) (hk : tK L p = 8 ∨ tK L p = 9) : aF L ((0, t, a) :: rest) p = aR L ((tK L p, t, a) :: rest) (p + 1) := by
  have e0 : ((tK L p, t, a) :: rest).length - 1 = rest.length := by simp only [List.length_cons]; omega
  unfold aR
  rw [e0, aF_0, sumR_st h (Ew_adv h _) hp, if_pos hk, rb_a]
  refine rb_cg (fun p1 o1 _ => ?_)
  rw [aF_s, aF_0]
  have ew : ws (tK L p) = [(tK L p, 0)] := by unfold ws; rw [if_neg (by omega)]
  rw [ew, rb_a, pr_pr, pr_rb]
  refine rb_cg (fun p2 o2 _ => ?_)
  rw [rb_r, pr_pr]
  congr 1
  simp only [List.append_assoc, List.cons_append, List.nil_append]
theorem aF_no (h : LG L n) {t a : Nat} {rest : List (Nat × Nat × Nat)} (hp : p ≤ n) (hk : ¬ (tK L p = 8 ∨ tK L p = 9)) : aF L ((0, t, a) :: rest) p = rb (aTest L t a rest.length p) (fun p2 o2 => pr o2 (aC L rest p2)) := by
  rw [aF_0, sumR_st h (Ew_adv h _) hp, if_neg hk, rb_r, pr_nil]
theorem aF_t (h : LG L n) {t a : Nat} {rest : List (Nat × Nat × Nat)} (hp : p ≤ n) (hk : ¬ (tK L p = 8 ∨ tK L p = 9)) (ht : t ≠ 0) : aF L ((0, t, a) :: rest) p = pr [(t, 0)] (aS L a rest p) := by
  rw [aF_no h hp hk]
  unfold aTest aS
  rw [if_pos ht, rb_pr]
theorem aF_sg (h : LG L n) {a : Nat} {rest : List (Nat × Nat × Nat)} (hp : p ≤ n) (hk : tK L p = 6 ∨ tK L p = 7) : aF L ((0, 0, a) :: rest) p = aR L ((0, tK L p, a) :: rest) (p + 1) := by
  have e0 : ((0, tK L p, a) :: rest).length - 1 = rest.length := by simp only [List.length_cons]; omega
  rw [aF_no h hp (by omega)]
  unfold aR
  rw [e0]
  unfold aTest
  rw [if_neg (by omega), if_pos hk]
  unfold xSum
  rw [rb_a, rb_a]
  refine rb_cg (fun p1 o1 _ => ?_)
  rw [aF_0, pr_rb, rb_a]
  refine rb_cg (fun p2 o2 _ => ?_)
  rw [rb_r, rb_pr]
  unfold aTest
  rw [if_pos (show tK L p ≠ 0 by omega), rb_pr, pr_pr, pr_pr, List.append_assoc]
theorem aF_a (h : LG L n) {a : Nat} {rest : List (Nat × Nat × Nat)} (hp : p ≤ n) (hk : ¬ (tK L p = 8 ∨ tK L p = 9)) (hk2 : ¬ (tK L p = 6 ∨ tK L p = 7)) : aF L ((0, 0, a) :: rest) p = aS L a rest p := by
  rw [aF_no h hp hk]
  unfold aTest aS
  rw [if_neg (by omega), if_neg hk2]
theorem aS_a {a : Nat} {rest : List (Nat × Nat × Nat)} : aS L a rest p = pr (ws a) (aS L 0 rest p) := by
  unfold aS aAnd
  rw [rb_pr, ws_0, pr_nil]
theorem aS_c (h : LG L n) {rest : List (Nat × Nat × Nat)} (hp : p ≤ n) (hk : tK L p ≠ 10) : aS L 0 rest p = aC L rest p := by
  unfold aS aAnd
  rw [ws_0, pr_nil, andR_st h (Ew_adv h _) hp, if_neg hk, rb_r, pr_nil]
theorem aS_and (h : LG L n) {rest : List (Nat × Nat × Nat)} (hp : p ≤ n) (hk : tK L p = 10) : aS L 0 rest p = aR L ((0, 0, 10) :: rest) (p + 1) := by
  have e0 : ((0, 0, 10) :: rest).length - 1 = rest.length := by simp only [List.length_cons]; omega
  unfold aS aAnd
  rw [ws_0, pr_nil, andR_st h (Ew_adv h _) hp, if_pos hk, rb_a]
  unfold aR
  rw [e0]
  unfold xTest xSum
  rw [rb_a, rb_a]
  refine rb_cg (fun p1 o1 _ => ?_)
  rw [aF_0, rb_a, pr_rb]
  refine rb_cg (fun p2 o2 _ => ?_)
  rw [rb_r, pr_pr]
  have ew : ws 10 = [(10, 0)] := rfl
  unfold aTest
  rw [if_neg (show ¬ (0 ≠ 0) by omega)]
  by_cases c : tK L p2 = 6 ∨ tK L p2 = 7
  · rw [if_pos c, if_pos c, rb_a, rb_a, pr_rb]
    unfold xSum
    rw [rb_a, rb_a]
    refine rb_cg (fun p3 o3 _ => ?_)
    rw [rb_a, rb_a]
    refine rb_cg (fun p4 o4 _ => ?_)
    unfold aAnd
    rw [ew]
    simp only [pr, rb_a, rb_r, List.append_assoc, List.cons_append, List.nil_append]
  · rw [if_neg c, if_neg c, rb_r]
    unfold aAnd
    rw [rb_pr, ew, pr_pr, rb_a, pr_rb]
    refine rb_cg (fun p5 o5 _ => ?_)
    rw [rb_r, pr_pr]
    congr 1
    simp only [List.append_assoc, List.cons_append, List.nil_append]
/-- an expression of its own: frames with nothing that waits -/
theorem aR_exp {rest : List (Nat × Nat × Nat)} : aR L ((0, 0, 0) :: rest) p = rb (xExp L (Ew L rest.length) rest.length p) (fun p1 o1 => pr o1 (aC L rest p1)) := by
  have e0 : ((0, 0, 0) :: rest).length - 1 = rest.length := by simp only [List.length_cons]; omega
  unfold aR
  rw [e0]
  unfold xExp xTest xSum
  rw [rb_a, rb_a, rb_a]
  refine rb_cg (fun p1 o1 _ => ?_)
  rw [aF_0, pr_rb, rb_a]
  refine rb_cg (fun p2 o2 _ => ?_)
  rw [rb_r, pr_pr]
  unfold aTest
  rw [if_neg (show ¬ (0 ≠ 0) by omega)]
  by_cases c : tK L p2 = 6 ∨ tK L p2 = 7
  · rw [if_pos c, if_pos c, rb_a, rb_a, pr_rb]
    unfold xSum
    rw [rb_a, rb_a]
    refine rb_cg (fun p3 o3 _ => ?_)
    rw [rb_a, rb_a]
    refine rb_cg (fun p4 o4 _ => ?_)
    unfold aAnd
    rw [ws_0]
    simp only [pr, rb_a, rb_r, List.append_assoc, List.cons_append, List.nil_append]
  · rw [if_neg c, if_neg c]
    unfold aAnd
    rw [ws_0]
    simp only [pr, rb_a, rb_r, List.append_assoc, List.cons_append, List.nil_append]
theorem aR_top : aR L [(0, 0, 0)] p = xE L 8 0 p := by
  rw [aR_exp]
  show rb (xE L 8 0 p) (fun p1 o1 => pr o1 (.inr (p1, []))) = xE L 8 0 p
  cases xE L 8 0 p with
  | inl e => rfl
  | inr q =>
    show Sum.inr (q.1, q.2 ++ []) = Sum.inr q
    rw [List.append_nil]
theorem aR_open {fr : List (Nat × Nat × Nat)} (hf : fr ≠ []) (hw : fr.length - 1 < 5) (hk : tK L p = 3) : aR L fr p = aR L ((0, 0, 0) :: fr) (p + 1) := by
  obtain ⟨g, r, rfl⟩ : ∃ g r, fr = g :: r := by
    cases fr with
    | nil => exact absurd rfl hf
    | cons g r => exact ⟨g, r, rfl⟩
  rw [aR_exp]
  unfold aR xPart
  rw [if_pos (by omega), if_pos hw, if_pos hk, Ew_st hw]
  have e1 : (g :: r).length - 1 + 1 = (g :: r).length := by simp only [List.length_cons]; omega
  rw [e1, rb_a]
  refine rb_cg (fun p1 o1 _ => ?_)
  show _ = pr o1 (if tK L p1 = 4 then aF L (g :: r) (p1 + 1) else fl L 1 p1)
  by_cases c : tK L p1 = 4
  · rw [if_pos c, if_pos c]
    rfl
  · rw [if_neg c, if_neg c]
    rfl
end WA
