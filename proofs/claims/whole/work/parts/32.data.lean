/-! the mathematics: words, diaries, lines, tape, counts, texts -/
/-- a text: its rules (code, end of its steps), all steps, the longest gap that is mended -/
abbrev tT : Type := List (Nat × Nat) × List (Nat × Nat) × Nat
/-- tree; diaries, what each has (house, person, day, age, weight); lines of each, what a line has (from, to, word, second, place, who); tape; counts; text chosen (+ 1); texts -/
abbrev mT : Type := (Nat → Nat) × Nat × (Nat → Nat → Nat) × (Nat → Nat) × (Nat → Nat → Nat → Nat) × Nat × (Nat → Nat) × (Nat → Nat) × Nat × Nat × (Nat → tT)
def m_tr (M : mT) : Nat → Nat := M.1
def m_D (M : mT) : Nat := M.2.1
def m_dd (M : mT) : Nat → Nat → Nat := M.2.2.1
def m_nl (M : mT) : Nat → Nat := M.2.2.2.1
def m_lv (M : mT) : Nat → Nat → Nat → Nat := M.2.2.2.2.1
def m_tz (M : mT) : Nat := M.2.2.2.2.2.1
def m_ts (M : mT) : Nat → Nat := M.2.2.2.2.2.2.1
def m_ct (M : mT) : Nat → Nat := M.2.2.2.2.2.2.2.1
def m_ch (M : mT) : Nat := M.2.2.2.2.2.2.2.2.1
def m_T (M : mT) : Nat := M.2.2.2.2.2.2.2.2.2.1
def m_tx (M : mT) : Nat → tT := M.2.2.2.2.2.2.2.2.2.2
/-- the text in force -/
def m_in (M : mT) : tT := if m_ch M = 0 then ([], [], 0) else m_tx M (m_ch M - 1)
def chI (n : Nat) : Int32 := if n = 0 then -1 else nI (n - 1)
/-- a word under another one, by the tree -/
def un (tr : Nat → Nat) : Nat → Nat → Nat → Bool
  | 0, _, _ => false
  | f + 1, w, v => if w = 0 then false else if w = v then true else un tr f (tr w) v
def b2 (b : Bool) : Int32 := if b then 1 else 0
/-- what a part of a rule is worth -/
def pv (tr : Nat → Nat) (wd : Nat → Nat) (kn : Nat → Int32) (o v : Nat) : Int32 := if o = 2 then nI v else if o < 17 then b2 (un tr 201 (wd (o - 14)) v) else kn (o - 17)
def jn (o : Nat) (a b : Int32) : Int32 := if o = 6 then (if a < b then 1 else 0) else if o = 7 then (if a = b then 1 else 0) else if o = 8 then a + b else if o = 9 then a - b else if a ≠ 0 ∧ b ≠ 0 then 1 else 0
def isJ (o : Nat) : Prop := 6 ≤ o ∧ o ≤ 10
theorem isJ_dec (o : Nat) : isJ o ∨ ¬ isJ o := Classical.em _
def sp (pf : Nat → Nat → Int32) (stk : List Int32) (q : Nat × Nat) : List Int32 := if 6 ≤ q.1 ∧ q.1 ≤ 10 then (match stk with
  | b :: a :: r => jn q.1 a b :: r
  | l => l) else pf q.1 q.2 :: stk
def ev (pf : Nat → Nat → Int32) (Q : List (Nat × Nat)) : Int32 := (Q.foldl (sp pf) []).headD 0
def sg (P : List (Nat × Nat)) (s e : Nat) : List (Nat × Nat) := (P.drop s).take (e - s)
/-- the code that rules give -/
def cB (pf : Nat → Nat → Int32) (P : List (Nat × Nat)) : List (Nat × Nat) → Nat → Int32
  | [], _ => -1
  | (c, e) :: rs, s => if ev pf (sg P s e) ≠ 0 then nI c else cB pf P rs e
def bc (w : Nat) : Nat := w % 2 + w / 2 % 2 + w / 4 % 2 + w / 8 % 2 + w / 16 % 2 + w / 32 % 2 + w / 64 % 2 + w / 128 % 2
def kn (M : mT) (d k : Nat) (ah : Int32) (j : Nat) : Int32 := if j = 0 then nI (m_lv M d k 4) else if j = 1 then nI (bc (m_lv M d k 5)) else if j = 2 then nI (m_lv M d k 0) else if j = 3 then nI (m_lv M d k 1 - m_lv M d k 0 + 1) else if j = 4 then ah else if j = 5 then nI (m_dd M d 3) else nI (m_dd M d 2)
def nw (M : mT) (d k : Nat) : Nat := if k + 1 < m_nl M d then m_lv M d (k + 1) 2 else 0
def wd (a b c : Nat) (j : Nat) : Nat := if j = 0 then a else if j = 1 then b else c
/-- the code of a deed a, with b beside it, on line k of diary d, where the line ahead has the code ah -/
def cA (M : mT) (d k a b : Nat) (ah : Int32) : Int32 := cB (pv (m_tr M) (wd a b (nw M d k)) (kn M d k ah)) (m_in M).2.1 (m_in M).1 0
def c1 (M : mT) (d : Nat) : Nat → Int32
  | 0 => cA M d 0 (m_lv M d 0 2) (m_lv M d 0 3) (-1)
  | k + 1 => cA M d (k + 1) (m_lv M d (k + 1) 2) (m_lv M d (k + 1) 3) (c1 M d k)
def ah (M : mT) (d : Nat) : Nat → Int32
  | 0 => -1
  | k + 1 => c1 M d k
def c2 (M : mT) (d k : Nat) : Int32 := if m_lv M d k 3 = 0 then -1 else cA M d k (m_lv M d k 3) 0 (ah M d k)
def gp (M : mT) (d k : Nat) : Nat := m_lv M d k 0 - m_lv M d (k - 1) 1 - 1
/-- the tens of the gap ahead of a line, if it is mended -/
def mn (M : mT) (d k : Nat) : Nat := if k ≠ 0 ∧ c1 M d k ≠ -1 ∧ c1 M d k = ah M d k ∧ gp M d k ≤ (m_in M).2.2 then gp M d k else 0
theorem c1_eq (M : mT) (d k : Nat) : c1 M d k = cA M d k (m_lv M d k 2) (m_lv M d k 3) (ah M d k) := by
  cases k <;> rfl
/-- how deep the stack is behind steps -/
def dp : List (Nat × Nat) → Nat → Option Nat
  | [], d => some d
  | q :: r, d => if 6 ≤ q.1 ∧ q.1 ≤ 10 then (if 2 ≤ d then dp r (d - 1) else none) else if d < 16 then dp r (d + 1) else none
def vo (q : Nat × Nat) : Prop := (q.1 = 2 ∧ q.2 < 10000) ∨ (6 ≤ q.1 ∧ q.1 ≤ 10 ∧ q.2 = 0) ∨ (14 ≤ q.1 ∧ q.1 ≤ 16 ∧ 1 ≤ q.2 ∧ q.2 ≤ 200) ∨ (17 ≤ q.1 ∧ q.1 ≤ 23 ∧ q.2 = 0)
/-- rules that are well made: codes, ends in order, each with steps that leave one value -/
def wR (P : List (Nat × Nat)) : List (Nat × Nat) → Nat → Prop
  | [], s => s = P.length
  | (c, e) :: rs, s => c ≤ 49 ∧ s ≤ e ∧ e ≤ P.length ∧ dp (sg P s e) 0 = some 1 ∧ wR P rs e
def wT (t : tT) : Prop := t.1.length ≤ 24 ∧ t.2.1.length ≤ 800 ∧ t.2.2 ≤ 143 ∧ (∀ q ∈ t.2.1, vo q) ∧ wR t.2.1 t.1 0
def wL (l : Nat → Nat) : Prop := l 0 ≤ l 1 ∧ l 1 ≤ 143 ∧ 1 ≤ l 2 ∧ l 2 ≤ 200 ∧ l 3 ≤ 200 ∧ l 4 ≤ 9 ∧ l 5 ≤ 255
def wM (M : mT) : Prop := (∀ w, m_tr M w ≤ 200 ∧ (m_tr M w < w ∨ m_tr M w = 0)) ∧ m_D M ≤ 40 ∧ (∀ i, m_dd M i 0 ≤ 9 ∧ m_dd M i 1 ≤ 7 ∧ m_dd M i 2 ≤ 6 ∧ m_dd M i 3 ≤ 2 ∧ m_dd M i 4 ≤ 1000000000) ∧ (∀ i, m_nl M i ≤ 24) ∧ (∀ i, m_D M ≤ i → m_nl M i = 0) ∧ (∀ i k, k < m_nl M i → wL (m_lv M i k)) ∧ (∀ i k, k + 1 < m_nl M i → m_lv M i k 1 < m_lv M i (k + 1) 0) ∧ m_tz M ≤ 800 ∧ (∀ j, m_ts M j = 10 ∨ (32 ≤ m_ts M j ∧ m_ts M j ≤ 126)) ∧ (∀ s, 1 ≤ m_ct M s ∧ m_ct M s ≤ 1000000) ∧ m_ch M ≤ m_T M ∧ m_T M ≤ 8 ∧ (∀ t, t < m_T M → wT (m_tx M t)) ∧ (∀ i k, k < m_nl M i → m_lv M i k 5 / 2 ^ m_dd M i 1 % 2 = 0)
section WM
variable {M : mT}
theorem wM_tr (h : wM M) (w : Nat) : m_tr M w ≤ 200 := (h.1 w).1
theorem wM_tr2 (h : wM M) (w : Nat) : m_tr M w < w ∨ m_tr M w = 0 := (h.1 w).2
theorem wM_D (h : wM M) : m_D M ≤ 40 := h.2.1
theorem wM_dd (h : wM M) (i : Nat) : m_dd M i 0 ≤ 9 ∧ m_dd M i 1 ≤ 7 ∧ m_dd M i 2 ≤ 6 ∧ m_dd M i 3 ≤ 2 ∧ m_dd M i 4 ≤ 1000000000 := h.2.2.1 i
theorem wM_nl (h : wM M) (i : Nat) : m_nl M i ≤ 24 := h.2.2.2.1 i
theorem wM_n0 (h : wM M) {i : Nat} (hi : m_D M ≤ i) : m_nl M i = 0 := h.2.2.2.2.1 i hi
theorem wM_lv (h : wM M) {i k : Nat} (hk : k < m_nl M i) : wL (m_lv M i k) := h.2.2.2.2.2.1 i k hk
theorem wM_so (h : wM M) {i k : Nat} (hk : k + 1 < m_nl M i) : m_lv M i k 1 < m_lv M i (k + 1) 0 := h.2.2.2.2.2.2.1 i k hk
theorem wM_tz (h : wM M) : m_tz M ≤ 800 := h.2.2.2.2.2.2.2.1
theorem wM_ts (h : wM M) (j : Nat) : m_ts M j = 10 ∨ (32 ≤ m_ts M j ∧ m_ts M j ≤ 126) := h.2.2.2.2.2.2.2.2.1 j
theorem wM_ct (h : wM M) (s : Nat) : 1 ≤ m_ct M s ∧ m_ct M s ≤ 1000000 := h.2.2.2.2.2.2.2.2.2.1 s
theorem wM_ch (h : wM M) : m_ch M ≤ m_T M := h.2.2.2.2.2.2.2.2.2.2.1
theorem wM_T (h : wM M) : m_T M ≤ 8 := h.2.2.2.2.2.2.2.2.2.2.2.1
theorem wM_tx (h : wM M) {t : Nat} (ht : t < m_T M) : wT (m_tx M t) := h.2.2.2.2.2.2.2.2.2.2.2.2.1 t ht
theorem wM_wh (h : wM M) {i k : Nat} (hk : k < m_nl M i) : m_lv M i k 5 / 2 ^ m_dd M i 1 % 2 = 0 := h.2.2.2.2.2.2.2.2.2.2.2.2.2 i k hk
theorem wM_in (h : wM M) : wT (m_in M) := by
  unfold m_in
  by_cases h0 : m_ch M = 0
  · rw [if_pos h0]
    exact ⟨Nat.zero_le _, Nat.zero_le _, Nat.zero_le _, fun q hq => absurd hq List.not_mem_nil, rfl⟩
  · rw [if_neg h0]
    exact wM_tx h (by have := wM_ch h; omega)
/-- lines stand in order -/
theorem wM_lt (h : wM M) {i j k : Nat} (hk : k < m_nl M i) (hj : j < k) : m_lv M i j 1 < m_lv M i k 0 := by
  induction k with
  | zero => omega
  | succ k ih =>
    have h1 := wM_so h hk
    by_cases e : j = k
    · subst e; exact h1
    · have h2 := ih (by omega) (by omega)
      have h3 := (wM_lv h (show k < m_nl M i by omega)).1
      omega
end WM
theorem cB_rg {pf : Nat → Nat → Int32} {P : List (Nat × Nat)} : ∀ {rs : List (Nat × Nat)} {s : Nat}, wR P rs s → cB pf P rs s = -1 ∨ ∃ c, c ≤ 49 ∧ cB pf P rs s = nI c
  | [], _, _ => Or.inl rfl
  | (c, e) :: rs, s, h => by
    unfold cB
    by_cases h0 : ev pf (sg P s e) ≠ 0
    · rw [if_pos h0]; exact Or.inr ⟨c, h.1, rfl⟩
    · rw [if_neg h0]; exact cB_rg h.2.2.2.2
theorem c1_rg {M : mT} (h : wM M) (d k : Nat) : c1 M d k = -1 ∨ ∃ c, c ≤ 49 ∧ c1 M d k = nI c := by
  rw [c1_eq]; exact cB_rg (wM_in h).2.2.2.2
theorem c2_rg {M : mT} (h : wM M) (d k : Nat) : c2 M d k = -1 ∨ ∃ c, c ≤ 49 ∧ c2 M d k = nI c := by
  unfold c2
  by_cases h0 : m_lv M d k 3 = 0
  · rw [if_pos h0]; exact Or.inl rfl
  · rw [if_neg h0]; exact cB_rg (wM_in h).2.2.2.2
/-- sums, and other folds over the first n numbers -/
def nf {α : Type} (f : Nat → α → α) (a : α) : Nat → α
  | 0 => a
  | n + 1 => f n (nf f a n)
theorem nf_congr {α : Type} {f g : Nat → α → α} {a : α} {n : Nat} (h : ∀ i, i < n → ∀ x, f i x = g i x) : nf f a n = nf g a n := by
  induction n with
  | zero => rfl
  | succ n ih =>
    show f n (nf f a n) = g n (nf g a n)
    rw [ih (fun i hi x => h i (by omega) x), h n (by omega)]
/-- the reference's coding of a step -/
def eo (q : Nat × Nat) : Nat := if q.1 = 2 then 1 else if q.1 = 6 then 5 else if q.1 = 7 then 6 else if q.1 = 8 then 3 else if q.1 = 9 then 4 else if q.1 = 10 then 7 else if q.1 < 17 then 8 else 2
def ea (q : Nat × Nat) : Nat := if q.1 = 2 then q.2 else if q.1 < 14 then 0 else if q.1 < 17 then 256 * (q.1 - 14) + q.2 else q.1 - 17
/-- text t in the reference's rows -/
def RT (S : st_T) (m t : Nat) (x : tT) : Prop := st_ri S (m + 6) t = nI x.1.length ∧ st_ri S (m + 7) t = nI x.2.2 ∧ (∀ r, r < x.1.length → st_ri S (m + 8) (24 * t + r) = nI (x.1.getD r (0, 0)).1) ∧ (∀ r, r < x.1.length → st_ri S (m + 9) (24 * t + r) = nI ((if r = 0 then 0 else (x.1.getD (r - 1) (0, 0)).2) + r)) ∧ (∀ r j, r < x.1.length → (if r = 0 then 0 else (x.1.getD (r - 1) (0, 0)).2) ≤ j → j < (x.1.getD r (0, 0)).2 → st_ri S (m + 10) (880 * t + j + r) = nI (eo (x.2.1.getD j (0, 0))) ∧ st_ri S (m + 11) (880 * t + j + r) = nI (ea (x.2.1.getD j (0, 0)))) ∧ (∀ r, r < x.1.length → st_ri S (m + 10) (880 * t + (x.1.getD r (0, 0)).2 + r) = nI 0)
/-- the reference's cells hold M -/
def RI (S : st_T) (m : Nat) (M : mT) : Prop := RS S m ∧ (∀ w, w ≤ 200 → st_ri S (m + 18) w = nI (m_tr M w)) ∧ st_fi S 1027 m = nI (m_D M) ∧ (∀ i, i < m_D M → st_ri S (m + 19) i = nI (m_dd M i 0) ∧ st_ri S (m + 20) i = nI (m_dd M i 1) ∧ st_ri S (m + 21) i = nI (m_dd M i 2) ∧ st_ri S (m + 22) i = nI (m_dd M i 3) ∧ st_ri S (m + 23) i = nI (m_dd M i 4)) ∧ (∀ i, i < 40 → st_ri S (m + 24) i = nI (m_nl M i)) ∧ (∀ i k w, i < m_D M → k < m_nl M i → w < 6 → st_ri S (m + 25) (6 * (24 * i + k) + w) = nI (m_lv M i k w)) ∧ st_fi S 1002 m = nI (m_tz M) ∧ (∀ j, j < m_tz M → st_ri S (m + 1) j = nI (m_ts M j)) ∧ (∀ s, s < 5 → st_ri S (m + 29) s = nI (m_ct M s)) ∧ st_fi S 1011 m = chI (m_ch M) ∧ st_fi S 1010 m = nI (m_T M) ∧ (∀ t, t < m_T M → RT S m t (m_tx M t)) ∧ (∀ i, i < 14 → st_rl S (m + 5) i = ([172647, 665856, 1176170, 1891, 1186224, 1327079004, 716895, 30595897, 1178088, 329128, 628896, 2286271, 1633, 5538] : List Int64).getD i 0)
section RI0
variable {S : st_T} {m : Nat} {M : mT}
theorem RI_s (h : RI S m M) : RS S m := h.1
theorem RI_tr (h : RI S m M) {w : Nat} (hw : w ≤ 200) : st_ri S (m + 18) w = nI (m_tr M w) := h.2.1 w hw
theorem RI_D (h : RI S m M) : st_fi S 1027 m = nI (m_D M) := h.2.2.1
theorem RI_dd (h : RI S m M) {i : Nat} (hi : i < m_D M) : st_ri S (m + 19) i = nI (m_dd M i 0) ∧ st_ri S (m + 20) i = nI (m_dd M i 1) ∧ st_ri S (m + 21) i = nI (m_dd M i 2) ∧ st_ri S (m + 22) i = nI (m_dd M i 3) ∧ st_ri S (m + 23) i = nI (m_dd M i 4) := h.2.2.2.1 i hi
theorem RI_nl (h : RI S m M) {i : Nat} (hi : i < 40) : st_ri S (m + 24) i = nI (m_nl M i) := h.2.2.2.2.1 i hi
theorem RI_lv (h : RI S m M) {i k w : Nat} (hi : i < m_D M) (hk : k < m_nl M i) (hw : w < 6) : st_ri S (m + 25) (6 * (24 * i + k) + w) = nI (m_lv M i k w) := h.2.2.2.2.2.1 i k w hi hk hw
theorem RI_tz (h : RI S m M) : st_fi S 1002 m = nI (m_tz M) := h.2.2.2.2.2.2.1
theorem RI_ts (h : RI S m M) {j : Nat} (hj : j < m_tz M) : st_ri S (m + 1) j = nI (m_ts M j) := h.2.2.2.2.2.2.2.1 j hj
theorem RI_ct (h : RI S m M) {s : Nat} (hs : s < 5) : st_ri S (m + 29) s = nI (m_ct M s) := h.2.2.2.2.2.2.2.2.1 s hs
theorem RI_ch (h : RI S m M) : st_fi S 1011 m = chI (m_ch M) := h.2.2.2.2.2.2.2.2.2.1
theorem RI_T (h : RI S m M) : st_fi S 1010 m = nI (m_T M) := h.2.2.2.2.2.2.2.2.2.2.1
theorem RI_tx (h : RI S m M) {t : Nat} (ht : t < m_T M) : RT S m t (m_tx M t) := h.2.2.2.2.2.2.2.2.2.2.2.1 t ht
theorem RI_wd (h : RI S m M) {i : Nat} (hi : i < 14) : st_rl S (m + 5) i = ([172647, 665856, 1176170, 1891, 1186224, 1327079004, 716895, 30595897, 1178088, 329128, 628896, 2286271, 1633, 5538] : List Int64).getD i 0 := h.2.2.2.2.2.2.2.2.2.2.2.2 i hi
end RI0
/-- rows and fields of the reference that hold nothing from call to call -/
abbrev rZ (m : Nat) (a : Nat) : Prop := a ∈ [m + 2, m + 3, m + 4, m + 12, m + 13, m + 14, m + 15, m + 16, m + 17, m + 26, m + 27, m + 28]
abbrev rY (m : Nat) (k a : Nat) : Prop := a = m ∧ k ∈ [1000, 1003, 1007, 1008, 1018, 1019]
theorem RT_ri {S S1 : st_T} {m t : Nat} {x : tT} (h : RT S m t x) (e6 : st_ri S1 (m + 6) = st_ri S (m + 6)) (e7 : st_ri S1 (m + 7) = st_ri S (m + 7)) (e8 : st_ri S1 (m + 8) = st_ri S (m + 8)) (e9 : st_ri S1 (m + 9) = st_ri S (m + 9)) (e10 : st_ri S1 (m + 10) = st_ri S (m + 10)) (e11 : st_ri S1 (m + 11) = st_ri S (m + 11)) : RT S1 m t x := by
  unfold RT
  rw [e6, e7, e8, e9, e10, e11]
  exact h
theorem RI_ag {S S1 : st_T} {m : Nat} {M : mT} (h : RI S m M) (hs : RS S1 m) (e : ∀ i, i ∈ [1, 5, 6, 7, 8, 9, 10, 11, 18, 19, 20, 21, 22, 23, 24, 25, 29] → st_ri S1 (m + i) = st_ri S (m + i) ∧ st_rl S1 (m + i) = st_rl S (m + i)) (g : ∀ k, k ∈ [1027, 1002, 1011, 1010] → st_fi S1 k m = st_fi S k m) : RI S1 m M := by
  obtain ⟨-, a1, a2, a3, a4, a5, a6, a7, a8, a9, a10, a11, a12⟩ := h
  refine ⟨hs, ?_, ?_, ?_, ?_, ?_, ?_, ?_, ?_, ?_, ?_, ?_, ?_⟩
  · rw [(e 18 (by simp)).1]; exact a1
  · rw [g 1027 (by simp)]; exact a2
  · rw [(e 19 (by simp)).1, (e 20 (by simp)).1, (e 21 (by simp)).1, (e 22 (by simp)).1, (e 23 (by simp)).1]; exact a3
  · rw [(e 24 (by simp)).1]; exact a4
  · rw [(e 25 (by simp)).1]; exact a5
  · rw [g 1002 (by simp)]; exact a6
  · rw [(e 1 (by simp)).1]; exact a7
  · rw [(e 29 (by simp)).1]; exact a8
  · rw [g 1011 (by simp)]; exact a9
  · rw [g 1010 (by simp)]; exact a10
  · exact fun t ht => RT_ri (a11 t ht) (e 6 (by simp)).1 (e 7 (by simp)).1 (e 8 (by simp)).1 (e 9 (by simp)).1 (e 10 (by simp)).1 (e 11 (by simp)).1
  · rw [(e 5 (by simp)).2]; exact a12
theorem RI_fq {S S1 : st_T} {m : Nat} {M : mT} (h : RI S m M) (g : fq (rZ m) (rY m) S S1) : RI S1 m M := by
  refine RI_ag h (RS_fq h.1 g) (fun i hi => ⟨fq_ri g ?_, fq_rl g ?_⟩) (fun k hk => fq_fi g ?_)
  · simp only [List.mem_cons, List.not_mem_nil, or_false] at hi
    simp only [rZ, List.mem_cons, List.not_mem_nil, or_false, Nat.add_left_cancel_iff]
    omega
  · simp only [List.mem_cons, List.not_mem_nil, or_false] at hi
    simp only [rZ, List.mem_cons, List.not_mem_nil, or_false, Nat.add_left_cancel_iff]
    omega
  · simp only [List.mem_cons, List.not_mem_nil, or_false] at hk
    simp only [rY, List.mem_cons, List.not_mem_nil, or_false]
    omega
