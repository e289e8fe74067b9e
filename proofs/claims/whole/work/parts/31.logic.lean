/-! pure rows: what a value's road comes to, what it leaves, numbers -/
/-- the call comes to an answer and a state of which Q tells -/
def ok {α : Type} (x : Option (α × st_T)) (Q : α → st_T → Prop) : Prop := ∃ r S, x = some (r, S) ∧ Q r S
section OK0
variable {α β : Type}
theorem ok_g {c : Prop} [Decidable c] {k : Option (β × st_T)} {Q : β → st_T → Prop} : ok (c_g c k) Q = (c ∧ ok k Q) := by
  unfold c_g
  by_cases h : c
  · rw [if_pos h]; simp [h]
  · rw [if_neg h]; simp [h, ok]
theorem ok_i {c : Prop} [Decidable c] {a b : Option (β × st_T)} {Q : β → st_T → Prop} : ok (c_i c a b) Q = ((c → ok a Q) ∧ (¬ c → ok b Q)) := by
  unfold c_i
  by_cases h : c
  · rw [if_pos h]; simp [h]
  · rw [if_neg h]; simp [h]
theorem ok_n {o : Option Nat} {k : Nat → Option (β × st_T)} {Q : β → st_T → Prop} : ok (c_n o k) Q = ∃ a, o = some a ∧ ok (k a) Q := by
  cases o with
  | none => simp [c_n, ok]
  | some a => simp [c_n]
theorem ok_ns {a : Nat} {k : Nat → Option (β × st_T)} {Q : β → st_T → Prop} : ok (c_n (some a) k) Q = ok (k a) Q := rfl
theorem ok_on {a : Option (β × st_T)} {k : Nat → Option (β × st_T)} {Q : β → st_T → Prop} : ok (c_o none a k) Q = ok a Q := rfl
theorem ok_os {q : Nat} {a : Option (β × st_T)} {k : Nat → Option (β × st_T)} {Q : β → st_T → Prop} : ok (c_o (some q) a k) Q = ok (k q) Q := rfl
theorem ok_l {x : α} {k : α → Option (β × st_T)} {Q : β → st_T → Prop} : ok (c_l x k) Q = ok (k x) Q := rfl
theorem ok_c {x : Option (α × st_T)} {k : α → st_T → Option (β × st_T)} {Q : β → st_T → Prop} : ok (c_c x k) Q = ok x (fun r S => ok (k r S) Q) := by
  cases x with
  | none => simp [c_c, ok]
  | some p =>
    apply propext
    constructor
    · intro h; exact ⟨p.1, p.2, rfl, h⟩
    · rintro ⟨r, S, h1, h2⟩
      cases h1
      exact h2
theorem ok_s {r : β} {S : st_T} {Q : β → st_T → Prop} : ok (some (r, S)) Q = Q r S := by
  apply propext
  constructor
  · rintro ⟨r', S', h1, h2⟩
    cases h1
    exact h2
  · intro h; exact ⟨r, S, rfl, h⟩
theorem ok_imp {x : Option (β × st_T)} {P Q : β → st_T → Prop} (h : ok x P) (hi : ∀ r S, P r S → Q r S) : ok x Q := by
  obtain ⟨r, S, h1, h2⟩ := h
  exact ⟨r, S, h1, hi r S h2⟩
theorem ok_of {x : Option (β × st_T)} {r : β} {S : st_T} {Q : β → st_T → Prop} (h : x = some (r, S)) (hq : Q r S) : ok x Q := ⟨r, S, h, hq⟩
theorem ok_eq {x : Option (β × st_T)} {r : β} {S : st_T} (h : ok x (fun r' S' => r' = r ∧ S' = S)) : x = some (r, S) := by
  obtain ⟨r', S', h1, h2, h3⟩ := h
  rw [h1, h2, h3]
/-- a loop -/
theorem ok_w {body : (α → Option (β × st_T)) → α → Option (β × st_T)} {Q : β → st_T → Prop} (I : α → Prop) (μ : α → Nat) (hs : ∀ a rec, I a → (∀ a', I a' → μ a' < μ a → ok (rec a') Q) → ok (body rec a) Q) : ∀ (n : Nat) (a : α), I a → μ a < n → ok (c_w body n a) Q := by
  intro n
  induction n with
  | zero => intro a _ h; omega
  | succ n ih =>
    intro a hI hn
    exact hs a (c_w body n) hI (fun a' h1 h2 => ih a' h1 (by omega))
end OK0

theorem li_0 : (0 : Int32) = nI 0 := rfl
theorem li_1 : (1 : Int32) = nI 1 := rfl
theorem li_2 : (2 : Int32) = nI 2 := rfl
theorem li_3 : (3 : Int32) = nI 3 := rfl
theorem li_4 : (4 : Int32) = nI 4 := rfl
theorem li_5 : (5 : Int32) = nI 5 := rfl
theorem li_6 : (6 : Int32) = nI 6 := rfl
theorem li_7 : (7 : Int32) = nI 7 := rfl
theorem li_8 : (8 : Int32) = nI 8 := rfl
theorem li_9 : (9 : Int32) = nI 9 := rfl
theorem li_10 : (10 : Int32) = nI 10 := rfl
theorem li_11 : (11 : Int32) = nI 11 := rfl
theorem li_12 : (12 : Int32) = nI 12 := rfl
theorem li_13 : (13 : Int32) = nI 13 := rfl
theorem li_14 : (14 : Int32) = nI 14 := rfl
theorem li_15 : (15 : Int32) = nI 15 := rfl
theorem li_16 : (16 : Int32) = nI 16 := rfl
theorem li_17 : (17 : Int32) = nI 17 := rfl
theorem li_18 : (18 : Int32) = nI 18 := rfl
theorem li_19 : (19 : Int32) = nI 19 := rfl
theorem li_20 : (20 : Int32) = nI 20 := rfl
theorem li_21 : (21 : Int32) = nI 21 := rfl
theorem li_22 : (22 : Int32) = nI 22 := rfl
theorem li_23 : (23 : Int32) = nI 23 := rfl
theorem li_24 : (24 : Int32) = nI 24 := rfl
theorem li_25 : (25 : Int32) = nI 25 := rfl
theorem li_26 : (26 : Int32) = nI 26 := rfl
theorem li_31 : (31 : Int32) = nI 31 := rfl
theorem li_32 : (32 : Int32) = nI 32 := rfl
theorem li_37 : (37 : Int32) = nI 37 := rfl
theorem li_39 : (39 : Int32) = nI 39 := rfl
theorem li_40 : (40 : Int32) = nI 40 := rfl
theorem li_41 : (41 : Int32) = nI 41 := rfl
theorem li_42 : (42 : Int32) = nI 42 := rfl
theorem li_43 : (43 : Int32) = nI 43 := rfl
theorem li_45 : (45 : Int32) = nI 45 := rfl
theorem li_47 : (47 : Int32) = nI 47 := rfl
theorem li_48 : (48 : Int32) = nI 48 := rfl
theorem li_49 : (49 : Int32) = nI 49 := rfl
theorem li_50 : (50 : Int32) = nI 50 := rfl
theorem li_56 : (56 : Int32) = nI 56 := rfl
theorem li_57 : (57 : Int32) = nI 57 := rfl
theorem li_59 : (59 : Int32) = nI 59 := rfl
theorem li_60 : (60 : Int32) = nI 60 := rfl
theorem li_61 : (61 : Int32) = nI 61 := rfl
theorem li_63 : (63 : Int32) = nI 63 := rfl
theorem li_64 : (64 : Int32) = nI 64 := rfl
theorem li_96 : (96 : Int32) = nI 96 := rfl
theorem li_97 : (97 : Int32) = nI 97 := rfl
theorem li_99 : (99 : Int32) = nI 99 := rfl
theorem li_100 : (100 : Int32) = nI 100 := rfl
theorem li_101 : (101 : Int32) = nI 101 := rfl
theorem li_122 : (122 : Int32) = nI 122 := rfl
theorem li_126 : (126 : Int32) = nI 126 := rfl
theorem li_143 : (143 : Int32) = nI 143 := rfl
theorem li_144 : (144 : Int32) = nI 144 := rfl
theorem li_192 : (192 : Int32) = nI 192 := rfl
theorem li_200 : (200 : Int32) = nI 200 := rfl
theorem li_201 : (201 : Int32) = nI 201 := rfl
theorem li_216 : (216 : Int32) = nI 216 := rfl
theorem li_255 : (255 : Int32) = nI 255 := rfl
theorem li_256 : (256 : Int32) = nI 256 := rfl
theorem li_780 : (780 : Int32) = nI 780 := rfl
theorem li_799 : (799 : Int32) = nI 799 := rfl
theorem li_800 : (800 : Int32) = nI 800 := rfl
theorem li_801 : (801 : Int32) = nI 801 := rfl
theorem li_802 : (802 : Int32) = nI 802 := rfl
theorem li_880 : (880 : Int32) = nI 880 := rfl
theorem li_1000 : (1000 : Int32) = nI 1000 := rfl
theorem li_5760 : (5760 : Int32) = nI 5760 := rfl
theorem li_7040 : (7040 : Int32) = nI 7040 := rfl
theorem li_7920 : (7920 : Int32) = nI 7920 := rfl
theorem li_1000000 : (1000000 : Int32) = nI 1000000 := rfl
theorem nI_sub {a b : Nat} (h : b ≤ a) : nI a - nI b = nI (a - b) := by
  have : nI a = nI (a - b) + nI b := by rw [nI_add]; congr 1; omega
  rw [this, Int32.add_sub_cancel]
theorem nI_mul (a b : Nat) : nI a * nI b = nI (a * b) := (Int32.ofNat_mul a b).symm
theorem in_nI {p n : Nat} (h : p < 2 ^ 31) : c_in (nI p) n ↔ p < n := by
  unfold c_in
  rw [nI_clamp h]
  have := nI_pos h
  constructor
  · intro h1; apply Classical.byContradiction; intro h2; exact h1 (Or.inr (by omega))
  · intro h1 h2; rcases h2 with h2 | h2
    · exact this h2
    · omega
theorem nI_neg {n : Nat} (h : n < 2 ^ 31) : ¬ nI n = -1 := by
  intro h1
  have h2 := nI_toInt h
  rw [h1] at h2
  have : (-1 : Int32).toInt = -1 := by decide
  omega
theorem neg_lt {n : Nat} (h : n < 2 ^ 31) : (-1 : Int32) < nI n := by
  rw [Int32.lt_iff_toInt_lt, nI_toInt h]
  have : (-1 : Int32).toInt = -1 := by decide
  omega

/-- what a call leaves: kinds, lengths, references, room; rows but those of R, int fields but those of F -/
def fq (R : Nat → Prop) (F : Nat → Nat → Prop) (S S' : st_T) : Prop := st_K S' = st_K S ∧ st_fr S' = st_fr S ∧ st_ln S' = st_ln S ∧ st_ro S' = st_ro S ∧ st_nx S' = st_nx S ∧ st_sa S' = st_sa S ∧ (∀ a, ¬ R a → st_ri S' a = st_ri S a) ∧ (∀ a, ¬ R a → st_rl S' a = st_rl S a) ∧ (∀ k a, ¬ F k a → st_fi S' k a = st_fi S k a)
section FQ
variable {R R2 : Nat → Prop} {F F2 : Nat → Nat → Prop} {S S1 S2 : st_T}
theorem fq_rf : fq R F S S := ⟨rfl, rfl, rfl, rfl, rfl, rfl, fun _ _ => rfl, fun _ _ => rfl, fun _ _ _ => rfl⟩
theorem fq_tr (h : fq R F S S1) (g : fq R F S1 S2) : fq R F S S2 := by
  obtain ⟨a1, a2, a3, a4, a5, a6, a7, a8, a9⟩ := h
  obtain ⟨b1, b2, b3, b4, b5, b6, b7, b8, b9⟩ := g
  exact ⟨b1.trans a1, b2.trans a2, b3.trans a3, b4.trans a4, b5.trans a5, b6.trans a6, fun a h => (b7 a h).trans (a7 a h), fun a h => (b8 a h).trans (a8 a h), fun k a h => (b9 k a h).trans (a9 k a h)⟩
theorem fq_mono (h : fq R F S S1) (hR : ∀ a, R a → R2 a) (hF : ∀ k a, F k a → F2 k a) : fq R2 F2 S S1 := by
  obtain ⟨a1, a2, a3, a4, a5, a6, a7, a8, a9⟩ := h
  exact ⟨a1, a2, a3, a4, a5, a6, fun a h => a7 a (fun z => h (hR a z)), fun a h => a8 a (fun z => h (hR a z)), fun k a h => a9 k a (fun z => h (hF k a z))⟩
theorem fq_pi {k a : Nat} {v : Int32} (h : fq R F S S1) (hF : F k a) : fq R F S (st_pi S1 k a v) := by
  refine fq_tr h ⟨rfl, rfl, rfl, rfl, rfl, rfl, fun _ _ => rfl, fun _ _ => rfl, fun k' a' h' => ?_⟩
  rw [fi_pi]
  by_cases e1 : k' = k
  · by_cases e2 : a' = a
    · subst e1; subst e2; exact absurd hF h'
    · rw [if_pos e1, if_neg e2, e1]
  · rw [if_neg e1]
theorem fq_wi {a j : Nat} {v : Int32} (h : fq R F S S1) (hR : R a) : fq R F S (st_wi S1 a j v) := by
  refine fq_tr h ⟨rfl, rfl, rfl, rfl, rfl, rfl, fun a' h' => ?_, fun _ _ => rfl, fun _ _ _ => rfl⟩
  have : a' ≠ a := fun q => h' (q ▸ hR)
  funext j'
  rw [ri_wi, if_neg this]
theorem fq_wl {a j : Nat} {v : Int64} (h : fq R F S S1) (hR : R a) : fq R F S (st_wl S1 a j v) := by
  refine fq_tr h ⟨rfl, rfl, rfl, rfl, rfl, rfl, fun _ _ => rfl, fun a' h' => ?_, fun _ _ _ => rfl⟩
  have : a' ≠ a := fun q => h' (q ▸ hR)
  funext j'
  rw [rl_wl, if_neg this]
theorem fq_K (h : fq R F S S1) : st_K S1 = st_K S := h.1
theorem fq_fr (h : fq R F S S1) : st_fr S1 = st_fr S := h.2.1
theorem fq_ln (h : fq R F S S1) : st_ln S1 = st_ln S := h.2.2.1
theorem fq_ro (h : fq R F S S1) : st_ro S1 = st_ro S := h.2.2.2.1
theorem fq_nx (h : fq R F S S1) : st_nx S1 = st_nx S := h.2.2.2.2.1
theorem fq_sa (h : fq R F S S1) : st_sa S1 = st_sa S := h.2.2.2.2.2.1
theorem fq_ri (h : fq R F S S1) {a : Nat} (ha : ¬ R a) : st_ri S1 a = st_ri S a := h.2.2.2.2.2.2.1 a ha
theorem fq_rl (h : fq R F S S1) {a : Nat} (ha : ¬ R a) : st_rl S1 a = st_rl S a := h.2.2.2.2.2.2.2.1 a ha
theorem fq_fi (h : fq R F S S1) {k a : Nat} (ha : ¬ F k a) : st_fi S1 k a = st_fi S k a := h.2.2.2.2.2.2.2.2 k a ha
end FQ
/-- the reference's cells, as its constructor lays them -/
abbrev RS (S : st_T) (m : Nat) : Prop := st_K S m = 11 ∧ st_K S (m + 1) = 20 ∧ st_ln S (m + 1) = 800 ∧ st_fr S 1001 m = some (m + 1) ∧ st_K S (m + 2) = 20 ∧ st_ln S (m + 2) = 802 ∧ st_fr S 1004 m = some (m + 2) ∧ st_K S (m + 3) = 20 ∧ st_ln S (m + 3) = 802 ∧ st_fr S 1005 m = some (m + 3) ∧ st_K S (m + 4) = 21 ∧ st_ln S (m + 4) = 802 ∧ st_fr S 1006 m = some (m + 4) ∧ st_K S (m + 5) = 21 ∧ st_ln S (m + 5) = 14 ∧ st_fr S 1009 m = some (m + 5) ∧ st_K S (m + 6) = 20 ∧ st_ln S (m + 6) = 9 ∧ st_fr S 1012 m = some (m + 6) ∧ st_K S (m + 7) = 20 ∧ st_ln S (m + 7) = 9 ∧ st_fr S 1013 m = some (m + 7) ∧ st_K S (m + 8) = 20 ∧ st_ln S (m + 8) = 216 ∧ st_fr S 1014 m = some (m + 8) ∧ st_K S (m + 9) = 20 ∧ st_ln S (m + 9) = 216 ∧ st_fr S 1015 m = some (m + 9) ∧ st_K S (m + 10) = 20 ∧ st_ln S (m + 10) = 7920 ∧ st_fr S 1016 m = some (m + 10) ∧ st_K S (m + 11) = 20 ∧ st_ln S (m + 11) = 7920 ∧ st_fr S 1017 m = some (m + 11) ∧ st_K S (m + 12) = 20 ∧ st_ln S (m + 12) = 7 ∧ st_fr S 1020 m = some (m + 12) ∧ st_K S (m + 13) = 20 ∧ st_ln S (m + 13) = 7 ∧ st_fr S 1021 m = some (m + 13) ∧ st_K S (m + 14) = 20 ∧ st_ln S (m + 14) = 7 ∧ st_fr S 1022 m = some (m + 14) ∧ st_K S (m + 15) = 20 ∧ st_ln S (m + 15) = 7 ∧ st_fr S 1023 m = some (m + 15) ∧ st_K S (m + 16) = 20 ∧ st_ln S (m + 16) = 3 ∧ st_fr S 1024 m = some (m + 16) ∧ st_K S (m + 17) = 20 ∧ st_ln S (m + 17) = 880 ∧ st_fr S 1025 m = some (m + 17) ∧ st_K S (m + 18) = 20 ∧ st_ln S (m + 18) = 201 ∧ st_fr S 1026 m = some (m + 18) ∧ st_K S (m + 19) = 20 ∧ st_ln S (m + 19) = 40 ∧ st_fr S 1028 m = some (m + 19) ∧ st_K S (m + 20) = 20 ∧ st_ln S (m + 20) = 40 ∧ st_fr S 1029 m = some (m + 20) ∧ st_K S (m + 21) = 20 ∧ st_ln S (m + 21) = 40 ∧ st_fr S 1030 m = some (m + 21) ∧ st_K S (m + 22) = 20 ∧ st_ln S (m + 22) = 40 ∧ st_fr S 1031 m = some (m + 22) ∧ st_K S (m + 23) = 20 ∧ st_ln S (m + 23) = 40 ∧ st_fr S 1032 m = some (m + 23) ∧ st_K S (m + 24) = 20 ∧ st_ln S (m + 24) = 40 ∧ st_fr S 1033 m = some (m + 24) ∧ st_K S (m + 25) = 20 ∧ st_ln S (m + 25) = 5760 ∧ st_fr S 1034 m = some (m + 25) ∧ st_K S (m + 26) = 20 ∧ st_ln S (m + 26) = 24 ∧ st_fr S 1035 m = some (m + 26) ∧ st_K S (m + 27) = 20 ∧ st_ln S (m + 27) = 24 ∧ st_fr S 1036 m = some (m + 27) ∧ st_K S (m + 28) = 23 ∧ st_ln S (m + 28) = 24 ∧ st_fr S 1037 m = some (m + 28) ∧ st_K S (m + 29) = 20 ∧ st_ln S (m + 29) = 5 ∧ st_fr S 1038 m = some (m + 29)
theorem RS_fq {R : Nat → Prop} {F : Nat → Nat → Prop} {S S1 : st_T} {m : Nat} (h : RS S m) (g : fq R F S S1) : RS S1 m := by
  unfold RS
  rw [fq_K g, fq_fr g, fq_ln g]
  exact h
