/-! The state of the system, as functions: kinds of cells, int fields, reference fields, lengths, rows of ints, longs and references, the next address, addresses of constants. -/
abbrev st_T : Type := (Nat → Nat) × (Nat → Nat → Int32) × (Nat → Nat → Option Nat) × (Nat → Nat) × (Nat → Nat → Int32) × (Nat → Nat → Int64) × (Nat → Nat → Option Nat) × Nat × (Nat → Nat)
def st_K (S : st_T) : Nat → Nat := S.1
def st_fi (S : st_T) : Nat → Nat → Int32 := S.2.1
def st_fr (S : st_T) : Nat → Nat → Option Nat := S.2.2.1
def st_ln (S : st_T) : Nat → Nat := S.2.2.2.1
def st_ri (S : st_T) : Nat → Nat → Int32 := S.2.2.2.2.1
def st_rl (S : st_T) : Nat → Nat → Int64 := S.2.2.2.2.2.1
def st_ro (S : st_T) : Nat → Nat → Option Nat := S.2.2.2.2.2.2.1
def st_nx (S : st_T) : Nat := S.2.2.2.2.2.2.2.1
def st_sa (S : st_T) : Nat → Nat := S.2.2.2.2.2.2.2.2
/-- an int field is written -/
def st_pi (S : st_T) (k a : Nat) (v : Int32) : st_T := (st_K S, va_up (st_fi S) k (va_up (st_fi S k) a v), st_fr S, st_ln S, st_ri S, st_rl S, st_ro S, st_nx S, st_sa S)
/-- a reference field is written -/
def st_pr (S : st_T) (k a : Nat) (v : Option Nat) : st_T := (st_K S, st_fi S, va_up (st_fr S) k (va_up (st_fr S k) a v), st_ln S, st_ri S, st_rl S, st_ro S, st_nx S, st_sa S)
/-- an element of a row of ints (chars, booleans) is written -/
def st_wi (S : st_T) (a j : Nat) (v : Int32) : st_T := (st_K S, st_fi S, st_fr S, st_ln S, va_up (st_ri S) a (upd (st_ri S a) j v), st_rl S, st_ro S, st_nx S, st_sa S)
def st_wl (S : st_T) (a j : Nat) (v : Int64) : st_T := (st_K S, st_fi S, st_fr S, st_ln S, st_ri S, va_up (st_rl S) a (vp_updL (st_rl S a) j v), st_ro S, st_nx S, st_sa S)
def st_wo (S : st_T) (a j : Nat) (v : Option Nat) : st_T := (st_K S, st_fi S, st_fr S, st_ln S, st_ri S, st_rl S, va_up (st_ro S) a (va_up (st_ro S a) j v), st_nx S, st_sa S)
/-- a whole row is written -/
def st_xi (S : st_T) (a : Nat) (f : Nat → Int32) : st_T := (st_K S, st_fi S, st_fr S, st_ln S, va_up (st_ri S) a f, st_rl S, st_ro S, st_nx S, st_sa S)
def st_xo (S : st_T) (a : Nat) (f : Nat → Option Nat) : st_T := (st_K S, st_fi S, st_fr S, st_ln S, st_ri S, st_rl S, va_up (st_ro S) a f, st_nx S, st_sa S)
/-- a new object of class c, at the next address -/
def st_no (S : st_T) (c : Nat) : st_T := (va_up (st_K S) (st_nx S) (c + 1), fun k => va_up (st_fi S k) (st_nx S) 0, fun k => va_up (st_fr S k) (st_nx S) none, st_ln S, st_ri S, st_rl S, st_ro S, st_nx S + 1, st_sa S)
/-- a new row of kind z and length n, at the next address -/
def st_na (S : st_T) (z n : Nat) : st_T := (va_up (st_K S) (st_nx S) z, st_fi S, st_fr S, va_up (st_ln S) (st_nx S) n, va_up (st_ri S) (st_nx S) (fun _ => 0), va_up (st_rl S) (st_nx S) (fun _ => 0), va_up (st_ro S) (st_nx S) (fun _ => none), st_nx S + 1, st_sa S)
/-- the classes: slots, and which of them hold references -/
def cl_t : List (List Bool) := [[false, true, false], [true, true, false, false, false, false, false], [false, false, false, false, true, false, false], [false, false, false, false, false, false, false, false, false], [true, true, true, true, true, false, false, false, false, false, false], [true, false], [true, true, true, true, false], [true, true, true, false], [true], [true, true, true, true, true, true, true, true, false, false], [false, true, false, false, true, true, true, false, false, true, false, false, true, true, true, true, true, true, false, false, true, true, true, true, true, true, true, false, true, true, true, true, true, true, true, true, true, true, true]]
def cl_n (c : Nat) : Nat := (cl_t.getD c []).length
def cl_r (c j : Nat) : Bool := (cl_t.getD c []).getD j false
def st_f1 (S : st_T) (c a j : Nat) : Value := if cl_r c j = true then va_rf (st_fr S (100 * c + j) a) else .int (st_fi S (100 * c + j) a)
def st_fs (S : st_T) (c a : Nat) : List Value := (List.range (cl_n c)).map (st_f1 S c a)
/-- the numbers that the machine's classes have: objects, arrays of int, long, char, boolean, Object; addresses of constants, lengths and signs of texts -/
abbrev st_I : Type := va_G × ClassId × ClassId × ClassId × ClassId × ClassId × (Nat → Nat)
abbrev vwCl : List vw_C := [(RJx4a65c, TJx4a65c, 3), (RX0, TX0, 7), (RX1, TX1, 7), (RX2, TX2, 9), (RX3, TX3, 11), (RX4, TX4, 2), (RX5, TX5, 5), (RX6, TX6, 4), (RX7, TX7, 1), (RX8, TX8, 10), (RX9, TX9, 39)]
def st_E (X : st_I) (S : st_T) (a : Nat) : va_E :=
  if st_K S a < 20 then .inr (st_K S a - 1, st_fs S (st_K S a - 1) a)
  else if st_K S a = 20 then .inl (X.2.1, st_ln S a, .inl (st_ri S a))
  else if st_K S a = 21 then .inl (X.2.2.1, st_ln S a, .inr (.inl (st_rl S a)))
  else if st_K S a = 22 then .inl (X.2.2.2.1, st_ln S a, .inl (st_ri S a))
  else if st_K S a = 23 then .inl (X.2.2.2.2.1, st_ln S a, .inl (st_ri S a))
  else .inl (X.2.2.2.2.2.1, st_ln S a, .inr (.inr (.inr (.inr (st_ro S a)))))
/-- the texts that the law's code may read: their signs -/
def st_tx (i : Nat) : List Nat := (["and", "code", "when", "mend", "word", "second", "next", "place", "with", "from", "long", "ahead", "age", "day", ""].getD i "").toList.map Char.toNat
/-- the constants: 31 a text, 30 the empty row that all new lists share -/
def st_C (X : st_I) (S : st_T) : Prop := st_sa S = X.2.2.2.2.2.2 ∧ (∀ a, st_K S a = 30 → a = st_sa S 100 ∧ st_ln S a = 0) ∧ ∀ a, st_K S a = 31 → ∃ i, i < 15 ∧ a = st_sa S i ∧ st_ln S a = (st_tx i).length ∧ ∀ j, j < (st_tx i).length → st_ri S a j = nI ((st_tx i).getD j 0)
def st_HP (X : st_I) (A : Nat → Prop) (S : st_T) (H : Heap) : Prop := (∃ L : List Nat, (∀ a, a ∈ L ↔ (st_K S a ≠ 0 ∧ st_K S a < 30)) ∧ va_P X.1 vwCl (va_pl L (st_E X S)) H ∧ va_D A (va_pl L (st_E X S))) ∧ H.size = st_nx S ∧ st_C X S
def st_KK (X : st_I) (U : State) : Prop := va_K X.1 vwCl [(X.2.1, .int), (X.2.2.1, .long), (X.2.2.2.1, .char), (X.2.2.2.2.1, .boolean), (X.2.2.2.2.2.1, .object "java/lang/Object")] U
def st_A (S : st_T) : Nat → Prop := fun q => (st_K S q ≠ 0 ∧ st_K S q < 30) ∨ st_nx S ≤ q
-- reading
theorem st_fs_get (S : st_T) {c a k : Nat} (h : k < cl_n c) : (st_fs S c a)[k]? = some (st_f1 S c a k) := by
  simp [st_fs, h]
theorem st_fs_len (S : st_T) (c a : Nat) : (st_fs S c a).length = cl_n c := by simp [st_fs]
theorem st_E_o {X : st_I} {S : st_T} {a c : Nat} (h : st_K S a = c + 1) (hc : c < 19) : st_E X S a = .inr (c, st_fs S c a) := by
  have h2 : st_K S a < 20 := by omega
  have h3 : st_K S a - 1 = c := by omega
  rw [st_E, if_pos h2, h3]
theorem st_E_i {X : st_I} {S : st_T} {a : Nat} (h : st_K S a = 20) : st_E X S a = .inl (X.2.1, st_ln S a, .inl (st_ri S a)) := by simp [st_E, h]
theorem st_E_l {X : st_I} {S : st_T} {a : Nat} (h : st_K S a = 21) : st_E X S a = .inl (X.2.2.1, st_ln S a, .inr (.inl (st_rl S a))) := by simp [st_E, h]
theorem st_E_c {X : st_I} {S : st_T} {a : Nat} (h : st_K S a = 22) : st_E X S a = .inl (X.2.2.2.1, st_ln S a, .inl (st_ri S a)) := by simp [st_E, h]
theorem st_E_z {X : st_I} {S : st_T} {a : Nat} (h : st_K S a = 23) : st_E X S a = .inl (X.2.2.2.2.1, st_ln S a, .inl (st_ri S a)) := by simp [st_E, h]
theorem st_E_q {X : st_I} {S : st_T} {a : Nat} (h : st_K S a = 24) : st_E X S a = .inl (X.2.2.2.2.2.1, st_ln S a, .inr (.inr (.inr (.inr (st_ro S a))))) := by simp [st_E, h]
/-- a cell of the state stands in the heap's world -/
theorem st_at {X : st_I} {A : Nat → Prop} {S : st_T} {H : Heap} (h : st_HP X A S H) {a : Nat} (hk : st_K S a ≠ 0 ∧ st_K S a < 30) : ∃ (L : List Nat) (k : Nat), (∀ a, a ∈ L ↔ (st_K S a ≠ 0 ∧ st_K S a < 30)) ∧ va_P X.1 vwCl (va_pl L (st_E X S)) H ∧ va_D A (va_pl L (st_E X S)) ∧ a ∈ L ∧ (va_pl L (st_E X S))[k]? = some (a, st_E X S a) := by
  obtain ⟨⟨L, h1, h2, h3⟩, -⟩ := h
  have ha := (h1 a).mpr hk
  obtain ⟨k, hk⟩ := va_pl_get (X := []) (f := st_E X S) ha
  exact ⟨L, k, h1, h2, h3, ha, hk⟩
theorem st_lt {X : st_I} {A : Nat → Prop} {S : st_T} {H : Heap} (h : st_HP X A S H) {a : Nat} (hk : st_K S a ≠ 0 ∧ st_K S a < 30) : a < st_nx S := by
  obtain ⟨L, k, h1, h2, h3, ha, hk⟩ := st_at h hk
  rw [← h.2.1]
  exact va_pl_lt (X := []) h2 ha
theorem st_inA {X : st_I} {A : Nat → Prop} {S : st_T} {H : Heap} (h : st_HP X A S H) {a : Nat} (hk : st_K S a ≠ 0 ∧ st_K S a < 30) : A a := by
  obtain ⟨L, k, h1, h2, h3, ha, hk⟩ := st_at h hk
  exact h3.2 k _ hk
/-- the world behind a write at a -/
theorem st_set {X : st_I} {A : Nat → Prop} {S S' : st_T} {H1 : Heap} {L : List Nat} {k a : Nat} {e : va_E} (h1 : ∀ a, a ∈ L ↔ (st_K S a ≠ 0 ∧ st_K S a < 30)) (h3 : va_D A (va_pl L (st_E X S))) (ha : a ∈ L) (hk : (va_pl L (st_E X S))[k]? = some (a, st_E X S a))
    (hP : va_P X.1 vwCl ((va_pl L (st_E X S)).set k (a, e)) H1) (hD : va_D A ((va_pl L (st_E X S)).set k (a, e))) (he : ∀ b, st_E X S' b = va_up (st_E X S) a e b) (hK : st_K S' = st_K S) (hz : H1.size = st_nx S') (hC : st_C X S') : st_HP X A S' H1 := by
  have e1 : (va_pl L (st_E X S)).set k (a, e) = va_pl L (st_E X S') := by
    have := va_pl_set (X := []) (e := e) h3 ha hk
    rw [List.nil_append, List.nil_append] at this
    rw [this]
    exact va_pl_congr (fun b => (he b).symm)
  rw [e1] at hP hD
  exact ⟨⟨L, by rw [hK]; exact h1, hP, hD⟩, hz, hC⟩
theorem st_E_pi {X : st_I} {S : st_T} {a c k : Nat} (hk : k < cl_n c) (hr : cl_r c k = false) (h : st_K S a = c + 1) (hc : c < 19) (v : Int32) (b : Nat) : st_E X (st_pi S (100 * c + k) a v) b = va_up (st_E X S) a (.inr (c, (st_fs S c a).set k (.int v))) b := by
  by_cases hb : b = a
  · subst hb
    rw [va_up_self, st_E_o (S := st_pi S (100 * c + k) b v) h hc]
    congr 2
    apply List.ext_getElem?
    intro j
    by_cases hj : j < cl_n c
    · rw [st_fs_get _ hj]
      by_cases hjk : j = k
      · subst hjk
        rw [List.getElem?_set_self (by rw [st_fs_len]; exact hj)]
        simp [st_f1, hr, st_fi, st_pi, va_up]
      · rw [List.getElem?_set_ne (Ne.symm hjk), st_fs_get _ hj]
        have : ¬ 100 * c + j = 100 * c + k := by omega
        simp [st_f1, st_fi, st_fr, st_pi, va_up, hjk]
    · rw [List.getElem?_eq_none (by rw [st_fs_len]; omega), List.getElem?_eq_none (by rw [List.length_set, st_fs_len]; omega)]
  · rw [va_up_ne _ _ hb]
    have e1 : ∀ z, st_fs (st_pi S (100 * c + k) a v) z b = st_fs S z b := by
      intro z
      unfold st_fs
      apply List.map_congr_left
      intro j _
      unfold st_f1
      have : st_fi (st_pi S (100 * c + k) a v) (100 * z + j) b = st_fi S (100 * z + j) b := by
        show va_up (st_fi S) (100 * c + k) (va_up (st_fi S (100 * c + k)) a v) (100 * z + j) b = _
        by_cases hq : 100 * z + j = 100 * c + k
        · rw [hq, va_up_self, va_up_ne _ _ hb]
        · rw [va_up_ne _ _ hq]
      rw [this]
      rfl
    unfold st_E
    rw [e1]
    rfl
theorem st_E_pr {X : st_I} {S : st_T} {a c k : Nat} (hk : k < cl_n c) (hr : cl_r c k = true) (h : st_K S a = c + 1) (hc : c < 19) (v : Option Nat) (b : Nat) : st_E X (st_pr S (100 * c + k) a v) b = va_up (st_E X S) a (.inr (c, (st_fs S c a).set k (va_rf v))) b := by
  by_cases hb : b = a
  · subst hb
    rw [va_up_self, st_E_o (S := st_pr S (100 * c + k) b v) h hc]
    congr 2
    apply List.ext_getElem?
    intro j
    by_cases hj : j < cl_n c
    · rw [st_fs_get _ hj]
      by_cases hjk : j = k
      · subst hjk
        rw [List.getElem?_set_self (by rw [st_fs_len]; exact hj)]
        simp [st_f1, hr, st_fr, st_pr, va_up]
      · rw [List.getElem?_set_ne (Ne.symm hjk), st_fs_get _ hj]
        have : ¬ 100 * c + j = 100 * c + k := by omega
        simp [st_f1, st_fi, st_fr, st_pr, va_up, hjk]
    · rw [List.getElem?_eq_none (by rw [st_fs_len]; omega), List.getElem?_eq_none (by rw [List.length_set, st_fs_len]; omega)]
  · rw [va_up_ne _ _ hb]
    have e1 : ∀ z, st_fs (st_pr S (100 * c + k) a v) z b = st_fs S z b := by
      intro z
      unfold st_fs
      apply List.map_congr_left
      intro j _
      unfold st_f1
      have : st_fr (st_pr S (100 * c + k) a v) (100 * z + j) b = st_fr S (100 * z + j) b := by
        show va_up (st_fr S) (100 * c + k) (va_up (st_fr S (100 * c + k)) a v) (100 * z + j) b = _
        by_cases hq : 100 * z + j = 100 * c + k
        · rw [hq, va_up_self, va_up_ne _ _ hb]
        · rw [va_up_ne _ _ hq]
      rw [this]
      rfl
    unfold st_E
    rw [e1]
    rfl
theorem st_C_xi {X : st_I} {S : st_T} {a : Nat} {f : Nat → Int32} (h : st_C X S) (hk : st_K S a ≠ 31) : st_C X (st_xi S a f) := by
  refine ⟨h.1, h.2.1, fun b hb => ?_⟩
  have hne : b ≠ a := fun q => hk (q ▸ hb)
  obtain ⟨i, h1, h2, h3, h4⟩ := h.2.2 b hb
  refine ⟨i, h1, h2, h3, fun j hj => ?_⟩
  show va_up (st_ri S) a f b j = _
  rw [va_up_ne _ _ hne]
  exact h4 j hj
theorem st_E_xi {X : st_I} {S : st_T} {a : Nat} (h : st_K S a = 20 ∨ st_K S a = 22 ∨ st_K S a = 23) (f : Nat → Int32) {cA : ClassId} {g : Nat → Int32} (he : st_E X S a = .inl (cA, st_ln S a, .inl g)) (b : Nat) : st_E X (st_xi S a f) b = va_up (st_E X S) a (.inl (cA, st_ln S a, .inl f)) b := by
  by_cases hb : b = a
  · subst hb
    rw [va_up_self]
    rcases h with h | h | h
    · rw [st_E_i h] at he; rw [st_E_i (S := st_xi S b f) h]; cases he; simp [st_xi, st_ri, st_ln, va_up]
    · rw [st_E_c h] at he; rw [st_E_c (S := st_xi S b f) h]; cases he; simp [st_xi, st_ri, st_ln, va_up]
    · rw [st_E_z h] at he; rw [st_E_z (S := st_xi S b f) h]; cases he; simp [st_xi, st_ri, st_ln, va_up]
  · rw [va_up_ne _ _ hb]
    have e1 : st_ri (st_xi S a f) b = st_ri S b := va_up_ne _ _ hb
    unfold st_E
    rw [e1]
    rfl
theorem st_E_wl {X : st_I} {S : st_T} {a : Nat} (h : st_K S a = 21) (f : Nat → Int64) (b : Nat) : st_E X (st_K S, st_fi S, st_fr S, st_ln S, st_ri S, va_up (st_rl S) a f, st_ro S, st_nx S, st_sa S) b = va_up (st_E X S) a (.inl (X.2.2.1, st_ln S a, .inr (.inl f))) b := by
  by_cases hb : b = a
  · subst hb
    rw [va_up_self, st_E_l (S := (st_K S, st_fi S, st_fr S, st_ln S, st_ri S, va_up (st_rl S) b f, st_ro S, st_nx S, st_sa S)) h]
    simp [st_rl, st_ln, va_up]
  · rw [va_up_ne _ _ hb]
    have e1 : st_rl (st_K S, st_fi S, st_fr S, st_ln S, st_ri S, va_up (st_rl S) a f, st_ro S, st_nx S, st_sa S) b = st_rl S b := va_up_ne _ _ hb
    unfold st_E
    rw [e1]
    rfl
theorem st_E_xo {X : st_I} {S : st_T} {a : Nat} (h : st_K S a = 24) (f : Nat → Option Nat) (b : Nat) : st_E X (st_xo S a f) b = va_up (st_E X S) a (.inl (X.2.2.2.2.2.1, st_ln S a, .inr (.inr (.inr (.inr f))))) b := by
  by_cases hb : b = a
  · subst hb
    rw [va_up_self, st_E_q (S := st_xo S b f) h]
    simp [st_xo, st_ro, st_ln, va_up]
  · rw [va_up_ne _ _ hb]
    have e1 : st_ro (st_xo S a f) b = st_ro S b := va_up_ne _ _ hb
    unfold st_E
    rw [e1]
    rfl
