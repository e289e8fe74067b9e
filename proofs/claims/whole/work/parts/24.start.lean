/-- the state at the law's start: the constants alone -/
def st_0 (n : Nat) (sa : Nat → Nat) : st_T :=
  (fun a => if a = sa 100 then 30 else if ((List.range 15).find? (fun i => sa i == a)).isSome then 31 else 0, fun _ _ => 0, fun _ _ => none,
   fun a => if a = sa 100 then 0 else match (List.range 15).find? (fun i => sa i == a) with
     | some i => (st_tx i).length
     | none => 0,
   fun a j => match (List.range 15).find? (fun i => sa i == a) with
     | some i => nI ((st_tx i).getD j 0)
     | none => 0,
   fun _ _ => 0, fun _ _ => none, n, sa)
theorem st_0_C {X : st_I} (n : Nat) : st_C X (st_0 n X.2.2.2.2.2.2) := by
  refine ⟨rfl, fun a ha => ?_, fun a ha => ?_⟩
  · have h1 : (if a = X.2.2.2.2.2.2 100 then 30 else if ((List.range 15).find? (fun i => X.2.2.2.2.2.2 i == a)).isSome then 31 else 0) = 30 := ha
    by_cases h : a = X.2.2.2.2.2.2 100
    · refine ⟨h, ?_⟩
      show (if a = X.2.2.2.2.2.2 100 then 0 else _) = 0
      rw [if_pos h]
    · rw [if_neg h] at h1
      split at h1 <;> cases h1
  · have h1 : (if a = X.2.2.2.2.2.2 100 then 30 else if ((List.range 15).find? (fun i => X.2.2.2.2.2.2 i == a)).isSome then 31 else 0) = 31 := ha
    by_cases h : a = X.2.2.2.2.2.2 100
    · rw [if_pos h] at h1; cases h1
    · rw [if_neg h] at h1
      cases hf : (List.range 15).find? (fun i => X.2.2.2.2.2.2 i == a) with
      | none => rw [hf] at h1; cases h1
      | some i =>
        have h2 := List.find?_some hf
        have h3 := List.mem_of_find?_eq_some hf
        refine ⟨i, List.mem_range.mp h3, (beq_iff_eq.mp h2).symm, ?_, fun j _ => ?_⟩
        · show (if a = X.2.2.2.2.2.2 100 then 0 else match (List.range 15).find? (fun i => X.2.2.2.2.2.2 i == a) with | some i => (st_tx i).length | none => 0) = _
          rw [if_neg h, hf]
        · show (match (List.range 15).find? (fun i => X.2.2.2.2.2.2 i == a) with | some i => nI ((st_tx i).getD j 0) | none => 0) = _
          rw [hf]
theorem st_0_HP {X : st_I} {A : Nat → Prop} {H : Heap} : st_HP X A (st_0 H.size X.2.2.2.2.2.2) H := by
  refine ⟨⟨[], fun a => ⟨fun h => absurd h List.not_mem_nil, fun h => ?_⟩, fun k q h => by simp [va_pl] at h, fun i j p q h => by simp [va_pl] at h, fun k q h => by simp [va_pl] at h⟩, rfl, st_0_C _⟩
  exfalso
  have h1 : st_K (st_0 H.size X.2.2.2.2.2.2) a = (if a = X.2.2.2.2.2.2 100 then 30 else if ((List.range 15).find? (fun i => X.2.2.2.2.2.2 i == a)).isSome then 31 else 0) := rfl
  rw [h1] at h
  split at h
  · omega
  · split at h <;> omega
theorem ar_known {args : Array Value} {s : State} {ty : FieldType} (hp : ∀ C, ty ≠ .object C) (h : (Cond.arrayClass ty).before args s = true) : ∃ cA : ClassId, ArrOfT s cA ty ∧ va_RA s cA ty := by
  obtain ⟨cA, kA, comp, h1, h2, h3⟩ := Cond.arrayClass_spec h
  refine ⟨cA, fun n z => ⟨fun k h => (by cases h), kA, h2, comp, h3⟩, ?_⟩
  cases ty <;> first | exact h1 | exact absurd rfl (hp _)
set_option maxRecDepth 100000 in
set_option maxRecDepth 100000 in
theorem st_known {args : Array Value} {s : State} (hts : ∀ w ∈ lw_tbl, w.before args s = true) (sa : Nat → Nat) : ∃ X : st_I, X.2.2.2.2.2.2 = sa ∧ st_KK X s := by
  have htg : ∀ w ∈ lw_g, w.before args s = true := fun w h => hts w (List.mem_filter.mp h).1
  obtain ⟨c0, i0, h0⟩ := u_known (C := RJx4a65c) (T := TJx4a65c) (N := 3) (n := 3) htg in_0 (hts (.instantiable RJx4a65c 3) (List.mem_of_getElem? (i := 112) rfl))
  obtain ⟨c1, i1, h1⟩ := u_known (C := RX0) (T := TX0) (N := 7) (n := 7) htg in_1 (hts (.instantiable RX0 7) (List.mem_of_getElem? (i := 246) rfl))
  obtain ⟨c2, i2, h2⟩ := u_known (C := RX1) (T := TX1) (N := 7) (n := 7) htg in_2 (hts (.instantiable RX1 7) (List.mem_of_getElem? (i := 346) rfl))
  obtain ⟨c3, i3, h3⟩ := u_known (C := RX2) (T := TX2) (N := 9) (n := 9) htg in_3 (hts (.instantiable RX2 9) (List.mem_of_getElem? (i := 457) rfl))
  obtain ⟨c4, i4, h4⟩ := u_known (C := RX3) (T := TX3) (N := 11) (n := 11) htg in_4 (hts (.instantiable RX3 11) (List.mem_of_getElem? (i := 183) rfl))
  obtain ⟨c5, i5, h5⟩ := u_known (C := RX4) (T := TX4) (N := 2) (n := 2) htg in_5 (hts (.instantiable RX4 2) (List.mem_of_getElem? (i := 166) rfl))
  obtain ⟨c6, i6, h6⟩ := u_known (C := RX5) (T := TX5) (N := 5) (n := 5) htg in_6 (hts (.instantiable RX5 5) (List.mem_of_getElem? (i := 138) rfl))
  obtain ⟨c7, i7, h7⟩ := u_known (C := RX6) (T := TX6) (N := 4) (n := 4) htg in_7 (hts (.instantiable RX6 4) (List.mem_of_getElem? (i := 189) rfl))
  obtain ⟨c8, i8, h8⟩ := u_known (C := RX7) (T := TX7) (N := 1) (n := 1) htg in_8 (hts (.instantiable RX7 1) (List.mem_of_getElem? (i := 101) rfl))
  obtain ⟨c9, i9, h9⟩ := u_known (C := RX8) (T := TX8) (N := 10) (n := 10) htg in_9 (hts (.instantiable RX8 10) (List.mem_of_getElem? (i := 93) rfl))
  obtain ⟨c10, i10, h10⟩ := u_known (C := RX9) (T := TX9) (N := 39) (n := 39) htg in_10 (hts (.instantiable RX9 39) (List.mem_of_getElem? (i := 963) rfl))
  obtain ⟨aI, aI1, aI2⟩ := ar_known (ty := .int) (fun _ h => by cases h) (hts _ (List.mem_of_getElem? (i := 110) rfl))
  obtain ⟨aJ, aJ1, aJ2⟩ := ar_known (ty := .long) (fun _ h => by cases h) (hts _ (List.mem_of_getElem? (i := 1100) rfl))
  obtain ⟨aC, aC1, aC2⟩ := ar_known (ty := .char) (fun _ h => by cases h) (hts _ (List.mem_of_getElem? (i := 181) rfl))
  obtain ⟨aZ, aZ1, aZ2⟩ := ar_known (ty := .boolean) (fun _ h => by cases h) (hts _ (List.mem_of_getElem? (i := 1101) rfl))
  obtain ⟨comp, aO, kO, g1, g2, g3, g4, g5⟩ := Cond.arrayOver_spec (hts (.arrayOver (.object "java/lang/Object")) (List.mem_of_getElem? (i := 435) rfl))
  refine ⟨((fun k => [c0, c1, c2, c3, c4, c5, c6, c7, c8, c9, c10].getD k c0, fun k => [i0, i1, i2, i3, i4, i5, i6, i7, i8, i9, i10].getD k i0), aI, aJ, aC, aZ, aO, sa), rfl, fun k q hq => ?_, fun k q hq => ?_⟩
  · match k, hq with
    | 0, hq => cases hq; exact h0
    | 1, hq => cases hq; exact h1
    | 2, hq => cases hq; exact h2
    | 3, hq => cases hq; exact h3
    | 4, hq => cases hq; exact h4
    | 5, hq => cases hq; exact h5
    | 6, hq => cases hq; exact h6
    | 7, hq => cases hq; exact h7
    | 8, hq => cases hq; exact h8
    | 9, hq => cases hq; exact h9
    | 10, hq => cases hq; exact h10
    | k + 11, hq => simp [vwCl] at hq
  · match k, hq with
    | 0, hq => cases hq; exact ⟨aI1, aI2⟩
    | 1, hq => cases hq; exact ⟨aJ1, aJ2⟩
    | 2, hq => cases hq; exact ⟨aC1, aC2⟩
    | 3, hq => cases hq; exact ⟨aZ1, aZ2⟩
    | 4, hq => cases hq; exact ⟨fun n z => ⟨fun k h => (by cases h), kO, g3, comp, g4⟩, kO, comp, g3, g4, g1, g5⟩
    | k + 5, hq => simp at hq
abbrev nw_f : List Cond := flatC (Jvm.Cond.and given_1 narrow_1)
abbrev nw_s (i : Nat) : Term := .string RX6 (64 + 2 * i)
theorem nw_1 : ∀ i, i < 15 → Cond.exactly (nw_s i) "java/lang/String" ∈ nw_f := by decide +kernel
theorem nw_2 : ∀ i, i < 15 → Cond.eq (.field (nw_s i) "java/lang/String" "coder" "B") (.int 0) ∈ nw_f := by decide +kernel
theorem nw_3 : ∀ i, i < 15 → Cond.arrayOf (.field (nw_s i) "java/lang/String" "value" "[B") .byte ∈ nw_f := by decide +kernel
theorem nw_4 : ∀ i, i < 15 → Cond.eq (.length (.field (nw_s i) "java/lang/String" "value" "[B")) (.int (Int32.ofNat (st_len.getD i 0))) ∈ nw_f := by decide +kernel
theorem nw_5 : ∀ i, i < 15 → ∀ j, j < st_len.getD i 0 → Cond.eq (.elem (.field (nw_s i) "java/lang/String" "value" "[B") (.int (Int32.ofNat j))) (.int ((st_byt.getD i []).getD j 0)) ∈ nw_f := by decide +kernel
theorem nw_6_0 : ∀ j, j < 15 → 0 < j → Cond.not (Cond.eq (nw_s 0) (nw_s j)) ∈ nw_f := by decide +kernel
theorem nw_6_1 : ∀ j, j < 15 → 1 < j → Cond.not (Cond.eq (nw_s 1) (nw_s j)) ∈ nw_f := by decide +kernel
theorem nw_6_2 : ∀ j, j < 15 → 2 < j → Cond.not (Cond.eq (nw_s 2) (nw_s j)) ∈ nw_f := by decide +kernel
theorem nw_6_3 : ∀ j, j < 15 → 3 < j → Cond.not (Cond.eq (nw_s 3) (nw_s j)) ∈ nw_f := by decide +kernel
theorem nw_6_4 : ∀ j, j < 15 → 4 < j → Cond.not (Cond.eq (nw_s 4) (nw_s j)) ∈ nw_f := by decide +kernel
theorem nw_6_5 : ∀ j, j < 15 → 5 < j → Cond.not (Cond.eq (nw_s 5) (nw_s j)) ∈ nw_f := by decide +kernel
theorem nw_6_6 : ∀ j, j < 15 → 6 < j → Cond.not (Cond.eq (nw_s 6) (nw_s j)) ∈ nw_f := by decide +kernel
theorem nw_6_7 : ∀ j, j < 15 → 7 < j → Cond.not (Cond.eq (nw_s 7) (nw_s j)) ∈ nw_f := by decide +kernel
theorem nw_6_8 : ∀ j, j < 15 → 8 < j → Cond.not (Cond.eq (nw_s 8) (nw_s j)) ∈ nw_f := by decide +kernel
theorem nw_6_9 : ∀ j, j < 15 → 9 < j → Cond.not (Cond.eq (nw_s 9) (nw_s j)) ∈ nw_f := by decide +kernel
theorem nw_6_10 : ∀ j, j < 15 → 10 < j → Cond.not (Cond.eq (nw_s 10) (nw_s j)) ∈ nw_f := by decide +kernel
theorem nw_6_11 : ∀ j, j < 15 → 11 < j → Cond.not (Cond.eq (nw_s 11) (nw_s j)) ∈ nw_f := by decide +kernel
theorem nw_6_12 : ∀ j, j < 15 → 12 < j → Cond.not (Cond.eq (nw_s 12) (nw_s j)) ∈ nw_f := by decide +kernel
theorem nw_6_13 : ∀ j, j < 15 → 13 < j → Cond.not (Cond.eq (nw_s 13) (nw_s j)) ∈ nw_f := by decide +kernel
theorem nw_6 : ∀ i j, i < 15 → j < 15 → i < j → Cond.not (Cond.eq (nw_s i) (nw_s j)) ∈ nw_f := by
  intro i j hi hj hij
  match i, hi, hij with
  | 0, _, hij => exact nw_6_0 j hj hij
  | 1, _, hij => exact nw_6_1 j hj hij
  | 2, _, hij => exact nw_6_2 j hj hij
  | 3, _, hij => exact nw_6_3 j hj hij
  | 4, _, hij => exact nw_6_4 j hj hij
  | 5, _, hij => exact nw_6_5 j hj hij
  | 6, _, hij => exact nw_6_6 j hj hij
  | 7, _, hij => exact nw_6_7 j hj hij
  | 8, _, hij => exact nw_6_8 j hj hij
  | 9, _, hij => exact nw_6_9 j hj hij
  | 10, _, hij => exact nw_6_10 j hj hij
  | 11, _, hij => exact nw_6_11 j hj hij
  | 12, _, hij => exact nw_6_12 j hj hij
  | 13, _, hij => exact nw_6_13 j hj hij
  | i + 14, hi, hij => omega
abbrev nw_t : Term := .static "java/util/ArrayList" "DEFAULTCAPACITY_EMPTY_ELEMENTDATA" "[Ljava/lang/Object;"
theorem nw_7 : Cond.arrayOf nw_t (.object "java/lang/Object") ∈ nw_f ∧ Cond.exactly nw_t "[Ljava/lang/Object;" ∈ nw_f ∧ Cond.eq (.length nw_t) (.int 0) ∈ nw_f ∧ Cond.eq (.static "java/lang/String" "COMPACT_STRINGS" "Z") (.int 1) ∈ nw_f ∧ Cond.isRef (.static "jdk/internal/util/Preconditions" "SIOOBE_FORMATTER" "Ljava/util/function/BiFunction;") ∈ nw_f ∧ Cond.isRef (.static Bundle.tN "UNASSIGNED_STACK" Bundle.steD) ∈ nw_f ∧ Cond.isRef (.static Bundle.tN "SUPPRESSED_SENTINEL" Bundle.listD) ∈ nw_f ∧ Cond.isRef (.mirror "[Ljava/lang/Object;") ∈ nw_f := by decide +kernel
theorem nw_8 : ∀ i, i < 15 → Cond.stringRef RX6 (64 + 2 * i) (st_txs.getD i "") ∈ lw_tbl := by decide +kernel
theorem nw_9 : ∀ q ∈ st_mx, Cond.stringRef RX8 q.1 q.2 ∈ lw_tbl ∧ Cond.exactly (.string RX8 q.1) "java/lang/String" ∈ nw_f := by decide +kernel
theorem nw_10 : ∀ i, i < 15 → st_len.getD i 0 < 2 ^ 31 := by decide +kernel
set_option maxRecDepth 100000 in
/-- the start: the classes' numbers, the constants, the state of the constants alone -/
theorem st_start {s : State} {args : Array Value} (hts : ∀ w ∈ lw_tbl, w.before args s = true) (hgv : (Jvm.Cond.and given_1 narrow_1).before args s = true) : ∃ X : st_I, st_KK X s ∧ st_RO X (fun q => s.heap.size ≤ q) s ∧ (∀ i j, i < 15 → j < 15 → X.2.2.2.2.2.2 i = X.2.2.2.2.2.2 j → i = j) ∧ (∀ i, i < 15 → X.2.2.2.2.2.2 i ≠ X.2.2.2.2.2.2 100) ∧ (∀ i, i < 15 → X.2.2.2.2.2.2 i < s.heap.size) ∧ X.2.2.2.2.2.2 100 < s.heap.size := by
  have hf := flat_of_before _ hgv
  have hA : ∀ a : Nat, a < s.heap.size → ¬ (fun q : Nat => s.heap.size ≤ q) a := fun a h => Nat.not_le.mpr h
  obtain ⟨n1, n2, n3, n4, n5, n6, n7, n8⟩ := nw_7
  obtain ⟨adK, adV, hS, hev⟩ := vk_Sof (N := 15) (tm := nw_s) (len := st_len) (byt := st_byt) (A := fun q => s.heap.size ≤ q) nw_10 (fun i hi => hf _ (nw_1 i hi)) (fun i hi => hf _ (nw_2 i hi)) (fun i hi => hf _ (nw_3 i hi)) (fun i hi => hf _ (nw_4 i hi)) (fun i hi j hj => hf _ (nw_5 i hi j hj)) (fun i j hi hj hne => if h : i < j then Or.inl (hf _ (nw_6 i j hi hj h)) else Or.inr (hf _ (nw_6 j i hj hi (by omega)))) hA
  obtain ⟨t, ht, hT⟩ := va_Tof (N := 0) (f := fun _ => .null) (A := fun q => s.heap.size ≤ q) (by decide) (hf _ n1) (va_eqt (hf _ n3)) (fun j hj => absurd hj (Nat.not_lt_zero j)) hA
  obtain ⟨mi, hmi⟩ := va_Mi.of (hf _ n8)
  obtain ⟨X, hX, hK⟩ := st_known hts (fun i => if i = 100 then t else if i = 101 then mi else if 200 ≤ i then adV (i - 200) else adK i)
  have e100 : X.2.2.2.2.2.2 100 = t := by rw [hX]; rfl
  have e101 : X.2.2.2.2.2.2 101 = mi := by rw [hX]; rfl
  have eK : ∀ i, i < 15 → X.2.2.2.2.2.2 i = adK i := fun i hi => by rw [hX]; simp only []; rw [if_neg (by omega), if_neg (by omega), if_neg (by omega)]
  have eV : ∀ i, X.2.2.2.2.2.2 (200 + i) = adV i := fun i => by rw [hX]; simp only []; rw [if_neg (by omega), if_neg (by omega), if_pos (by omega), show 200 + i - 200 = i by omega]
  have hSX : vk_S 15 st_len st_byt X.2.2.2.2.2.2 (fun i => X.2.2.2.2.2.2 (200 + i)) (fun q => s.heap.size ≤ q) s s.heap := by
    refine ⟨fun i hi => ?_, fun i j hi hj h => hS.2 i j hi hj (by rw [← eK i hi, ← eK j hj]; exact h)⟩
    have h1 := hS.1 i hi
    simp only [eK i hi, eV i]
    exact h1
  refine ⟨X, hK, ⟨fun w hw hn => ?_, va_AO.of (hts _ (List.mem_of_getElem? (i := 435) rfl)), by rw [e101]; exact hmi, by rw [e100]; exact va_Zof (hts _ (List.mem_of_getElem? (i := 124) rfl)) (hts _ (List.mem_of_getElem? (i := 69) rfl)) ht hA, by rw [e100]; exact hT, hSX, fun i hi => ?_, va_Zof (hts _ (List.mem_of_getElem? (i := 595) rfl)) (hts _ (List.mem_of_getElem? (i := 84) rfl)) (va_eqi (hf _ n4)) hA, va_Zqof (hts _ (List.mem_of_getElem? (i := 611) rfl)) (hts _ (List.mem_of_getElem? (i := 77) rfl)) (hf _ n5) hA, vx_Zqof (hts _ (List.mem_of_getElem? (i := 902) rfl)) (hts _ (List.mem_of_getElem? (i := 88) rfl)) (hf _ n6) hA, vx_Zqof (hts _ (List.mem_of_getElem? (i := 904) rfl)) (hts _ (List.mem_of_getElem? (i := 88) rfl)) (hf _ n7) hA, fun q hq => ?_⟩, fun i j hi hj h => hSX.2 i j hi hj h, fun i hi h => ?_, fun i hi => ?_, ?_⟩
  · have h1 := hts w hw
    cases w <;> first | (exact va_Nw.of rfl h1) | (simp [st_wr] at hn)
  · rw [eK i hi]
    have h1 := hev i hi
    exact vk_R.of (A := args) (hts _ (nw_8 i hi)) h1
  · obtain ⟨h1, h2⟩ := nw_9 q hq
    obtain ⟨a, c, cell, k, h3, -⟩ := Cond.exactly_spec (hf _ h2)
    exact ⟨a, vk_R.of (A := args) (hts _ h1) h3⟩
  · obtain ⟨a, c, cell, k, h3, h4, h5, h6, -, h7, -⟩ := Cond.exactly_spec (hf _ n2)
    obtain ⟨a2, c2, cell2, k2, g3, g4, g5, g6, -, g7, -⟩ := Cond.exactly_spec (hf _ (nw_1 i hi))
    cases ht.symm.trans h3
    cases (hev i hi).symm.trans g3
    rw [eK i hi, e100] at h
    rw [h] at g5
    cases h5.symm.trans g5
    rw [h7] at g7
    obtain ⟨kk1, q1, q2⟩ := Vm.findClass_spec h4
    obtain ⟨kk2, q3, q4⟩ := Vm.findClass_spec g4
    rw [← g7] at q3
    cases q1.symm.trans q3
    rw [q2] at q4
    exact absurd q4 (by decide)
  · obtain ⟨cell, h1, -⟩ := (hSX.1 i hi).1
    exact (Array.getElem?_eq_some_iff.mp h1).1
  · obtain ⟨cell, h1, -⟩ := hT
    rw [e100]
    exact (Array.getElem?_eq_some_iff.mp h1).1
