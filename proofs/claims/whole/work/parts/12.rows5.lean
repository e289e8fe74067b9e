/-- every element of a stretch of a row of references is null or an object of the state -/
def el_ok (S : st_T) (o : Option Nat) : Bool := match o with
  | none => true
  | some y => decide (st_K S y ≠ 0 ∧ st_K S y < 12)
def el_all (S : st_T) (a sp n : Nat) : Bool := (List.range n).all fun i => el_ok S (st_ro S a (sp + i))
theorem el_at {S : st_T} {a sp n i y : Nat} (h : el_all S a sp n = true) (hi : i < n) (hy : st_ro S a (sp + i) = some y) : st_K S y ≠ 0 ∧ st_K S y < 12 := by
  have h1 := List.all_eq_true.mp h i (List.mem_range.mpr hi)
  rw [hy] at h1
  exact of_decide_eq_true h1
section RW5
variable {p : Program} {l : Launch} {e : Env} {R : Room} {s : State} {m : MethodId} {args : Array Value} {below : List Frame} {meth : Method} {c : Code} {H : Heap} {locs : List Loc} {cells slots : Nat} {Q : State → Prop}
variable {cc : ByteArray} {pc : Nat} {ls : Array Slot} {rest : List Value} {X : st_I} {S S' : st_T} {A : Nat → Prop} {a : Nat}
theorem rw_nn (z : Int32) (hz : ¬ z < 0) : z.toInt = (z.toNatClampNeg : Int) := by
  have hz0 : (0 : Int) ≤ z.toInt := by
    have := Int32.not_lt.mp hz
    simpa using Int32.le_iff_toInt_le.mp this
  show z.toInt = ((z.toInt.toNat : Nat) : Int)
  omega
/-- the worlds behind a copy into the cell a -/
theorem st_setC {T : State} {vm' : Vm} {q1 : Nat} {L : List Nat} {e1 : va_E} {cell : Cell} {Lc : List Loc} (hT : T.heap = H) (h1 : ∀ a, a ∈ L ↔ (st_K S a ≠ 0 ∧ st_K S a < 30)) (h2 : va_P X.1 vwCl (va_pl L (st_E X S)) H) (h3 : va_D A (va_pl L (st_E X S))) (ha : a ∈ L) (hq : (va_pl L (st_E X S))[q1]? = some (a, st_E X S a)) (hS : va_S A s.heap H locs) (hLc : ∀ z ∈ Lc, z.base = a) (hz : H.size = st_nx S)
    (hat : ∀ H1 : Heap, H1[a]? = some cell → va_at X.1 vwCl (a, e1) H1) (he : ∀ b, st_E X S' b = va_up (st_E X S) a e1 b) (hK : st_K S' = st_K S) (hnx : st_nx S' = st_nx S) (hC : st_C X S') :
    st_HP X A S' ((T.setVm vm').setCell a cell).heap ∧ va_S A s.heap ((T.setVm vm').setCell a cell).heap (locs ++ Lc) := by
  have hheap : ((T.setVm vm').setCell a cell).heap = H.setIfInBounds a cell := by rw [← hT]; rfl
  rw [hheap]
  have hl : a < H.size := va_pl_lt (X := []) h2 ha
  have oq : ∀ q : Nat, q ≠ a → (H.setIfInBounds a cell)[q]? = H[q]? := fun q hq => by simp [Array.getElem?_setIfInBounds, Ne.symm hq]
  have es : (H.setIfInBounds a cell)[a]? = some cell := by simp [Array.getElem?_setIfInBounds, hl]
  refine ⟨st_set h1 h3 ha hq (h2.set h3 hq (hat _ es) oq) (h3.set hq) he hK (by rw [Array.size_setIfInBounds, hnx]; exact hz) hC, by rw [Array.size_setIfInBounds]; exact hS.1, fun q g1 g2 => ?_, fun q hq' => ?_⟩
  · rw [oq q (fun e => g2 (by rw [e]; exact h3.2 q1 _ hq))]
    exact hS.2.1 q g1 g2
  · rcases List.mem_append.mp hq' with h | h
    · exact hS.2.2 q h
    · rw [hLc q h]
      exact h3.2 q1 _ hq
theorem r_copyq {own : String} {index a0 : Nat} {sp dp n : Int32} (hx : p.tables.exec = Jvm.exec) (hb : c.code = cc) (hml : c.maxLocals = ls.size) (hown : s.vm.findClass own = some m.cls) (hlink : (Cond.methodLink own index arraycopyName).before args s = true) (hnat : (Cond.native arraycopyName).before args s = true) (hstat : (Cond.static arraycopyName).before args s = true) (hini : (Cond.initialized "java/lang/System").before args s = true)
    (hK : st_KK X s) (hRO : st_RO X A s) (hP : st_HP X A S H) (hS : va_S A s.heap H locs) (hk0 : st_K S a0 = 24) (hk1 : st_K S a = 24)
    (hr : ¬ sp < 0 ∧ ¬ dp < 0 ∧ ¬ n < 0 ∧ sp.toNatClampNeg + n.toNatClampNeg ≤ st_ln S a0 ∧ dp.toNatClampNeg + n.toNatClampNeg ≤ st_ln S a ∧ el_all S a0 sp.toNatClampNeg n.toNatClampNeg = true)
    (hframes : 1 ≤ R.frames) (hlocals : (rest.map fun v => v.category).sum + (nativeFrameWords "java/lang/System" "arraycopy" 5 + 11) ≤ R.locals) (hdg : decode cc pc = .ok (.invokestatic index, 3))
    (kk : ∀ (H1 : Heap) (locs1 : List Loc), st_HP X A (st_xo S a (va_cpy (st_ro S a0) (st_ro S a) sp.toNatClampNeg dp.toNatClampNeg n.toNatClampNeg)) H1 → va_S A s.heap H1 locs1 → W p l e R s m args below meth c H1 locs1 cells slots Q (F0 m (pc + 3) ls rest)) : W p l e R s m args below meth c H locs cells slots Q (F0 m pc ls (.int n :: .int dp :: .ref a :: .int sp :: .ref a0 :: rest)) := by
  obtain ⟨h1, h2, h3, h4, h5, hel⟩ := hr
  obtain ⟨L, q1, g1, g2, g3, ga, gq⟩ := st_at hP (a := a) (by rw [hk1]; omega)
  obtain ⟨L0, q0, f1, f2, f3, fa, fq⟩ := st_at hP (a := a0) (by rw [hk0]; omega)
  have gq' := gq
  rw [st_E_q hk1] at gq'
  rw [st_E_q hk0] at fq
  intro T hT X9
  have hc0 : H[a0]? = some (vp_cell X.2.2.2.2.2.1 (st_ln S a0, .inr (.inr (.inr (.inr (st_ro S a0)))))) := f2 q0 _ fq
  have hc1 : H[a]? = some (vp_cell X.2.2.2.2.2.1 (st_ln S a, .inr (.inr (.inr (.inr (st_ro S a)))))) := g2 q1 _ gq'
  obtain ⟨-, k0, hk0', cm0, hkk0⟩ := (hK.2 4 _ rfl).1 (st_ln S a0) (fun j => va_rf (st_ro S a0 j))
  obtain ⟨vm', X', step⟩ := X9.arraycopy hx hown hlink hnat hstat hini (src := a0) (dst := a) (cs := vp_cell X.2.2.2.2.2.1 (st_ln S a0, .inr (.inr (.inr (.inr (st_ro S a0)))))) (cd := vp_cell X.2.2.2.2.2.1 (st_ln S a, .inr (.inr (.inr (.inr (st_ro S a)))))) (srcPos := sp) (destPos := dp) (n := n) (by rw [hT]; exact hc0) (by rw [hT]; exact hc1)
    (fun _ h => by cases h) (fun _ h => by cases h) (fun h => by cases h) (fun h => by cases h) hk0' hk0' hkk0 hkk0 rfl h1 h2 h3
    (by rw [rw_nn sp h1, rw_nn n h3]; show ¬ _ > ((arrV _ _ (fun j => va_rf (st_ro S a0 j))).slots.size : Int); rw [arrV_size]; omega)
    (by rw [rw_nn dp h2, rw_nn n h3]; show ¬ _ > ((arrV _ _ (fun j => va_rf (st_ro S a j))).slots.size : Int); rw [arrV_size]; omega)
    (fun vm₁ hal i hi => by
      have e : (vp_cell X.2.2.2.2.2.1 (st_ln S a0, .inr (.inr (.inr (.inr (st_ro S a0)))))).slots.getD (sp.toNatClampNeg + i) .null = va_rf (st_ro S a0 (sp.toNatClampNeg + i)) := by
        show (arrV _ _ (fun j => va_rf (st_ro S a0 j))).slots.getD _ _ = _
        rw [Array.getD_eq_getD_getElem?, arrV_read _ _ (by omega)]
        rfl
      rw [e]
      cases hy : st_ro S a0 (sp.toNatClampNeg + i) with
      | none => exact ⟨rfl, trivial⟩
      | some y =>
        obtain ⟨cellV, b1, b2, ⟨kC, hkC⟩, hasg⟩ := st_any hK hRO hP (el_at hel hi hy)
        obtain ⟨kA, comp, r1, r2, r3, -⟩ := (hK.2 4 _ rfl).2
        cases hk0'.symm.trans r1
        cases hkk0.symm.trans r2
        obtain ⟨kE, hkE, -⟩ := Vm.findClass_spec r3
        obtain ⟨kC', hkC', -⟩ := hal.2.2 _ _ hkC
        obtain ⟨kE', hkE', -⟩ := hal.2.2 _ _ hkE
        refine ⟨rfl, cellV, (show T.heap[y]? = some cellV by rw [hT]; exact b1), (fun q h => by rw [h] at b2; cases b2), ⟨kC', hkC'⟩, ?_, ?_⟩
        · exact ⟨kE', hkE'⟩
        · show vm₁.assignable _ _ = true
          rw [hal.assignable]
          exact hasg _ r3)
    (g := F0 m pc ls (.int n :: .int dp :: .ref a :: .int sp :: .ref a0 :: rest)) rfl (by rw [hml]) (rest := rest) rfl (by rw [hb]; exact hdg) hframes (by show 2 * 0 + _ + _ ≤ _; omega)
  have e1 : copied (vp_cell X.2.2.2.2.2.1 (st_ln S a0, .inr (.inr (.inr (.inr (st_ro S a0)))))) (vp_cell X.2.2.2.2.2.1 (st_ln S a, .inr (.inr (.inr (.inr (st_ro S a)))))) sp dp n = vp_cell X.2.2.2.2.2.1 (st_ln S a, .inr (.inr (.inr (.inr (va_cpy (st_ro S a0) (st_ro S a) sp.toNatClampNeg dp.toNatClampNeg n.toNatClampNeg))))) := by
    rw [vp_cell_q, vp_cell_q, vp_cell_q]
    exact va_copied (fun z => va_rf z) _ _ _ _ h4
  rw [e1] at X' step
  obtain ⟨Lc, hLc, X'⟩ : ∃ Lc, (∀ z ∈ Lc, z.base = a) ∧ Stand p l e R s m args below meth c ((T.setVm vm').setCell a (vp_cell X.2.2.2.2.2.1 (st_ln S a, .inr (.inr (.inr (.inr (va_cpy (st_ro S a0) (st_ro S a) sp.toNatClampNeg dp.toNatClampNeg n.toNatClampNeg))))))) (locs ++ Lc) cells slots := ⟨_, fun z hz => by obtain ⟨y, -, hy⟩ := List.mem_map.mp hz; rw [← hy], X'⟩
  obtain ⟨w1, w2⟩ := st_setC (e1 := .inl (X.2.2.2.2.2.1, st_ln S a, .inr (.inr (.inr (.inr (va_cpy (st_ro S a0) (st_ro S a) sp.toNatClampNeg dp.toNatClampNeg n.toNatClampNeg)))))) (cell := vp_cell X.2.2.2.2.2.1 (st_ln S a, .inr (.inr (.inr (.inr (va_cpy (st_ro S a0) (st_ro S a) sp.toNatClampNeg dp.toNatClampNeg n.toNatClampNeg)))))) (Lc := Lc) (S' := st_xo S a (va_cpy (st_ro S a0) (st_ro S a) sp.toNatClampNeg dp.toNatClampNeg n.toNatClampNeg)) (vm' := vm') hT g1 g2 g3 ga gq hS hLc hP.2.1 (fun H1 h => h) (st_E_xo hk1 _) rfl rfl hP.2.2
  obtain ⟨t, b1, b2⟩ := kk _ _ w1 w2 _ rfl X'
  exact ⟨t, step t b1, b2⟩
theorem r_copyi {own : String} {index a0 : Nat} {sp dp n : Int32} (hx : p.tables.exec = Jvm.exec) (hb : c.code = cc) (hml : c.maxLocals = ls.size) (hown : s.vm.findClass own = some m.cls) (hlink : (Cond.methodLink own index arraycopyName).before args s = true) (hnat : (Cond.native arraycopyName).before args s = true) (hstat : (Cond.static arraycopyName).before args s = true) (hini : (Cond.initialized "java/lang/System").before args s = true)
    (hK : st_KK X s) (hP : st_HP X A S H) (hS : va_S A s.heap H locs) (hk0 : st_K S a0 = 20) (hk1 : st_K S a = 20)
    (hr : ¬ sp < 0 ∧ ¬ dp < 0 ∧ ¬ n < 0 ∧ sp.toNatClampNeg + n.toNatClampNeg ≤ st_ln S a0 ∧ dp.toNatClampNeg + n.toNatClampNeg ≤ st_ln S a)
    (hframes : 1 ≤ R.frames) (hlocals : (rest.map fun v => v.category).sum + (nativeFrameWords "java/lang/System" "arraycopy" 5 + 11) ≤ R.locals) (hdg : decode cc pc = .ok (.invokestatic index, 3))
    (kk : ∀ (H1 : Heap) (locs1 : List Loc), st_HP X A (st_xi S a (va_cpy (st_ri S a0) (st_ri S a) sp.toNatClampNeg dp.toNatClampNeg n.toNatClampNeg)) H1 → va_S A s.heap H1 locs1 → W p l e R s m args below meth c H1 locs1 cells slots Q (F0 m (pc + 3) ls rest)) : W p l e R s m args below meth c H locs cells slots Q (F0 m pc ls (.int n :: .int dp :: .ref a :: .int sp :: .ref a0 :: rest)) := by
  obtain ⟨h1, h2, h3, h4, h5⟩ := hr
  obtain ⟨L, q1, g1, g2, g3, ga, gq⟩ := st_at hP (a := a) (by rw [hk1]; omega)
  obtain ⟨L0, q0, f1, f2, f3, fa, fq⟩ := st_at hP (a := a0) (by rw [hk0]; omega)
  have gq' := gq
  rw [st_E_i hk1] at gq'
  rw [st_E_i hk0] at fq
  intro T hT X9
  have hc0 : H[a0]? = some (vp_cell X.2.1 (st_ln S a0, .inl (st_ri S a0))) := f2 q0 _ fq
  have hc1 : H[a]? = some (vp_cell X.2.1 (st_ln S a, .inl (st_ri S a))) := g2 q1 _ gq'
  obtain ⟨-, k0, hk0', cm0, hkk0⟩ := (hK.2 0 _ rfl).1 (st_ln S a0) (fun j => .int (st_ri S a0 j))
  obtain ⟨vm', X', step⟩ := X9.arraycopy hx hown hlink hnat hstat hini (src := a0) (dst := a) (cs := vp_cell X.2.1 (st_ln S a0, .inl (st_ri S a0))) (cd := vp_cell X.2.1 (st_ln S a, .inl (st_ri S a))) (srcPos := sp) (destPos := dp) (n := n) (by rw [hT]; exact hc0) (by rw [hT]; exact hc1)
    (fun _ h => by cases h) (fun _ h => by cases h) (fun h => by cases h) (fun h => by cases h) hk0' hk0' hkk0 hkk0 (by simp [show refKind FieldType.int = false from rfl]) h1 h2 h3
    (by rw [rw_nn sp h1, rw_nn n h3]; show ¬ _ > ((arrV _ _ (fun j => .int (st_ri S a0 j))).slots.size : Int); rw [arrV_size]; omega)
    (by rw [rw_nn dp h2, rw_nn n h3]; show ¬ _ > ((arrV _ _ (fun j => .int (st_ri S a j))).slots.size : Int); rw [arrV_size]; omega)
    (fun vm₁ _ i hi => by
      have e : (vp_cell X.2.1 (st_ln S a0, .inl (st_ri S a0))).slots.getD (sp.toNatClampNeg + i) .null = .int (st_ri S a0 (sp.toNatClampNeg + i)) := by
        show (arrV _ _ (fun j => .int (st_ri S a0 j))).slots.getD _ _ = _
        rw [Array.getD_eq_getD_getElem?, arrV_read _ _ (by omega)]
        rfl
      refine ⟨?_, ?_⟩
      · rw [e]
        rfl
      · rw [e]
        exact trivial)
    (g := F0 m pc ls (.int n :: .int dp :: .ref a :: .int sp :: .ref a0 :: rest)) rfl (by rw [hml]) (rest := rest) rfl (by rw [hb]; exact hdg) hframes (by show 2 * 0 + _ + _ ≤ _; omega)
  have e1 : copied (vp_cell X.2.1 (st_ln S a0, .inl (st_ri S a0))) (vp_cell X.2.1 (st_ln S a, .inl (st_ri S a))) sp dp n = vp_cell X.2.1 (st_ln S a, .inl (va_cpy (st_ri S a0) (st_ri S a) sp.toNatClampNeg dp.toNatClampNeg n.toNatClampNeg)) := va_copied (fun z => .int z) _ _ _ _ h4
  rw [e1] at X' step
  obtain ⟨Lc, hLc, X'⟩ : ∃ Lc, (∀ z ∈ Lc, z.base = a) ∧ Stand p l e R s m args below meth c ((T.setVm vm').setCell a (vp_cell X.2.1 (st_ln S a, .inl (va_cpy (st_ri S a0) (st_ri S a) sp.toNatClampNeg dp.toNatClampNeg n.toNatClampNeg)))) (locs ++ Lc) cells slots := ⟨_, fun z hz => by obtain ⟨y, -, hy⟩ := List.mem_map.mp hz; rw [← hy], X'⟩
  obtain ⟨w1, w2⟩ := st_setC (e1 := .inl (X.2.1, st_ln S a, .inl (va_cpy (st_ri S a0) (st_ri S a) sp.toNatClampNeg dp.toNatClampNeg n.toNatClampNeg))) (cell := vp_cell X.2.1 (st_ln S a, .inl (va_cpy (st_ri S a0) (st_ri S a) sp.toNatClampNeg dp.toNatClampNeg n.toNatClampNeg))) (Lc := Lc) (S' := st_xi S a (va_cpy (st_ri S a0) (st_ri S a) sp.toNatClampNeg dp.toNatClampNeg n.toNatClampNeg)) (vm' := vm') hT g1 g2 g3 ga gq hS hLc hP.2.1 (fun H1 h => h) (st_E_xi (Or.inl hk1) _ (st_E_i hk1)) rfl rfl (st_C_xi hP.2.2 (by rw [hk1]; decide))
  obtain ⟨t, b1, b2⟩ := kk _ _ w1 w2 _ rfl X'
  exact ⟨t, step t b1, b2⟩
/-- a copy of a row of ints, by clone -/
theorem r_clone {own : String} {index B q : Nat} (hx : p.tables.exec = Jvm.exec) (hb : c.code = cc) (hml : c.maxLocals = ls.size) (hown : s.vm.findClass own = some m.cls)
    (hlink : (Cond.methodLink own index ⟨"[I", "clone", "()Ljava/lang/Object;"⟩).before args s = true) (hsame : (Cond.sameMethod "[I" "java/lang/Object" "clone" "()Ljava/lang/Object;").before args s = true)
    (hnat : (Cond.native ⟨"java/lang/Object", "clone", "()Ljava/lang/Object;"⟩).before args s = true) (hinst : (Cond.instanceMethod ⟨"java/lang/Object", "clone", "()Ljava/lang/Object;"⟩).before args s = true)
    (hsel : (Cond.selects "[I" ⟨"[I", "clone", "()Ljava/lang/Object;"⟩ ⟨"java/lang/Object", "clone", "()Ljava/lang/Object;"⟩).before args s = true) (hcl : Cond.castable "[I" "java/lang/Cloneable" ∈ lw_tbl)
    (hK : st_KK X s) (hRO : st_RO X A s) (hA : ∀ q, s.heap.size ≤ q → A q) (hP : st_HP X A S H) (hS : va_S A s.heap H locs) (hka : st_K S a = 20) (hB : st_ln S a ≤ B) (hq : q = st_nx S) (hS' : S' = st_xi (st_na S 20 (st_ln S a)) (st_nx S) (st_ri S a))
    (hframes : 1 ≤ R.frames) (hlocals : (rest.map fun v => v.category).sum + 14 ≤ R.locals) (hcells : cells + 1 ≤ R.cells) (hslots : slots + B ≤ R.slots) (hdg : decode cc pc = .ok (.invokevirtual index, 3))
    (kk : ∀ (H1 : Heap), st_HP X A S' H1 → va_S A s.heap H1 locs → W p l e R s m args below meth c H1 locs (cells + 1) (slots + B) Q (F0 m (pc + 3) ls (.ref q :: rest))) : W p l e R s m args below meth c H locs cells slots Q (F0 m pc ls (.ref a :: rest)) := by
  subst hq
  obtain ⟨L, q1, g1, g2, g3, ga, gq⟩ := st_at hP (a := a) (by rw [hka]; omega)
  rw [st_E_i hka] at gq
  have hnm : s.vm.findClass "[I" = some X.2.1 := (hK.2 0 _ rfl).2
  have hsz : (vp_cell X.2.1 (st_ln S a, .inl (st_ri S a))).slots.size = st_ln S a := arrV_size _ _ _
  obtain ⟨c0, t0', f1, f2, f3⟩ := Cond.castable_spec (va_Nw.use (A := args) rfl (hRO.1 _ hcl rfl))
  cases hnm.symm.trans f1
  intro T hT X9
  have hcellT : T.heap[a]? = some (vp_cell X.2.1 (st_ln S a, .inl (st_ri S a))) := by rw [hT]; exact g2 q1 _ gq
  obtain ⟨-, kA, hkA, comp, hkind⟩ := State.isArrayOf_alike X9.warmed.alike ((hK.2 0 _ rfl).1 0 (fun _ => .null))
  obtain ⟨-, kS, hkS, compS, hkindS⟩ := (hK.2 0 _ rfl).1 0 (fun _ => .null)
  obtain ⟨vm', X', st⟩ := X9.cloneArray hx hown hlink hsame hnat hinst hsel (a := a) (cell := vp_cell X.2.1 (st_ln S a, .inl (st_ri S a))) hcellT (fun k h => by cases h) (fun h => by cases h) hnm f2 f3
    (fun i v hv => by
      have hk' : T.vm.classes[X.2.1]? = some kA := hkA
      have hi : i < st_ln S a := by
        have := (Array.getElem?_eq_some_iff.mp hv).1
        rw [hsz] at this
        exact this
      have h9 : (vp_cell X.2.1 (st_ln S a, .inl (st_ri S a))).slots[i]? = some (.int (st_ri S a i)) := arrV_read _ _ hi
      rw [h9] at hv
      cases hv
      have : fits FieldType.int (.int (st_ri S a i)) = true := rfl
      rw [show (vp_cell X.2.1 (st_ln S a, .inl (st_ri S a))).cls = X.2.1 from rfl]
      simpa [State.fitsSlot, State.slotType?, hk', hkind] using this)
    (g := F0 m pc ls (.ref a :: rest)) rfl (by rw [hml]) rfl (by rw [hb]; exact hdg) hframes (by show 2 * 0 + _ + 14 ≤ _; omega) hcells (by rw [hsz]; omega) (hloader := Vm.clonesLoader_of_array hkS hkindS)
  rw [hsz] at X'
  have hsN : st_nx S = H.size := hP.2.1.symm
  have hH : ((T.setVm vm').pushCell (vp_cell X.2.1 (st_ln S a, .inl (st_ri S a)))).heap = H.push (vp_cell X.2.1 (st_ln S a, .inl (st_ri S a))) := by rw [← hT]; rfl
  have z1 : (H.push (vp_cell X.2.1 (st_ln S a, .inl (st_ri S a)))).size = H.size + 1 := Array.size_push ..
  have o1 : ∀ q : Nat, q < H.size → (H.push (vp_cell X.2.1 (st_ln S a, .inl (st_ri S a))))[q]? = H[q]? := fun q hq => by rw [Array.getElem?_push, if_neg (Nat.ne_of_lt hq)]
  have e9 : (H.push (vp_cell X.2.1 (st_ln S a, .inl (st_ri S a))))[H.size]? = some (vp_cell X.2.1 (st_ln S a, .inl (st_ri S a))) := Array.getElem?_push_size
  have hKn1 : st_K S' (st_nx S) = 20 := by rw [hS']; exact va_up_self _ _ _
  have hKo : ∀ b, b ≠ st_nx S → st_K S' b = st_K S b := fun b h => by rw [hS']; exact va_up_ne _ _ h
  have hLn : ∀ b, b ≠ st_nx S → st_ln S' b = st_ln S b := fun b h => by rw [hS']; exact va_up_ne _ _ h
  have hRi : ∀ b, b ≠ st_nx S → st_ri S' b = st_ri S b := fun b h => by rw [hS']; exact (va_up_ne _ _ h).trans (va_up_ne _ _ h)
  have hEo : ∀ b, b ≠ st_nx S → st_E X S' b = st_E X S b := fun b h => by
    have e1 : st_E X S' b = st_E X (st_na S 20 (st_ln S a)) b := by
      rw [hS']
      unfold st_E
      rw [show st_ri (st_xi (st_na S 20 (st_ln S a)) (st_nx S) (st_ri S a)) b = st_ri (st_na S 20 (st_ln S a)) b from va_up_ne _ _ h]
      rfl
    rw [e1, st_E_na h]
  have hP1 : st_HP X A S' (H.push (vp_cell X.2.1 (st_ln S a, .inl (st_ri S a)))) := by
    refine st_push hP (hA _ (by rw [hsN]; exact hS.1)) z1 o1 ?_ hEo hKo (by rw [hKn1]; omega) (by rw [hS']; rfl) (st_C_new hP.2.2 (by rw [hS']; rfl) hKo (by rw [hKn1]; omega) hLn hRi)
    rw [st_E_i hKn1, show st_ln S' (st_nx S) = st_ln S a by rw [hS']; exact va_up_self _ _ _, show st_ri S' (st_nx S) = st_ri S a by rw [hS']; exact va_up_self _ _ _, hsN]
    exact e9
  have k2 := W.widen (k := cells + 1) (n := slots + B) (Nat.le_refl _) (show slots + st_ln S a ≤ slots + B by omega) (kk _ hP1 (st_S_push hS z1 o1))
  obtain ⟨t, b1, b2⟩ := k2 _ hH X'
  refine ⟨t, st t ?_, b2⟩
  rw [hT, ← hsN]
  exact b1
theorem r_castI {own : String} {index : Nat} (hx : p.tables.exec = Jvm.exec) (hb : c.code = cc) (hts : ∀ w ∈ lw_g, w.before args s = true) (hown : s.vm.findClass own = some m.cls) (hlink : Cond.classLink own index "[I" ∈ lw_g) (hK : st_KK X s) (hP : st_HP X A S H) (hka : st_K S a = 20) (hdg : decode cc pc = .ok (.checkcast index, 3))
    (kk : W p l e R s m args below meth c H locs cells slots Q (F0 m (pc + 3) ls (.ref a :: rest))) : W p l e R s m args below meth c H locs cells slots Q (F0 m pc ls (.ref a :: rest)) := by
  obtain ⟨L, q1, g1, g2, g3, ga, gq⟩ := st_at hP (a := a) (by rw [hka]; omega)
  rw [st_E_i hka] at gq
  exact va_castA hx hb hown (hts _ hlink) g2 q1 gq (hK.2 0 _ rfl).2 hdg kk
/-- the class of a row of references -/
theorem r_getC {own : String} {index : Nat} (hx : p.tables.exec = Jvm.exec) (hb : c.code = cc) (hml : c.maxLocals = ls.size) (hown : s.vm.findClass own = some m.cls) (hlink : (Cond.methodLink own index ⟨"java/lang/Object", "getClass", "()Ljava/lang/Class;"⟩).before args s = true) (hdecl : Cond.declares ⟨"java/lang/Object", "getClass", "()Ljava/lang/Class;"⟩ ∈ lw_tbl)
    (hsel : (Cond.selects "[Ljava/lang/Object;" ⟨"java/lang/Object", "getClass", "()Ljava/lang/Class;"⟩ ⟨"java/lang/Object", "getClass", "()Ljava/lang/Class;"⟩).before args s = true) (hinst : (Cond.instanceMethod ⟨"java/lang/Object", "getClass", "()Ljava/lang/Class;"⟩).before args s = true) (hnat : (Cond.native ⟨"java/lang/Object", "getClass", "()Ljava/lang/Class;"⟩).before args s = true)
    (hK : st_KK X s) (hRO : st_RO X A s) (hP : st_HP X A S H) (hka : st_K S a = 24) (hframes : 1 ≤ R.frames) (hlocals : (rest.map fun v => v.category).sum + 14 ≤ R.locals) (hdg : decode cc pc = .ok (.invokevirtual index, 3))
    (kk : W p l e R s m args below meth c H locs cells slots Q (F0 m (pc + 3) ls (.ref (st_sa S 101) :: rest))) : W p l e R s m args below meth c H locs cells slots Q (F0 m pc ls (.ref a :: rest)) := by
  obtain ⟨L, q1, g1, g2, g3, ga, gq⟩ := st_at hP (a := a) (by rw [hka]; omega)
  rw [st_E_q hka] at gq
  obtain ⟨kA, comp, r1, r2, r3, r4⟩ := (hK.2 4 _ rfl).2
  exact va_getC hx hb hml hown hlink (va_Nw.use rfl (hRO.1 _ hdecl rfl)) hsel hinst hnat hRO.2.2.1 ⟨_, g2 q1 _ gq, rfl, r4⟩ hframes hlocals hdg (by rw [← hP.2.2.1]; exact kk)
theorem r_ldcM {own : String} {index : Nat} (hx : p.tables.exec = Jvm.exec) (hb : c.code = cc) (hts : ∀ w ∈ lw_g, w.before args s = true) (hown : s.vm.findClass own = some m.cls) (hlink : Cond.classLink own index "[Ljava/lang/Object;" ∈ lw_g) (hRO : st_RO X A s) (hP : st_HP X A S H) (hdg : decode cc pc = .ok (.ldc index, 2))
    (kk : W p l e R s m args below meth c H locs cells slots Q (F0 m (pc + 2) ls (.ref (st_sa S 101) :: rest))) : W p l e R s m args below meth c H locs cells slots Q (F0 m pc ls rest) :=
  va_ldcM hx hb hown (hts _ hlink) hRO.2.2.1 hdg (by rw [← hP.2.2.1]; exact kk)
end RW5
