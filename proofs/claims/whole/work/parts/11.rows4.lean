/-- the world behind a new cell -/
theorem st_push {X : st_I} {A : Nat → Prop} {S S' : st_T} {H H1 : Heap} (hP : st_HP X A S H) (hA0 : A (st_nx S)) (z : H1.size = H.size + 1) (o1 : ∀ q : Nat, q < H.size → H1[q]? = H[q]?) (he : va_at X.1 vwCl (st_nx S, st_E X S' (st_nx S)) H1)
    (hE : ∀ b, b ≠ st_nx S → st_E X S' b = st_E X S b) (hK : ∀ b, b ≠ st_nx S → st_K S' b = st_K S b) (hK1 : st_K S' (st_nx S) ≠ 0 ∧ st_K S' (st_nx S) < 30) (hnx : st_nx S' = st_nx S + 1) (hC : st_C X S') : st_HP X A S' H1 := by
  obtain ⟨⟨L, h1, h2, h3⟩, h4, h5⟩ := hP
  have hL : st_nx S ∉ L := va_pl_fresh (X := []) h2 (by rw [h4]; exact Nat.le_refl _)
  have e1 : va_pl L (st_E X S) ++ [(st_nx S, st_E X S' (st_nx S))] = va_pl (L ++ [st_nx S]) (st_E X S') := by
    rw [va_pl_push hL]
    refine va_pl_congr (fun b => ?_)
    by_cases hb : b = st_nx S
    · subst hb; rw [va_up_self]
    · rw [va_up_ne _ _ hb, hE b hb]
  have hk : ∀ (k : Nat) (x : Nat × va_E), (va_pl L (st_E X S))[k]? = some x → H1[x.1]? = H[x.1]? := fun k x hx => o1 x.1 ((h2 k x hx).lt)
  have g2 : va_P X.1 vwCl (va_pl L (st_E X S) ++ [(st_nx S, st_E X S' (st_nx S))]) H1 := (h2.kept hk).app (fun k x hx => by
    have hz : k < 1 := (List.getElem?_eq_some_iff.mp hx).1
    rw [show k = 0 by omega] at hx
    cases hx
    exact he)
  have g3 : va_D A (va_pl L (st_E X S) ++ [(st_nx S, st_E X S' (st_nx S))]) := h3.push h2 h4.symm hA0
  rw [e1] at g2 g3
  refine ⟨⟨L ++ [st_nx S], fun b => ?_, g2, g3⟩, by rw [z, h4, hnx], hC⟩
  rw [List.mem_append, List.mem_singleton, h1 b]
  by_cases hb : b = st_nx S
  · subst hb
    exact ⟨fun _ => hK1, fun _ => Or.inr rfl⟩
  · rw [hK b hb]
    exact ⟨fun h => h.elim id (fun h => absurd h hb), Or.inl⟩
theorem st_C_new {X : st_I} {S S' : st_T} (h : st_C X S) (hsa : st_sa S' = st_sa S) (hK : ∀ b, b ≠ st_nx S → st_K S' b = st_K S b) (hK1 : st_K S' (st_nx S) < 30) (hln : ∀ b, b ≠ st_nx S → st_ln S' b = st_ln S b) (hri : ∀ b, b ≠ st_nx S → st_ri S' b = st_ri S b) : st_C X S' := by
  refine ⟨hsa.trans h.1, fun a ha => ?_, fun a ha => ?_⟩
  · have hne : a ≠ st_nx S := fun q => by rw [q] at ha; omega
    rw [hK a hne] at ha
    rw [hsa, hln a hne]
    exact h.2.1 a ha
  · have hne : a ≠ st_nx S := fun q => by rw [q] at ha; omega
    rw [hK a hne] at ha
    rw [hsa, hln a hne, hri a hne]
    exact h.2.2 a ha
theorem st_E_no {X : st_I} {S : st_T} {ci b : Nat} (hb : b ≠ st_nx S) : st_E X (st_no S ci) b = st_E X S b := by
  have e0 : st_K (st_no S ci) b = st_K S b := va_up_ne _ _ hb
  have e1 : ∀ z, st_fs (st_no S ci) z b = st_fs S z b := by
    intro z
    unfold st_fs
    apply List.map_congr_left
    intro j _
    unfold st_f1
    rw [show st_fr (st_no S ci) (100 * z + j) b = st_fr S (100 * z + j) b from va_up_ne _ _ hb, show st_fi (st_no S ci) (100 * z + j) b = st_fi S (100 * z + j) b from va_up_ne _ _ hb]
  unfold st_E
  rw [e0, e1]
  rfl
theorem st_E_na {X : st_I} {S : st_T} {z n b : Nat} (hb : b ≠ st_nx S) : st_E X (st_na S z n) b = st_E X S b := by
  have e0 : st_K (st_na S z n) b = st_K S b := va_up_ne _ _ hb
  have e1 : st_ln (st_na S z n) b = st_ln S b := va_up_ne _ _ hb
  have e2 : st_ri (st_na S z n) b = st_ri S b := va_up_ne _ _ hb
  have e3 : st_rl (st_na S z n) b = st_rl S b := va_up_ne _ _ hb
  have e4 : st_ro (st_na S z n) b = st_ro S b := va_up_ne _ _ hb
  unfold st_E
  rw [e0, e1, e2, e3, e4]
  rfl
section RW4
variable {p : Program} {l : Launch} {e : Env} {R : Room} {s : State} {m : MethodId} {args : Array Value} {below : List Frame} {meth : Method} {c : Code} {H : Heap} {locs : List Loc} {cells slots : Nat} {Q : State → Prop}
variable {cc : ByteArray} {pc : Nat} {ls : Array Slot} {rest : List Value} {X : st_I} {S S' : st_T} {A : Nat → Prop} {a : Nat}
theorem st_S_push {H1 : Heap} (hS : va_S A s.heap H locs) (z : H1.size = H.size + 1) (o1 : ∀ q : Nat, q < H.size → H1[q]? = H[q]?) : va_S A s.heap H1 locs :=
  ⟨Nat.le_trans hS.1 (by omega), fun x h1 h2 => (o1 x (Nat.lt_of_lt_of_le h1 hS.1)).trans (hS.2.1 x h1 h2), hS.2.2⟩
theorem r_new (hx : p.tables.exec = Jvm.exec) (hb : c.code = cc) (hts : ∀ w ∈ lw_g, w.before args s = true) {own C : String} {T : u_T} {N ci index q : Nat} (hin : ∀ w ∈ u_ws C T N, w ∈ lw_g) (hc : vwCl[ci]? = some (C, T, N)) (hN : cl_n ci = N) (hci : ci < 19) {ty : Nat → FieldType} (hty : ∀ k, k < N → parseFieldDescriptor (T k).2.2.1 = some (ty k)) (hdef : ∀ j, j < N → defaultValue (ty j) = (if cl_r ci j = true then .null else .int 0))
    (hcl : Cond.classLink own index C ∈ lw_g) (hinst : Cond.instantiable C N ∈ lw_g) (hini : Cond.initialized C ∈ lw_g) (hown : s.vm.findClass own = some m.cls) (hK : st_KK X s) (hA : ∀ q, s.heap.size ≤ q → A q) (hP : st_HP X A S H) (hS : va_S A s.heap H locs) (hq : q = st_nx S) (hS' : S' = st_no S ci) (hcells : cells + 1 ≤ R.cells) (hslots : slots + N ≤ R.slots) (hdg : decode cc pc = .ok (.new index, 3))
    (kk : ∀ (H1 : Heap), st_HP X A S' H1 → va_S A s.heap H1 locs → W p l e R s m args below meth c H1 locs (cells + 1) (slots + N) Q (F0 m (pc + 3) ls (.ref q :: rest))) : W p l e R s m args below meth c H locs cells slots Q (F0 m pc ls rest) := by
  subst hq; subst hS'
  have hKn := hK.1 ci _ hc
  refine W.newcK hx hb hown (hts _ hcl) (hts _ hinst) (hts _ hini) rfl hdg hcells hslots hKn.2.1 hP.2.1 fun H1 kC hkC e1 z1 o1 => ?_
  rw [← hP.2.1] at z1 o1
  have hKn1 : st_K (st_no S ci) (st_nx S) = ci + 1 := va_up_self _ _ _
  refine kk H1 (st_push (S' := st_no S ci) hP (hA _ (by rw [← hP.2.1]; exact hS.1)) z1 o1 ?_ (fun b h => st_E_no h) (fun b h => va_up_ne _ _ h) (by rw [hKn1]; omega) rfl (st_C_new hP.2.2 rfl (fun b h => va_up_ne _ _ h) (by rw [hKn1]; omega) (fun _ _ => rfl) (fun _ _ => rfl))) (st_S_push hS z1 o1)
  rw [st_E_o hKn1 hci]
  refine ⟨_, hc, (u_born ty hts hin hKn hkC e1 hty).to (fun j hj => ?_)⟩
  rw [hdef j hj]
  have hj' : j < cl_n ci := by rw [hN]; exact hj
  show _ = (st_fs (st_no S ci) ci (st_nx S)).getD j .null
  rw [List.getD_eq_getElem?_getD, st_fs_get _ hj']
  simp only [Option.getD_some, st_f1]
  rw [show st_fr (st_no S ci) (100 * ci + j) (st_nx S) = none from va_up_self _ _ _, show st_fi (st_no S ci) (100 * ci + j) (st_nx S) = 0 from va_up_self _ _ _]
  rfl
theorem rw_newa {z : Nat} {atype : ArrayType} {ty : FieldType} {cA0 : ClassId} {B q : Nat} {n : Int32} (hx : p.tables.exec = Jvm.exec) (hb : c.code = cc) (hts : ∀ w ∈ lw_g, w.before args s = true) (harr : Cond.arrayClass (newarray.typeOf atype) ∈ lw_g) (hty : newarray.typeOf atype = ty) (hnm : s.vm.findClass ("[" ++ ty.toString) = some cA0) (hz : 20 ≤ z ∧ z < 30) (hcell : ∀ N, vp_cell cA0 (match st_E X (st_na S z N) (st_nx S) with | .inl x => x.2 | .inr _ => (0, .inl (fun _ => 0))) = arrV cA0 N (fun _ => defaultValue ty)) (hEc : ∀ N, ∃ x, st_E X (st_na S z N) (st_nx S) = .inl (cA0, x))
    (hA : ∀ q, s.heap.size ≤ q → A q) (hP : st_HP X A S H) (hS : va_S A s.heap H locs) (hn : ¬ n < 0) (hB : n.toNatClampNeg ≤ B) (hbytes : B * 8 ≤ 536870912) (hcb : componentBytes ty ≤ 8) (hq : q = st_nx S) (hS' : S' = st_na S z n.toNatClampNeg) (hcells : cells + 1 ≤ R.cells) (hslots : slots + B ≤ R.slots) (hdg : decode cc pc = .ok (.newarray atype, 2))
    (kk : ∀ (H1 : Heap), st_HP X A S' H1 → va_S A s.heap H1 locs → W p l e R s m args below meth c H1 locs (cells + 1) (slots + B) Q (F0 m (pc + 2) ls (.ref q :: rest))) : W p l e R s m args below meth c H locs cells slots Q (F0 m pc ls (.int n :: rest)) := by
  subst hq; subst hS'; subst hty
  refine va_newaK hx hb (hts _ harr) rfl hdg rfl hn rfl (Nat.le_trans (Nat.mul_le_mul hB hcb) hbytes) hcells (by omega) hP.2.1 fun H1 cA e1 z1 o1 hAr hNm => ?_
  rw [← hP.2.1] at z1 o1
  cases hNm.symm.trans hnm
  have hKn1 : st_K (st_na S z n.toNatClampNeg) (st_nx S) = z := va_up_self _ _ _
  refine W.widen (k := cells + 1) (n := slots + B) (Nat.le_refl _) (by omega) ?_
  refine kk H1 (st_push (S' := st_na S z n.toNatClampNeg) hP (hA _ (by rw [← hP.2.1]; exact hS.1)) z1 o1 ?_ (fun b h => st_E_na h) (fun b h => va_up_ne _ _ h) (by rw [hKn1]; omega) rfl (st_C_new hP.2.2 rfl (fun b h => va_up_ne _ _ h) (by rw [hKn1]; omega) (fun _ h => va_up_ne _ _ h) (fun _ h => va_up_ne _ _ h))) (st_S_push hS z1 o1)
  obtain ⟨x, hx1⟩ := hEc n.toNatClampNeg
  have h9 := hcell n.toNatClampNeg
  rw [hx1] at h9 ⊢
  show H1[st_nx S]? = some (vp_cell cA0 x)
  rw [show vp_cell cA0 x = _ from h9]
  exact e1
theorem r_newI {B q : Nat} {n : Int32} (hx : p.tables.exec = Jvm.exec) (hb : c.code = cc) (hts : ∀ w ∈ lw_g, w.before args s = true) (harr : Cond.arrayClass .int ∈ lw_g) (hK : st_KK X s) (hA : ∀ q, s.heap.size ≤ q → A q) (hP : st_HP X A S H) (hS : va_S A s.heap H locs) (hn : ¬ n < 0 ∧ n.toNatClampNeg ≤ B) (hbytes : B * 8 ≤ 536870912) (hq : q = st_nx S) (hS' : S' = st_na S 20 n.toNatClampNeg) (hcells : cells + 1 ≤ R.cells) (hslots : slots + B ≤ R.slots) (hdg : decode cc pc = .ok (.newarray .int, 2))
    (kk : ∀ (H1 : Heap), st_HP X A S' H1 → va_S A s.heap H1 locs → W p l e R s m args below meth c H1 locs (cells + 1) (slots + B) Q (F0 m (pc + 2) ls (.ref q :: rest))) : W p l e R s m args below meth c H locs cells slots Q (F0 m pc ls (.int n :: rest)) := by
  have hE : ∀ N, st_E X (st_na S 20 N) (st_nx S) = .inl (X.2.1, N, .inl (fun _ => 0)) := fun N => by
    rw [st_E_i (S := st_na S 20 N) (va_up_self _ _ _), show st_ln (st_na S 20 N) (st_nx S) = N from va_up_self _ _ _, show st_ri (st_na S 20 N) (st_nx S) = fun _ => 0 from va_up_self _ _ _]
  exact rw_newa (atype := .int) (z := 20) (cA0 := X.2.1) (ty := .int) hx hb hts harr rfl (hK.2 0 _ rfl).2 (by omega) (fun N => by rw [hE N]; rfl) (fun N => ⟨_, hE N⟩) hA hP hS hn.1 hn.2 hbytes (by decide) hq hS' hcells hslots hdg kk
theorem r_newJ {B q : Nat} {n : Int32} (hx : p.tables.exec = Jvm.exec) (hb : c.code = cc) (hts : ∀ w ∈ lw_g, w.before args s = true) (harr : Cond.arrayClass .long ∈ lw_g) (hK : st_KK X s) (hA : ∀ q, s.heap.size ≤ q → A q) (hP : st_HP X A S H) (hS : va_S A s.heap H locs) (hn : ¬ n < 0 ∧ n.toNatClampNeg ≤ B) (hbytes : B * 8 ≤ 536870912) (hq : q = st_nx S) (hS' : S' = st_na S 21 n.toNatClampNeg) (hcells : cells + 1 ≤ R.cells) (hslots : slots + B ≤ R.slots) (hdg : decode cc pc = .ok (.newarray .long, 2))
    (kk : ∀ (H1 : Heap), st_HP X A S' H1 → va_S A s.heap H1 locs → W p l e R s m args below meth c H1 locs (cells + 1) (slots + B) Q (F0 m (pc + 2) ls (.ref q :: rest))) : W p l e R s m args below meth c H locs cells slots Q (F0 m pc ls (.int n :: rest)) := by
  have hE : ∀ N, st_E X (st_na S 21 N) (st_nx S) = .inl (X.2.2.1, N, .inr (.inl (fun _ => 0))) := fun N => by
    rw [st_E_l (S := st_na S 21 N) (va_up_self _ _ _), show st_ln (st_na S 21 N) (st_nx S) = N from va_up_self _ _ _, show st_rl (st_na S 21 N) (st_nx S) = fun _ => 0 from va_up_self _ _ _]
  exact rw_newa (atype := .long) (z := 21) (cA0 := X.2.2.1) (ty := .long) hx hb hts harr rfl (hK.2 1 _ rfl).2 (by omega) (fun N => by rw [hE N]; rfl) (fun N => ⟨_, hE N⟩) hA hP hS hn.1 hn.2 hbytes (by decide) hq hS' hcells hslots hdg kk
theorem r_newC {B q : Nat} {n : Int32} (hx : p.tables.exec = Jvm.exec) (hb : c.code = cc) (hts : ∀ w ∈ lw_g, w.before args s = true) (harr : Cond.arrayClass .char ∈ lw_g) (hK : st_KK X s) (hA : ∀ q, s.heap.size ≤ q → A q) (hP : st_HP X A S H) (hS : va_S A s.heap H locs) (hn : ¬ n < 0 ∧ n.toNatClampNeg ≤ B) (hbytes : B * 8 ≤ 536870912) (hq : q = st_nx S) (hS' : S' = st_na S 22 n.toNatClampNeg) (hcells : cells + 1 ≤ R.cells) (hslots : slots + B ≤ R.slots) (hdg : decode cc pc = .ok (.newarray .char, 2))
    (kk : ∀ (H1 : Heap), st_HP X A S' H1 → va_S A s.heap H1 locs → W p l e R s m args below meth c H1 locs (cells + 1) (slots + B) Q (F0 m (pc + 2) ls (.ref q :: rest))) : W p l e R s m args below meth c H locs cells slots Q (F0 m pc ls (.int n :: rest)) := by
  have hE : ∀ N, st_E X (st_na S 22 N) (st_nx S) = .inl (X.2.2.2.1, N, .inl (fun _ => 0)) := fun N => by
    rw [st_E_c (S := st_na S 22 N) (va_up_self _ _ _), show st_ln (st_na S 22 N) (st_nx S) = N from va_up_self _ _ _, show st_ri (st_na S 22 N) (st_nx S) = fun _ => 0 from va_up_self _ _ _]
  exact rw_newa (atype := .char) (z := 22) (cA0 := X.2.2.2.1) (ty := .char) hx hb hts harr rfl (hK.2 2 _ rfl).2 (by omega) (fun N => by rw [hE N]; rfl) (fun N => ⟨_, hE N⟩) hA hP hS hn.1 hn.2 hbytes (by decide) hq hS' hcells hslots hdg kk
theorem r_newZ {B q : Nat} {n : Int32} (hx : p.tables.exec = Jvm.exec) (hb : c.code = cc) (hts : ∀ w ∈ lw_g, w.before args s = true) (harr : Cond.arrayClass .boolean ∈ lw_g) (hK : st_KK X s) (hA : ∀ q, s.heap.size ≤ q → A q) (hP : st_HP X A S H) (hS : va_S A s.heap H locs) (hn : ¬ n < 0 ∧ n.toNatClampNeg ≤ B) (hbytes : B * 8 ≤ 536870912) (hq : q = st_nx S) (hS' : S' = st_na S 23 n.toNatClampNeg) (hcells : cells + 1 ≤ R.cells) (hslots : slots + B ≤ R.slots) (hdg : decode cc pc = .ok (.newarray .boolean, 2))
    (kk : ∀ (H1 : Heap), st_HP X A S' H1 → va_S A s.heap H1 locs → W p l e R s m args below meth c H1 locs (cells + 1) (slots + B) Q (F0 m (pc + 2) ls (.ref q :: rest))) : W p l e R s m args below meth c H locs cells slots Q (F0 m pc ls (.int n :: rest)) := by
  have hE : ∀ N, st_E X (st_na S 23 N) (st_nx S) = .inl (X.2.2.2.2.1, N, .inl (fun _ => 0)) := fun N => by
    rw [st_E_z (S := st_na S 23 N) (va_up_self _ _ _), show st_ln (st_na S 23 N) (st_nx S) = N from va_up_self _ _ _, show st_ri (st_na S 23 N) (st_nx S) = fun _ => 0 from va_up_self _ _ _]
  exact rw_newa (atype := .boolean) (z := 23) (cA0 := X.2.2.2.2.1) (ty := .boolean) hx hb hts harr rfl (hK.2 3 _ rfl).2 (by omega) (fun N => by rw [hE N]; rfl) (fun N => ⟨_, hE N⟩) hA hP hS hn.1 hn.2 hbytes (by decide) hq hS' hcells hslots hdg kk
/-- a constructor's call -/
theorem r_cI {nL n mc ms maxL index b : Nat} {own : String} {y : MethodName} {bytes : ByteArray} {rm : Room} {As : List Value} (S5 : CallFix p m c cc nL s args lw_g own) (hM : Met l y (Cond.code y bytes maxL none :: lw_g) rm (st_P X S (.ref b :: As)) (st_Q X (st_A S) none S') mc ms (st_A S))
    (hg : ∀ w ∈ [Cond.methodLink own index y, .instanceMethod y, .initialized y.cls, .code y bytes maxL none], w ∈ lw_g) (hd : y.name = "<init>" ∧ y.cls ≠ "java/lang/invoke/MethodHandle" ∧ y.cls ≠ "java/lang/invoke/VarHandle" ∧ (parseMethodDescriptor y.desc).map (fun d => d.parameters.length) = some n) (hdg : decode cc pc = .ok (.invokespecial index, 3))
    (hrc : rm.cells = mc) (hrs : rm.slots = ms) (hR : rm.frames + 1 ≤ R.frames ∧ 8 + (maxL + 11) + rm.locals ≤ R.locals) (hn : As.length = n) (hsize : ls.size = nL) (hW : (rest.map fun v => v.category).sum ≤ 8) (hf : cells + mc ≤ R.cells ∧ slots + ms ≤ R.slots) (hK : st_KK X s) (hRO : st_RO X A s) (hA : ∀ q, s.heap.size ≤ q → A q) (hP : st_HP X A S H) (hS : va_S A s.heap H locs)
    (kk : ∀ (H1 : Heap) (locs1 : List Loc), st_HP X A S' H1 → va_S A s.heap H1 locs1 → W p l e R s m args below meth c H1 locs1 (cells + mc) (slots + ms) Q (F0 m (pc + 3) ls rest)) : W p l e R s m args below meth c H locs cells slots Q (F0 m pc ls (As.reverse ++ .ref b :: rest)) :=
  r_back (v := none) (va_runI (As := As) (rest := rest) S5 hM (cwI n S5.2.2.2.2 (gi_C (hg _ (by simp))) rfl hrc hrs (S5.2.2.2.2 _ (hg _ (by simp))) (S5.2.2.2.2 _ (hg _ (by simp))) (S5.2.2.2.2 _ (hg _ (by simp))) hd.1 hd.2 hR) (st_pre hK hRO hA hP hS) rfl hn hsize rfl (lv_room hW) hdg hf) hA hP hS kk
/-- a nest mate's constructor's call -/
theorem r_cIN {nL n mc ms maxL index b : Nat} {own host : String} {y : MethodName} {bytes : ByteArray} {rm : Room} {As : List Value} (S5 : CallFix p m c cc nL s args lw_g own) (hM : Met l y (Cond.code y bytes maxL none :: lw_g) rm (st_P X S (.ref b :: As)) (st_Q X (st_A S) none S') mc ms (st_A S))
    (hg : ∀ w ∈ [Cond.instanceMethod y, .initialized y.cls, .code y bytes maxL none], w ∈ lw_g) (hnl : Cond.methodLinkNest own index y host ∈ lw_tbl) (hd : y.name = "<init>" ∧ y.cls ≠ "java/lang/invoke/MethodHandle" ∧ y.cls ≠ "java/lang/invoke/VarHandle" ∧ (parseMethodDescriptor y.desc).map (fun d => d.parameters.length) = some n) (hdg : decode cc pc = .ok (.invokespecial index, 3))
    (hrc : rm.cells = mc) (hrs : rm.slots = ms) (hR : rm.frames + 1 ≤ R.frames ∧ 8 + (maxL + 11) + rm.locals ≤ R.locals) (hn : As.length = n) (hsize : ls.size = nL) (hW : (rest.map fun v => v.category).sum ≤ 8) (hf : cells + mc ≤ R.cells ∧ slots + ms ≤ R.slots) (hK : st_KK X s) (hRO : st_RO X A s) (hA : ∀ q, s.heap.size ≤ q → A q) (hP : st_HP X A S H) (hS : va_S A s.heap H locs)
    (kk : ∀ (H1 : Heap) (locs1 : List Loc), st_HP X A S' H1 → va_S A s.heap H1 locs1 → W p l e R s m args below meth c H1 locs1 (cells + mc) (slots + ms) Q (F0 m (pc + 3) ls rest)) : W p l e R s m args below meth c H locs cells slots Q (F0 m pc ls (As.reverse ++ .ref b :: rest)) :=
  r_back (v := none) (va_runIN (As := As) (rest := rest) S5 hM ⟨va_cnB n S5.2.2.2.2 (gi_C (hg _ (by simp))) rfl hrc hrs (hRO.1 _ hnl rfl) (S5.2.2.2.2 _ (hg _ (by simp))) hd.2 hR, hd.1, S5.2.2.2.2 _ (hg _ (by simp))⟩ (st_pre hK hRO hA hP hS) rfl hn hsize rfl (lv_room hW) hdg hf) hA hP hS kk
/-- the empty row that new lists share -/
theorem r_getsE {own ref : String} {index : Nat} (hx : p.tables.exec = Jvm.exec) (hb : c.code = cc) (hts : ∀ w ∈ lw_g, w.before args s = true) (hRO : st_RO X A s) (hP : st_HP X A S H) (hS : va_S A s.heap H locs) (hown : s.vm.findClass own = some m.cls) (hlink : Cond.fieldLink own index "java/util/ArrayList" "DEFAULTCAPACITY_EMPTY_ELEMENTDATA" "[Ljava/lang/Object;" ∈ lw_g) (hdg : decode cc pc = .ok (.getstatic index, 3))
    (kk : W p l e R s m args below meth c H locs cells slots Q (F0 m (pc + 3) ls (.ref (st_sa S 100) :: rest))) : W p l e R s m args below meth c H locs cells slots Q (F0 m pc ls rest) :=
  va_gets hx hb hRO.2.2.2.1 hS hown (hts _ hlink) (fun _ h => h) hdg (by rw [← hP.2.2.1]; exact kk)
theorem r_newq {own : String} {index B q : Nat} {n : Int32} (hx : p.tables.exec = Jvm.exec) (hb : c.code = cc) (hts : ∀ w ∈ lw_g, w.before args s = true) (hown : s.vm.findClass own = some m.cls) (hclink : Cond.classLink own index "java/lang/Object" ∈ lw_g) (hK : st_KK X s) (hRO : st_RO X A s) (hA : ∀ q, s.heap.size ≤ q → A q) (hP : st_HP X A S H) (hS : va_S A s.heap H locs) (hn : ¬ n < 0 ∧ n.toNatClampNeg ≤ B) (hbytes : B * 8 ≤ 536870912) (hq : q = st_nx S) (hS' : S' = st_na S 24 n.toNatClampNeg) (hcells : cells + 1 ≤ R.cells) (hslots : slots + B ≤ R.slots) (hdg : decode cc pc = .ok (.anewarray index, 3))
    (kk : ∀ (H1 : Heap), st_HP X A S' H1 → va_S A s.heap H1 locs → W p l e R s m args below meth c H1 locs (cells + 1) (slots + B) Q (F0 m (pc + 3) ls (.ref q :: rest))) : W p l e R s m args below meth c H locs cells slots Q (F0 m pc ls (.int n :: rest)) := by
  subst hq; subst hS'
  refine W.anew hx hb hown (hts _ hclink) (va_AO.use hRO.2.1) rfl hdg rfl hn.1 (by omega) hcells (by omega) fun cA kA comp f1 f2 f3 f4 => ?_
  generalize hH1 : H.push ({ cls := cA, slots := Array.replicate n.toNatClampNeg .null, vm := .none } : Cell) = H1
  have z1 : H1.size = H.size + 1 := by rw [← hH1, Array.size_push]
  have e1 : H1[H.size]? = some (arrV cA n.toNatClampNeg (fun _ => .null)) := by rw [← hH1, Array.getElem?_push_size, ← arrV_new]
  have o1 : ∀ q : Nat, q < H.size → H1[q]? = H[q]? := fun q hq => by rw [← hH1, Array.getElem?_push, if_neg (Nat.ne_of_lt hq)]
  obtain ⟨kA2, comp2, g1, g2, g3, g4⟩ := (hK.2 4 _ rfl).2
  have hcA : cA = X.2.2.2.2.2.1 := Option.some.inj (f1.symm.trans g4)
  subst hcA
  have hKn1 : st_K (st_na S 24 n.toNatClampNeg) (st_nx S) = 24 := va_up_self _ _ _
  refine W.widen (k := cells + 1) (n := slots + B) (Nat.le_refl _) (by omega) ?_
  have kk1 := kk H1 (st_push (S' := st_na S 24 n.toNatClampNeg) hP (hA _ (by rw [← hP.2.1]; exact hS.1)) z1 o1 (by
    rw [st_E_q hKn1, show st_ln (st_na S 24 n.toNatClampNeg) (st_nx S) = n.toNatClampNeg from va_up_self _ _ _, show st_ro (st_na S 24 n.toNatClampNeg) (st_nx S) = fun _ => none from va_up_self _ _ _]
    show H1[st_nx S]? = some (vp_cell _ _)
    rw [vp_cell_q, ← hP.2.1]
    exact e1) (fun b h => st_E_na h) (fun b h => va_up_ne _ _ h) (by rw [hKn1]; omega) rfl (st_C_new hP.2.2 rfl (fun b h => va_up_ne _ _ h) (by rw [hKn1]; omega) (fun _ h => va_up_ne _ _ h) (fun _ h => va_up_ne _ _ h))) (st_S_push hS z1 o1)
  rw [← hP.2.1] at kk1
  exact kk1
set_option maxRecDepth 100000 in
theorem st_any {v : Nat} (hK : st_KK X s) (hRO : st_RO X A s) (hP : st_HP X A S H) (hkv : st_K S v ≠ 0 ∧ st_K S v < 12) : va_Any "java/lang/Object" s H v := by
  obtain ⟨ci, hci⟩ : ∃ ci, st_K S v = ci + 1 := ⟨st_K S v - 1, by omega⟩
  have hc9 : ci < 11 := by omega
  obtain ⟨L, q0, h1, h2, h3, ha, hq⟩ := st_at hP (a := v) (by omega)
  rw [st_E_o hci (by omega)] at hq
  have key : ∀ (C : String) (T : u_T) (N : Nat), vwCl[ci]? = some (C, T, N) → Cond.castable C "java/lang/Object" ∈ lw_tbl → va_Any "java/lang/Object" s H v := by
    intro C T N hc hw
    refine va_rAny hK h2 hq hc (fun comp c0 g1 g2 => ?_)
    obtain ⟨c1, t1, f1, f2, f3⟩ := Cond.castable_spec (va_Nw.use (A := #[]) rfl (hRO.1 _ hw rfl))
    cases g1.symm.trans f2
    cases (show s.vm.findClass C = some c0 from g2).symm.trans f1
    exact f3
  have h11 : ci = 0 ∨ ci = 1 ∨ ci = 2 ∨ ci = 3 ∨ ci = 4 ∨ ci = 5 ∨ ci = 6 ∨ ci = 7 ∨ ci = 8 ∨ ci = 9 ∨ ci = 10 := by omega
  rcases h11 with h | h | h | h | h | h | h | h | h | h | h <;> subst h
  · exact key _ _ _ rfl (List.mem_of_getElem? (i := 1327) rfl)
  · exact key _ _ _ rfl (List.mem_of_getElem? (i := 1332) rfl)
  · exact key _ _ _ rfl (List.mem_of_getElem? (i := 1334) rfl)
  · exact key _ _ _ rfl (List.mem_of_getElem? (i := 1335) rfl)
  · exact key _ _ _ rfl (List.mem_of_getElem? (i := 1330) rfl)
  · exact key _ _ _ rfl (List.mem_of_getElem? (i := 1329) rfl)
  · exact key _ _ _ rfl (List.mem_of_getElem? (i := 1328) rfl)
  · exact key _ _ _ rfl (List.mem_of_getElem? (i := 1331) rfl)
  · exact key _ _ _ rfl (List.mem_of_getElem? (i := 1326) rfl)
  · exact key _ _ _ rfl (List.mem_of_getElem? (i := 1325) rfl)
  · exact key _ _ _ rfl (List.mem_of_getElem? (i := 1333) rfl)
theorem r_aast {i : Int32} {v : Nat} (hx : p.tables.exec = Jvm.exec) (hb : c.code = cc) (hK : st_KK X s) (hRO : st_RO X A s) (hP : st_HP X A S H) (hS : va_S A s.heap H locs) (hka : st_K S a = 24) (hin : vp_in i (st_ln S a)) (hkv : st_K S v ≠ 0 ∧ st_K S v < 12) (hdg : decode cc pc = .ok (.aastore, 1))
    (kk : ∀ (H1 : Heap) (locs1 : List Loc), st_HP X A (st_wo S a i.toNatClampNeg (some v)) H1 → va_S A s.heap H1 locs1 → W p l e R s m args below meth c H1 locs1 cells slots Q (F0 m (pc + 1) ls rest)) : W p l e R s m args below meth c H locs cells slots Q (F0 m pc ls (.ref v :: .int i :: .ref a :: rest)) := by
  obtain ⟨L, q0, h1, h2, h3, ha, hq⟩ := st_at hP (a := a) (by rw [hka]; omega)
  have hq' := hq
  rw [st_E_q hka] at hq'
  have hlt : i.toNatClampNeg < st_ln S a := Nat.not_le.mp fun q => hin (Or.inr q)
  have h0 : ¬ i < 0 := fun q => hin (Or.inl q)
  obtain ⟨cellV, g1, g2, ⟨kC, hkC⟩, hasg⟩ := st_any hK hRO hP hkv
  obtain ⟨kA, comp, k1, k2, k3, -⟩ := (hK.2 4 _ rfl).2
  obtain ⟨kE, hkE, -⟩ := Vm.findClass_spec k3
  refine W.aast hx hb (h2 q0 _ hq') (fun q h => by cases h) (fun h => by cases h) k1 k2 rfl hkE ⟨h0, by show _ < (arrV _ _ _).slots.size; rw [arrV_size]; exact hlt⟩ g1 (fun q h => by rw [h] at g2; cases g2) hkC (hasg _ k3) rfl rfl hdg fun H1 e z oq => ?_
  refine kk H1 _ (st_set (S' := st_wo S a i.toNatClampNeg (some v)) h1 h3 ha hq (h2.set h3 hq' (e := .inl (X.2.2.2.2.2.1, st_ln S a, .inr (.inr (.inr (.inr (va_up (st_ro S a) i.toNatClampNeg (some v))))))) ?_ oq) (h3.set hq') (st_E_xo hka _) rfl (z.trans hP.2.1) hP.2.2) (hS.put z oq (h3.2 q0 _ hq'))
  show H1[a]? = some (vp_cell _ _)
  rw [e, vp_cell_q, vp_cell_q, arrV_store]
  congr 2
  funext q
  by_cases hq : q = i.toNatClampNeg
  · subst hq; simp [updV, va_up, va_rf]
  · simp [updV, va_up, hq]
end RW4
