/-- what is read only: links between nest mates, constants, statics -/
def st_wr (w : Cond) : Bool := match w with
  | .methodLinkNest _ _ _ _ => true
  | .castable _ _ => true
  | .declares _ => true
  | _ => false
def st_txs : List String := ["and", "code", "when", "mend", "word", "second", "next", "place", "with", "from", "long", "ahead", "age", "day", ""]
def st_len : List Nat := st_txs.map String.length
def st_byt : List (List Int32) := st_txs.map fun t => t.toList.map fun c => nI c.toNat
def st_mx : List (Nat × String) := [(149, "no such line"), (172, "a line has no such thing"), (206, "no such diary"), (226, "a diary has no such thing")]
def st_RO (X : st_I) (A : Nat → Prop) (U : State) : Prop :=
  (∀ w ∈ lw_tbl, st_wr w = true → va_Nw w U) ∧ va_AO "java/lang/Object" U ∧ va_Mi "[Ljava/lang/Object;" (X.2.2.2.2.2.2 101) U ∧
  va_Z "java/util/ArrayList" "DEFAULTCAPACITY_EMPTY_ELEMENTDATA" "[Ljava/lang/Object;" (.ref (X.2.2.2.2.2.2 100)) A U U.heap ∧ va_T (.object "java/lang/Object") (X.2.2.2.2.2.2 100) 0 (fun _ => .null) A U U.heap ∧
  vk_S 15 st_len st_byt X.2.2.2.2.2.2 (fun i => X.2.2.2.2.2.2 (200 + i)) A U U.heap ∧ (∀ i, i < 15 → vk_R RX6 (64 + 2 * i) (st_txs.getD i "") (X.2.2.2.2.2.2 i) U) ∧
  va_Z "java/lang/String" "COMPACT_STRINGS" "Z" (.int 1) A U U.heap ∧ va_Zq "jdk/internal/util/Preconditions" "SIOOBE_FORMATTER" "Ljava/util/function/BiFunction;" A U U.heap ∧
  vx_Zq Bundle.tN "UNASSIGNED_STACK" Bundle.steD A U U.heap ∧ vx_Zq Bundle.tN "SUPPRESSED_SENTINEL" Bundle.listD A U U.heap ∧
  ∀ q ∈ st_mx, ∃ a, vk_R RX8 q.1 q.2 a U
theorem st_RO_go {X : st_I} {A A1 : Nat → Prop} {s U : State} {H : Heap} {locs : List Loc} (h : st_RO X A s) (hW : s.WarmedH U.vm) (hS : va_S A s.heap H locs) (hU : U.heap = H) (hAB : ∀ q, A1 q → A q) : st_RO X A1 U := by
  obtain ⟨h1, h2, h3, h4, h5, h6, h7, h8, h9, h10, h11, h12⟩ := h
  have hal := hW.alike
  subst hU
  refine ⟨fun w hw hn => ?_, va_AO.moved hal h2, va_Mi.moved hal h3, ((va_Z.moved hal h4).kept hS.2.1).narrow hAB, ((va_T.moved hal h5).kept hS.2.1).narrow hAB, ((vk_S.moved hal h6).kept hS.2.1).narrow hAB, fun i hi => vk_R.warm hW (h7 i hi), ((va_Z.moved hal h8).kept hS.2.1).narrow hAB, ((va_Zq.moved hal h9).kept hS.2.1).narrow hAB, ((vx_Zq.moved hal h10).kept hS.2.1).narrow hAB, ((vx_Zq.moved hal h11).kept hS.2.1).narrow hAB, fun q hq => ?_⟩
  · have h13 := h1 w hw hn
    cases w <;> first | (exact va_Nw.warmM hW h13) | (exact va_Nw.warmC hW h13) | (exact va_Nw.warmD hW h13) | (simp [st_wr] at hn)
  · obtain ⟨a, ha⟩ := h12 q hq
    exact ⟨a, vk_R.warm hW ha⟩
theorem st_RO_same {X : st_I} {A : Nat → Prop} {u U : State} (h : st_RO X A u) (hv : U.vm = u.vm) (hH : U.heap = u.heap) : st_RO X A U := by
  obtain ⟨h1, h2, h3, h4, h5, h6, h7, h8, h9, h10, h11, h12⟩ := h
  have hal : u.vm.Alike U.vm := by rw [hv]; exact Vm.Alike.refl u.vm
  refine ⟨fun w hw hn => ?_, va_AO.moved hal h2, va_Mi.moved hal h3, by rw [hH]; exact va_Z.moved hal h4, by rw [hH]; exact va_T.moved hal h5, by rw [hH]; exact vk_S.moved hal h6, fun i hi => vk_R.same hv (h7 i hi), by rw [hH]; exact va_Z.moved hal h8, by rw [hH]; exact va_Zq.moved hal h9, by rw [hH]; exact vx_Zq.moved hal h10, by rw [hH]; exact vx_Zq.moved hal h11, fun q hq => ?_⟩
  · have h13 := h1 w hw hn
    cases w <;> first | (exact va_Nw.same rfl hv.symm h13) | (simp [st_wr] at hn)
  · obtain ⟨a, ha⟩ := h12 q hq
    exact ⟨a, vk_R.same hv ha⟩
def st_P (X : st_I) (S : st_T) (av : List Value) : Array Value → State → Prop := va_Pc av (fun U => st_HP X (st_A S) S U.heap ∧ st_KK X U ∧ st_RO X (st_A S) U)
def st_Q (X : st_I) (A : Nat → Prop) (v : Option Value) (S' : st_T) : Array Value → State → Outcome → State → Prop := fun _ st oc t => oc = .returned v ∧ st_HP X A S' t.heap ∧ va_F A st t
theorem st_blind {X : st_I} {S : st_T} {av : List Value} : FrameBlind (st_P X S av) := by
  intro a U g mk h
  obtain ⟨h1, h2, h3, h4⟩ := h
  exact ⟨h1, h2, va_K.moved (u := U) (U := U.calling g mk a) (Vm.Alike.refl U.vm) h3, st_RO_same (u := U) (U := U.calling g mk a) h4 rfl rfl⟩
theorem st_subA {X : st_I} {A : Nat → Prop} {S : st_T} {H H0 : Heap} {locs : List Loc} (hA : ∀ q, H0.size ≤ q → A q) (hP : st_HP X A S H) (hS : va_S A H0 H locs) : ∀ q, st_A S q → A q := by
  intro q h
  rcases h with h | h
  · exact st_inA hP h
  · exact hA q (Nat.le_trans hS.1 (by rw [hP.2.1]; exact h))
theorem st_HP_A {X : st_I} {A B : Nat → Prop} {S : st_T} {H : Heap} (h : st_HP X A S H) (hAB : ∀ q, A q → B q) : st_HP X B S H := by
  obtain ⟨⟨L, h1, h2, h3⟩, h4, h5⟩ := h
  exact ⟨⟨L, h1, h2, h3.1, fun k q hk => hAB _ (h3.2 k q hk)⟩, h4, h5⟩
theorem st_HP_self {X : st_I} {A : Nat → Prop} {S : st_T} {H : Heap} (h : st_HP X A S H) : st_HP X (st_A S) S H := by
  obtain ⟨⟨L, h1, h2, h3⟩, h4, h5⟩ := h
  refine ⟨⟨L, h1, h2, h3.1, fun k q hk => ?_⟩, h4, h5⟩
  have hm := List.mem_of_getElem? hk
  obtain ⟨b, hb, e⟩ := List.mem_map.mp hm
  exact Or.inl ((h1 q.1).mp (by rw [← e]; exact hb))
theorem st_pre {X : st_I} {A : Nat → Prop} {S : st_T} {s : State} {H : Heap} {locs : List Loc} {As : List Value} (hK : st_KK X s) (hRO : st_RO X A s) (hA : ∀ q, s.heap.size ≤ q → A q) (hP : st_HP X A S H) (hS : va_S A s.heap H locs) : PreS s H (st_P X S As) As :=
  ⟨st_blind, fun U hU hW => ⟨rfl, by rw [hU]; exact st_HP_self hP, va_K.moved hW.alike hK, st_RO_go hRO hW hS hU (st_subA hA hP hS)⟩⟩
theorem st_recv {X : st_I} {A : Nat → Prop} {S : st_T} {s : State} {H : Heap} {b ci : Nat} {C : String} {T : u_T} {N : Nat} (hK : st_KK X s) (hP : st_HP X A S H) (hkb : st_K S b = ci + 1) (hci : ci < 19) (hc : vwCl[ci]? = some (C, T, N)) : ∃ cellB : Cell, H[b]? = some cellB ∧ cellB.vm.isStatics = false ∧ s.vm.findClass C = some cellB.cls := by
  obtain ⟨L, q0, h1, h2, h3, ha, hq⟩ := st_at hP (a := b) (by rw [hkb]; omega)
  rw [st_E_o hkb hci] at hq
  exact va_recv hK h2 hc hq
theorem st_preV {X : st_I} {A : Nat → Prop} {S : st_T} {s : State} {H : Heap} {b ci : Nat} {C : String} {T : u_T} {N : Nat} {As : List Value} {locs : List Loc} (hK : st_KK X s) (hRO : st_RO X A s) (hA : ∀ q, s.heap.size ≤ q → A q) (hP : st_HP X A S H) (hS : va_S A s.heap H locs) (hkb : st_K S b = ci + 1) (hci : ci < 19) (hc : vwCl[ci]? = some (C, T, N)) : PreV s H C b (st_P X S (.ref b :: As)) As :=
  ⟨st_blind, st_recv hK hP hkb hci hc, fun U hU hW => ⟨rfl, by rw [hU]; exact st_HP_self hP, va_K.moved hW.alike hK, st_RO_go hRO hW hS hU (st_subA hA hP hS)⟩⟩
section RW2
variable {p : Program} {l : Launch} {e : Env} {R : Room} {s : State} {m : MethodId} {args : Array Value} {below : List Frame} {meth : Method} {c : Code} {H : Heap} {locs : List Loc} {cells slots : Nat} {Q : State → Prop}
variable {cc : ByteArray} {pc : Nat} {ls : Array Slot} {rest : List Value} {X : st_I} {S S' : st_T} {A : Nat → Prop} {a : Nat}
theorem r_back {mc ms : Nat} {st0 : List Value} {v : Option Value} {av : Array Value} (hr : va_Run p l e R s m args below meth c H locs cells slots mc ms (F0 m pc ls st0) rest (st_Q X (st_A S) v S' av) (st_A S)) (hA : ∀ q, s.heap.size ≤ q → A q) (hP : st_HP X A S H) (hS : va_S A s.heap H locs)
    (kk : ∀ (H1 : Heap) (locs1 : List Loc), st_HP X A S' H1 → va_S A s.heap H1 locs1 → W p l e R s m args below meth c H1 locs1 (cells + mc) (slots + ms) Q (F0 m (pc + 3) ls (v.toList ++ rest))) : W p l e R s m args below meth c H locs cells slots Q (F0 m pc ls st0) := by
  intro T hT X9
  obtain ⟨v', st₀, t, T', L, h0, X', hL, e1, e2, ⟨hv, hp, hF⟩, st⟩ := hr T hT X9
  cases hv
  have hsub := st_subA hA hP hS
  have hF1 : H.size ≤ t.heap.size := by rw [← h0]; exact hF.1
  have hS1 : va_S A s.heap t.heap (locs ++ L) := by
    refine ⟨Nat.le_trans hS.1 hF1, fun q h1 h2 => ?_, fun q hq => ?_⟩
    · rw [hF.2 q (by rw [h0]; exact Nat.lt_of_lt_of_le h1 hS.1) (fun z => h2 (hsub q z)), h0]
      exact hS.2.1 q h1 h2
    · rcases List.mem_append.mp hq with h | h
      · exact hS.2.2 q h
      · exact hsub _ (hL q h)
  obtain ⟨t2, a1, b1⟩ := kk t.heap (locs ++ L) (st_HP_A hp hsub) hS1 T' e1 X'
  exact ⟨t2, st t2 a1, b1⟩
/-- a call of a method on an object of the state -/
theorem r_cV {nL n mc ms maxL index ci b : Nat} {own C : String} {T : u_T} {N : Nat} {y : MethodName} {bytes : ByteArray} {ret : Option FieldType} {rm : Room} {As : List Value} {v : Option Value} (S5 : CallFix p m c cc nL s args lw_g own) (hM : Met l y (Cond.code y bytes maxL ret :: lw_g) rm (st_P X S (.ref b :: As)) (st_Q X (st_A S) v S') mc ms (st_A S))
    (hg : GoodIn lw_g (wsV own index C y (Cond.code y bytes maxL ret :: lw_g))) (hd : y.cls = C ∧ y.cls ≠ "java/lang/invoke/MethodHandle" ∧ y.cls ≠ "java/lang/invoke/VarHandle" ∧ (parseMethodDescriptor y.desc).map (fun d => d.parameters.length) = some n) (hc : vwCl[ci]? = some (C, T, N)) (hci : ci < 19) (hdg : decode cc pc = .ok (.invokevirtual index, 3))
    (hrc : rm.cells = mc) (hrs : rm.slots = ms) (hR : rm.frames + 1 ≤ R.frames ∧ 8 + (maxL + 11) + rm.locals ≤ R.locals) (hkb : st_K S b = ci + 1) (hn : As.length = n) (hsize : ls.size = nL) (hW : (rest.map fun v => v.category).sum ≤ 8) (hf : cells + mc ≤ R.cells ∧ slots + ms ≤ R.slots) (hK : st_KK X s) (hRO : st_RO X A s) (hA : ∀ q, s.heap.size ≤ q → A q) (hP : st_HP X A S H) (hS : va_S A s.heap H locs)
    (kk : ∀ (H1 : Heap) (locs1 : List Loc), st_HP X A S' H1 → va_S A s.heap H1 locs1 → W p l e R s m args below meth c H1 locs1 (cells + mc) (slots + ms) Q (F0 m (pc + 3) ls (v.toList ++ rest))) : W p l e R s m args below meth c H locs cells slots Q (F0 m pc ls (As.reverse ++ .ref b :: rest)) :=
  r_back (va_runV (As := As) (rest := rest) S5 hM (cwV n S5.2.2.2.2 hg rfl hrc hrs hd hR) (st_preV hK hRO hA hP hS hkb hci hc) rfl hn hsize rfl (lv_room hW) hdg hf) hA hP hS kk
/-- a static call in the same class -/
theorem r_cS {nL n mc ms maxL index : Nat} {own : String} {y : MethodName} {bytes : ByteArray} {ret : Option FieldType} {rm : Room} {As : List Value} {v : Option Value} (S5 : CallFix p m c cc nL s args lw_g own) (hM : Met l y (Cond.code y bytes maxL ret :: lw_g) rm (st_P X S As) (st_Q X (st_A S) v S') mc ms (st_A S))
    (hg : GoodIn lw_g (wsS own index y (Cond.code y bytes maxL ret :: lw_g))) (hd : y.cls = own ∧ y.cls ≠ "java/lang/invoke/MethodHandle" ∧ y.cls ≠ "java/lang/invoke/VarHandle" ∧ (parseMethodDescriptor y.desc).map (fun d => d.parameters.length) = some n) (hdg : decode cc pc = .ok (.invokestatic index, 3))
    (hrc : rm.cells = mc) (hrs : rm.slots = ms) (hR : rm.frames + 1 ≤ R.frames ∧ 8 + (maxL + 11) + rm.locals ≤ R.locals) (hn : As.length = n) (hsize : ls.size = nL) (hW : (rest.map fun v => v.category).sum ≤ 8) (hf : cells + mc ≤ R.cells ∧ slots + ms ≤ R.slots) (hK : st_KK X s) (hRO : st_RO X A s) (hA : ∀ q, s.heap.size ≤ q → A q) (hP : st_HP X A S H) (hS : va_S A s.heap H locs)
    (kk : ∀ (H1 : Heap) (locs1 : List Loc), st_HP X A S' H1 → va_S A s.heap H1 locs1 → W p l e R s m args below meth c H1 locs1 (cells + mc) (slots + ms) Q (F0 m (pc + 3) ls (v.toList ++ rest))) : W p l e R s m args below meth c H locs cells slots Q (F0 m pc ls (As.reverse ++ rest)) :=
  r_back (va_runS (As := As) (rest := rest) S5 hM (cwS n S5.2.2.2.2 hg rfl hrc hrs hd hR) (st_pre hK hRO hA hP hS) rfl hn hsize rfl (lv_room hW) hdg hf) hA hP hS kk
/-- a static call of a nest mate's method -/
theorem r_cN {nL n mc ms maxL index : Nat} {own host : String} {y : MethodName} {bytes : ByteArray} {ret : Option FieldType} {rm : Room} {As : List Value} {v : Option Value} (S5 : CallFix p m c cc nL s args lw_g own) (hM : Met l y (Cond.code y bytes maxL ret :: lw_g) rm (st_P X S As) (st_Q X (st_A S) v S') mc ms (st_A S))
    (hg : ∀ w ∈ [Cond.static y, .initialized y.cls, .code y bytes maxL ret], w ∈ lw_g) (hnl : Cond.methodLinkNest own index y host ∈ lw_tbl) (hd : y.cls ≠ "java/lang/invoke/MethodHandle" ∧ y.cls ≠ "java/lang/invoke/VarHandle" ∧ (parseMethodDescriptor y.desc).map (fun d => d.parameters.length) = some n) (hdg : decode cc pc = .ok (.invokestatic index, 3))
    (hrc : rm.cells = mc) (hrs : rm.slots = ms) (hR : rm.frames + 1 ≤ R.frames ∧ 8 + (maxL + 11) + rm.locals ≤ R.locals) (hn : As.length = n) (hsize : ls.size = nL) (hW : (rest.map fun v => v.category).sum ≤ 8) (hf : cells + mc ≤ R.cells ∧ slots + ms ≤ R.slots) (hK : st_KK X s) (hRO : st_RO X A s) (hA : ∀ q, s.heap.size ≤ q → A q) (hP : st_HP X A S H) (hS : va_S A s.heap H locs)
    (kk : ∀ (H1 : Heap) (locs1 : List Loc), st_HP X A S' H1 → va_S A s.heap H1 locs1 → W p l e R s m args below meth c H1 locs1 (cells + mc) (slots + ms) Q (F0 m (pc + 3) ls (v.toList ++ rest))) : W p l e R s m args below meth c H locs cells slots Q (F0 m pc ls (As.reverse ++ rest)) :=
  r_back (va_runSN (As := As) (rest := rest) S5 hM ⟨va_cnB n S5.2.2.2.2 (gi_C (hg _ (by simp))) rfl hrc hrs (hRO.1 _ hnl rfl) (S5.2.2.2.2 _ (hg _ (by simp))) hd hR, S5.2.2.2.2 _ (hg _ (by simp)), trivial⟩ (st_pre hK hRO hA hP hS) rfl hn hsize rfl (lv_room hW) hdg hf) hA hP hS kk
/-- the returns -/
theorem r_iret {mc ms : Nat} {v : Int32} {ret : Option FieldType} (hx : p.tables.exec = Jvm.exec) (hb : c.code = cc) (hr : meth.sig.returnType = ret) (hret : ret = some .int) (hlocks : meth.locks = false) (hdg : decode cc pc = .ok (.ireturn, 1)) (h1 : cells ≤ mc) (h2 : slots ≤ ms) (hP : st_HP X A S H) (hS : va_S A s.heap H locs) :
    W p l e R s m args below meth c H locs cells slots (MQ below (st_Q X A (some (.int v)) S) args s mc ms A) (F0 m pc ls [.int v]) :=
  W.widen h1 h2 (W.iret hx hb (hr.trans hret) (fun t ht _ => ⟨rfl, by rw [ht]; exact hP, hS.F ht⟩) hS.2.2 hdg)
theorem r_zret {mc ms : Nat} {v : Int32} {ret : Option FieldType} (hx : p.tables.exec = Jvm.exec) (hb : c.code = cc) (hr : meth.sig.returnType = ret) (hret : ret = some .boolean) (hv : v = 0 ∨ v = 1) (hlocks : meth.locks = false) (hdg : decode cc pc = .ok (.ireturn, 1)) (h1 : cells ≤ mc) (h2 : slots ≤ ms) (hP : st_HP X A S H) (hS : va_S A s.heap H locs) :
    W p l e R s m args below meth c H locs cells slots (MQ below (st_Q X A (some (.int v)) S) args s mc ms A) (F0 m pc ls [.int v]) :=
  W.widen h1 h2 (W.zret hx hb (hr.trans hret) (by rcases hv with rfl | rfl <;> rfl) (fun t ht _ => ⟨rfl, by rw [ht]; exact hP, hS.F ht⟩) hS.2.2 hdg)
theorem r_lret {mc ms : Nat} {v : Int64} {ret : Option FieldType} (hx : p.tables.exec = Jvm.exec) (hb : c.code = cc) (hr : meth.sig.returnType = ret) (hret : ret = some .long) (hlocks : meth.locks = false) (hdg : decode cc pc = .ok (.lreturn, 1)) (h1 : cells ≤ mc) (h2 : slots ≤ ms) (hP : st_HP X A S H) (hS : va_S A s.heap H locs) :
    W p l e R s m args below meth c H locs cells slots (MQ below (st_Q X A (some (.long v)) S) args s mc ms A) (F0 m pc ls [.long v]) :=
  W.widen h1 h2 (W.lret hx hb (hr.trans hret) (fun t ht _ => ⟨rfl, by rw [ht]; exact hP, hS.F ht⟩) hS.2.2 hdg)
theorem r_aret {mc ms : Nat} {v : Option Nat} {ret : Option FieldType} {rt : FieldType} (hx : p.tables.exec = Jvm.exec) (hb : c.code = cc) (hr : meth.sig.returnType = ret) (hret : ret = some rt) (hrt : (∃ n, rt = .object n) ∨ ∃ t, rt = .array t) (hlocks : meth.locks = false) (hdg : decode cc pc = .ok (.areturn, 1)) (h1 : cells ≤ mc) (h2 : slots ≤ ms) (hP : st_HP X A S H) (hS : va_S A s.heap H locs) :
    W p l e R s m args below meth c H locs cells slots (MQ below (st_Q X A (some (va_rf v)) S) args s mc ms A) (F0 m pc ls [va_rf v]) :=
  W.widen h1 h2 (W.aret hx hb (hr.trans hret) hrt (by cases v; exact Or.inl rfl; exact Or.inr ⟨_, rfl⟩) (fun t ht _ => ⟨rfl, by rw [ht]; exact hP, hS.F ht⟩) hS.2.2 hdg)
theorem r_vret {mc ms : Nat} {ret : Option FieldType} (hx : p.tables.exec = Jvm.exec) (hb : c.code = cc) (hr : meth.sig.returnType = ret) (hret : ret = none) (hlocks : meth.locks = false) (hdg : decode cc pc = .ok (.return_, 1)) (h1 : cells ≤ mc) (h2 : slots ≤ ms) (hP : st_HP X A S H) (hS : va_S A s.heap H locs) :
    W p l e R s m args below meth c H locs cells slots (MQ below (st_Q X A none S) args s mc ms A) (F0 m pc ls []) :=
  W.widen h1 h2 (W.vret hx hb (hr.trans hret) (fun t ht _ => ⟨rfl, by rw [ht]; exact hP, hS.F ht⟩) hS.2.2 hdg)
end RW2
/-- a contract out of the body's walk -/
theorem st_ofW {l : Launch} {X : st_I} {y : MethodName} {cc : ByteArray} {maxL : Nat} {ret : Option FieldType} {rm : Room} {av : List Value} {S S' : st_T} {v : Option Value} (hy : plainName y.cls = true) (hsl : (lg_sl av).length ≤ maxL)
    (body : ∀ (p : Program) (e : Env) (s : State) (m : MethodId) (args : Array Value) (below : List Frame) (meth : Method) (c : Code), p.tables.exec = Jvm.exec → c.code = cc → meth.sig.returnType = ret → c.maxLocals = maxL → meth.locks = false → meth.name = y.name → (∀ w ∈ lw_g, w.before args s = true) → s.vm.findClass y.cls = some m.cls → st_KK X s → st_RO X (st_A S) s → (∀ q, s.heap.size ≤ q → st_A S q) → st_HP X (st_A S) S s.heap → va_S (st_A S) s.heap s.heap [] → ∀ ls, lv_has ls maxL (lv_args 0 av) →
      W p l e rm s m args below meth c s.heap [] 0 0 (MQ below (st_Q X (st_A S) v S') args s rm.cells rm.slots (st_A S)) (F0 m 0 ls [])) : Met l y (Cond.code y cc maxL ret :: lw_g) rm (st_P X S av) (st_Q X (st_A S) v S') rm.cells rm.slots (st_A S) := by
  refine Met.ofW (cc := cc) (maxL := maxL) (ret := ret) hy rfl ?_
  intro p e s m args below meth c s₁ B hml hv
  obtain ⟨rfl, hP, hK, hRO⟩ := hv
  have hts := atoms_spec (ws := Cond.code y cc maxL ret :: lw_g) B.pre
  have hl := lv_entry av (n := maxL) hsl
  rw [lg_entry_eq]
  exact body p e s m _ below meth c B.exec B.bytes B.returns hml B.notSynchronized (name_of_methodNamed B.named B.method).1 (fun w h => hts w (List.mem_cons_of_mem _ h)) (findClass_of_methodNamed B.named) hK hRO (fun q h => Or.inr (by rw [← hP.2.1]; exact h)) hP va_S.rf _ hl
