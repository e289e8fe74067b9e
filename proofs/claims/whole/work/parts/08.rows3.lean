theorem gi_X {own : String} {idx maxL : Nat} {y : MethodName} {bytes : ByteArray} {ret : Option FieldType} (h : ∀ w ∈ [Cond.methodLink own idx y, .static y, .initialized y.cls, .code y bytes maxL ret], w ∈ lw_g) : GoodIn lw_g (va_wsS own idx y (Cond.code y bytes maxL ret :: lw_g)) := by
  refine gi_of fun w hw => ?_
  rcases List.mem_append.mp hw with h1 | h1
  · exact h w (by simp only [List.mem_cons, List.not_mem_nil, or_false] at h1 ⊢; rcases h1 with e | e | e <;> simp [e])
  · rcases List.mem_cons.mp h1 with e | e
    · exact h w (by simp [e])
    · exact e
section RW3
variable {p : Program} {l : Launch} {e : Env} {R : Room} {s : State} {m : MethodId} {args : Array Value} {below : List Frame} {meth : Method} {c : Code} {H : Heap} {locs : List Loc} {cells slots : Nat} {Q : State → Prop}
variable {cc : ByteArray} {pc : Nat} {ls : Array Slot} {rest : List Value} {X : st_I} {S S' : st_T} {A : Nat → Prop} {a : Nat}
/-- a static call of another class's method -/
theorem r_cX {nL n mc ms maxL index : Nat} {own : String} {y : MethodName} {bytes : ByteArray} {ret : Option FieldType} {rm : Room} {As : List Value} {v : Option Value} (S5 : CallFix p m c cc nL s args lw_g own) (hM : Met l y (Cond.code y bytes maxL ret :: lw_g) rm (st_P X S As) (st_Q X (st_A S) v S') mc ms (st_A S))
    (hg : GoodIn lw_g (va_wsS own index y (Cond.code y bytes maxL ret :: lw_g))) (hd : y.cls ≠ "java/lang/invoke/MethodHandle" ∧ y.cls ≠ "java/lang/invoke/VarHandle" ∧ (parseMethodDescriptor y.desc).map (fun d => d.parameters.length) = some n) (hdg : decode cc pc = .ok (.invokestatic index, 3))
    (hrc : rm.cells = mc) (hrs : rm.slots = ms) (hR : rm.frames + 1 ≤ R.frames ∧ 8 + (maxL + 11) + rm.locals ≤ R.locals) (hn : As.length = n) (hsize : ls.size = nL) (hW : (rest.map fun v => v.category).sum ≤ 8) (hf : cells + mc ≤ R.cells ∧ slots + ms ≤ R.slots) (hK : st_KK X s) (hRO : st_RO X A s) (hA : ∀ q, s.heap.size ≤ q → A q) (hP : st_HP X A S H) (hS : va_S A s.heap H locs)
    (kk : ∀ (H1 : Heap) (locs1 : List Loc), st_HP X A S' H1 → va_S A s.heap H1 locs1 → W p l e R s m args below meth c H1 locs1 (cells + mc) (slots + ms) Q (F0 m (pc + 3) ls (v.toList ++ rest))) : W p l e R s m args below meth c H locs cells slots Q (F0 m pc ls (As.reverse ++ rest)) :=
  r_back (va_runS (As := As) (rest := rest) S5 hM (va_cwS n S5.2.2.2.2 hg rfl hrc hrs hd hR) (st_pre hK hRO hA hP hS) rfl hn hsize rfl (lv_room hW) hdg hf) hA hP hS kk
theorem r_alen2 (hx : p.tables.exec = Jvm.exec) (hb : c.code = cc) (hK : st_KK X s) (hRO : st_RO X A s) (hP : st_HP X A S H) (hS : va_S A s.heap H locs) (hka : (20 ≤ st_K S a ∧ st_K S a < 25) ∨ st_K S a = 30) (hdg : decode cc pc = .ok (.arraylength, 1))
    (kk : W p l e R s m args below meth c H locs cells slots Q (F0 m (pc + 1) ls (.int (nI (st_ln S a)) :: rest))) : W p l e R s m args below meth c H locs cells slots Q (F0 m pc ls (.ref a :: rest)) := by
  rcases hka with h | h
  · exact r_alen hx hb hK hP h hdg kk
  · obtain ⟨h1, h2, h3⟩ := hP.2.2
    obtain ⟨h4, h5⟩ := h2 a h
    rw [h5] at kk
    rw [h4, h1]
    exact va_tlen hx hb hRO.2.2.2.2.1 hS rfl hdg kk
theorem r_aaldq (hx : p.tables.exec = Jvm.exec) (hb : c.code = cc) (hK : st_KK X s) (hP : st_HP X A S H) (hka : st_K S a = 24) {i : Int32} (hin : vp_in i (st_ln S a)) {q : Nat} (hq : st_ro S a i.toNatClampNeg = some q) (hdg : decode cc pc = .ok (.aaload, 1))
    (kk : W p l e R s m args below meth c H locs cells slots Q (F0 m (pc + 1) ls (.ref q :: rest))) : W p l e R s m args below meth c H locs cells slots Q (F0 m pc ls (.int i :: .ref a :: rest)) :=
  r_aald hx hb hK hP hka hin hdg (by rw [hq]; exact kk)
end RW3
