/-! exceptions: what the class throws, and what the law catches -/
def st_sx (S : st_T) (n : Nat) : st_T := (st_K S, st_fi S, st_fr S, st_ln S, st_ri S, st_rl S, st_ro S, n, st_sa S)
abbrev xt_E : String := "java/util/NoSuchElementException"
abbrev xt_N : List String := ["java/lang/RuntimeException", "java/lang/Exception"]
/-! throw new NoSuchElementException("..") (follows the library's Stand.ctorThrowS; the first link of the chain of constructors is entry 13, not 7) -/
def xt_A : List Cond := Bundle.throwableAtoms ++ Bundle.throwableSAtoms ++ Bundle.passSAtoms xt_E "java/lang/RuntimeException" 13 prog_30_method_4_code ++ Bundle.chainSAtoms "java/lang/RuntimeException" ["java/lang/Exception"] ++
  [.methodLink RX8 151 (Bundle.initS xt_E), .instantiable xt_E 6, .castable xt_E xt_E, .selects xt_E Bundle.tFill0 Bundle.tFill0, .selects xt_E Bundle.tFill Bundle.tFill,
   .lays xt_E Bundle.tN "cause" "Ljava/lang/Throwable;", .lays xt_E Bundle.tN "stackTrace" Bundle.steD, .lays xt_E Bundle.tN "suppressedExceptions" Bundle.listD, .lays xt_E Bundle.tN "detailMessage" "Ljava/lang/String;",
   .isRef (.static Bundle.tN "UNASSIGNED_STACK" Bundle.steD), .isRef (.static Bundle.tN "SUPPRESSED_SENTINEL" Bundle.listD),
   .fieldLink Bundle.tN 198 Bundle.tN "backtrace" "Ljava/lang/Object;", .lays Bundle.tN Bundle.tN "backtrace" "Ljava/lang/Object;", .lays xt_E Bundle.tN "backtrace" "Ljava/lang/Object;"]
theorem xt_d0 : decode prog_30_method_4_code 0 = .ok (.aload_n 0, 1) := by decide +kernel
theorem xt_d1 : decode prog_30_method_4_code 1 = .ok (.aload_n 1, 1) := by decide +kernel
theorem xt_d2 : decode prog_30_method_4_code 2 = .ok (.invokespecial 13, 3) := by decide +kernel
theorem xt_d5 : decode prog_30_method_4_code 5 = .ok (.return_, 1) := by decide +kernel
section XTC
variable {p : Program} {l : Launch} {e : Env} {R : Room} {s : State} {m₀ : MethodId} {args : Array Value} {below : List Frame} {meth : Method} {c : Code} {W0 : State} {locs : List Loc} {cells slots : Nat}
set_option maxHeartbeats 4000000 in
theorem xt_ctor (X : Stand p l e R s m₀ args below meth c W0 locs cells slots) (hexec : p.tables.exec = Jvm.exec) (htr : e.platform.stackTraces = false)
    (hown : s.vm.findClass RX8 = some m₀.cls) (h : ∀ a ∈ xt_A, a.before args s = true)
    (hlocs : ∀ x ∈ locs, ∀ cell, s.heap[x.base]? = some cell → cell.vm.isStatics = false)
    {a : Addr} {cX : ClassId} {kX : Class} (hfoundX : s.vm.findClass xt_E = some cX) (hkX : s.vm.classes[cX]? = some kX) (hcell : W0.heap[a]? = some (freshCell cX kX)) (hnew : s.heap.size ≤ a)
    {msg : Value} (hmsg : msg.isRef = true)
    {g : JFrame} (hg : g.method = m₀) (hsize : g.locals.size = c.maxLocals) (hlocked : g.locked = none) (hentered : g.entered = []) {rest : List Value} (hstack : g.stack = msg :: .ref a :: .ref a :: rest)
    (hd6 : decode c.code g.pc = .ok (.invokespecial 151, 3)) (hd9 : decode c.code (g.pc + 3) = .ok (.athrow, 1)) (hout : ∀ x ∈ c.exceptionTable.toList, covers x (g.pc + 3) = false)
    (hRframes : 5 < R.frames) (hRlocals : 2 * g.monitorRoom + ((Value.ref a :: rest).map fun v => v.category).sum + (13 * (2 + 1) + 42) ≤ R.locals) (hlocks : meth.locks = false) :
    ∃ U : State, Steps p.tables e below (W0.setTop g) U ∧ U.status = .running ∧ Ended U below (.threw a) ∧ s.WarmedH U.vm ∧ s.sameButNew ({ U with vm := s.vm } : State) locs cells slots ∧
      ∃ ce, U.heap[a]? = some ce ∧ ce.vm = .none ∧ ce.cls = cX := by
  have howns : e.platform.frameOwnsMonitors = true := by rw [X.admits.platform]
  have hfin : e.platform.finalization = false := by rw [X.admits.platform]
  have hpl : e.platform.magicAccessors = ({} : Platform).magicAccessors := by rw [X.admits.platform]
  have a' : ∀ x, x ∈ xt_A → x.holds args s none s [] = true := fun x hx => h x hx
  obtain ⟨T, Z0, L, -, Y⟩ := ThrowableC.of_atoms (args := args) howns hfin hpl (fun x hx => h x (by simp [xt_A, hx]))
  obtain ⟨Z, M, LZ, LM, hnZ⟩ := Init0T.ofS_atoms (args := args) hpl L Y (fun x hx => h x (by simp [xt_A, hx]))
  obtain ⟨P1, L1, hP1m, hP1s⟩ := PassC.ofS_atoms (args := args) (s := s) hpl (X := xt_E) (Y := "java/lang/RuntimeException") (index := 13) (bytes := prog_30_method_4_code) (by decide) (by decide) xt_d0 xt_d1 xt_d2 xt_d5 (fun x hx => h x (by simp [xt_A, hx]))
  obtain ⟨P2, Ps2, hlen2, L2, hL2, hP2m, hlink1b, hlinkb⟩ := Bundle.chainS (args := args) hpl hnZ ["java/lang/Exception"] "java/lang/RuntimeException" (by decide +kernel) (by decide +kernel) (fun x hx => h x (by simp [xt_A, hx]))
  have hfound : s.vm.findClass xt_E = some P1.m.cls := findClass_of_methodNamed hP1m
  cases Option.some.inj (hfoundX.symm.trans hfound)
  obtain ⟨c1, kX', hc1, hk, hord, -, -, hn6⟩ := Cond.instantiable_spec (a' (.instantiable xt_E 6) (by simp [xt_A]))
  cases Option.some.inj (hc1.symm.trans hfound)
  cases Option.some.inj (hkX.symm.trans hk)
  have hsel0 : selectMethod e.platform s.vm P1.m.cls T.fill0 = .method T.fill0 := by
    obtain ⟨c2, r2, m2, q1, q2, q3, q4, -⟩ := Cond.selects_spec (a' (.selects xt_E Bundle.tFill0 Bundle.tFill0) (by simp [xt_A]))
    cases Option.some.inj (q1.symm.trans hfound)
    cases Option.some.inj (q2.symm.trans (State.methodFound?_of_named Y.fill0 (by decide)))
    cases Option.some.inj (q3.symm.trans Y.fill0)
    rw [Launch.admits_selectMethod X.admits]; exact q4
  have hselF : selectMethod e.platform s.vm P1.m.cls T.fill = .method T.fill := by
    obtain ⟨c2, r2, m2, q1, q2, q3, q4, -⟩ := Cond.selects_spec (a' (.selects xt_E Bundle.tFill Bundle.tFill) (by simp [xt_A]))
    cases Option.some.inj (q1.symm.trans hfound)
    cases Option.some.inj (q2.symm.trans (State.methodFound?_of_named Y.fill (by decide)))
    cases Option.some.inj (q3.symm.trans Y.fill)
    rw [Launch.admits_selectMethod X.admits]; exact q4
  obtain ⟨cellS0, hcS0, hiss⟩ := Y.statics
  obtain ⟨u0, hu0⟩ := Cond.staticRefV Y.unassigned L.unassignedStatic L.statics hcS0 hiss (a' (.isRef (.static Bundle.tN "UNASSIGNED_STACK" Bundle.steD)) (by simp [xt_A]))
  obtain ⟨sen, hsen⟩ := Cond.staticRefV Y.sentinel L.sentinelStatic L.statics hcS0 hiss (a' (.isRef (.static Bundle.tN "SUPPRESSED_SENTINEL" Bundle.listD)) (by simp [xt_A]))
  obtain ⟨ci198, i198, fB, hk198, hg198, ha198, hsB, -, hnB, htB, hffB⟩ := Cond.ownField (t := .object "java/lang/Object") Y.found L.cls (by decide +kernel) (a' (.fieldLink Bundle.tN 198 Bundle.tN "backtrace" "Ljava/lang/Object;") (by simp [xt_A])) (a' (.lays Bundle.tN Bundle.tN "backtrace" "Ljava/lang/Object;") (by simp [xt_A])) e.platform hpl
  obtain ⟨cellS, hcS', heS, -, hkeep⟩ := X.same.2.2.2.2.2 T.aS cellS0 hcS0
  have hcellS : W0.heap[T.aS]? = some cellS := hcS'
  have hout' : ∀ i, (⟨T.aS, i⟩ : Loc) ∉ locs := fun i hmem => by
    have := hlocs _ hmem cellS0 hcS0
    rw [hiss] at this; cases this
  have hknownS : cellS.vm ≠ .unknown := by
    rw [heS]; intro hu
    rw [show cellS0.vm = .unknown from hu] at hiss
    cases hiss
  have hneS : T.aS ≠ a := Nat.ne_of_lt (Nat.lt_of_lt_of_le (Array.getElem?_eq_some_iff.mp hcS0).1 hnew)
  obtain ⟨iM, hffM⟩ := Y.msg
  obtain ⟨tyC, dC, hdC, hdnC⟩ := Cond.laysAt hfound hk Y.cause (a' (.lays xt_E Bundle.tN "cause" "Ljava/lang/Throwable;") (by simp [xt_A]))
  obtain ⟨tyS, dS, hdS, hdnS⟩ := Cond.laysAt hfound hk Y.stack (a' (.lays xt_E Bundle.tN "stackTrace" Bundle.steD) (by simp [xt_A]))
  obtain ⟨tyP, dP, hdP, hdnP⟩ := Cond.laysAt hfound hk Y.supp (a' (.lays xt_E Bundle.tN "suppressedExceptions" Bundle.listD) (by simp [xt_A]))
  obtain ⟨tyM, dM, hdM, hdnM⟩ := Cond.laysAt hfound hk hffM (a' (.lays xt_E Bundle.tN "detailMessage" "Ljava/lang/String;") (by simp [xt_A]))
  obtain ⟨tyB, dB, hdB, hdnB⟩ := Cond.laysAt hfound hk hffB (a' (.lays xt_E Bundle.tN "backtrace" "Ljava/lang/Object;") (by simp [xt_A]))
  have bC := Cond.laysApart hdB hdC hdnB hdnC (by rw [hnB, Y.causeName]; decide)
  have bS := Cond.laysApart hdB hdS hdnB hdnS (by rw [hnB, Y.stackName]; decide)
  have bP := Cond.laysApart hdB hdP hdnB hdnP (by rw [hnB, Y.suppName]; decide)
  have hskip : SkipFacts T e.platform s (fun u => u) u0 ((preparedCellV T.toThrowableT (freshCell P1.m.cls kX) a u0 sen).withEntry W0.cur) :=
    ⟨{ ci198 := ci198, i198 := i198, fBack := fB }, ⟨hk198, hg198, ha198, hsB⟩, by
      have := fresh_default (c := P1.m.cls) tyB
      rw [htB] at this
      simpa [preparedCellV, Cell.setSlot, Cell.withEntry, Array.getElem?_setIfInBounds, bC, bS, bP, bC.symm, bS.symm, bP.symm, defaultValue] using this, fun _ _ => rfl⟩
  obtain ⟨tm, methC, cdC, kC, vm₁, hnC, -, -, -, -, -, -, -, hW₁, st1⟩ := Steps.initColdS (tb := p.tables) (e := e) (below := below) (s := s) (U := W0) X.here hexec X.warmed hpl hown (t := Bundle.initS xt_E) rfl rfl (by decide)
    (a' (.methodLink RX8 151 (Bundle.initS xt_E)) (by simp [xt_A])) (h (.instanceMethod (Bundle.initS xt_E)) (by simp [xt_A, Bundle.passSAtoms])) (bytes := prog_30_method_4_code) (maxL := 2) (h (.code (Bundle.initS xt_E) prog_30_method_4_code 2 none) (by simp [xt_A, Bundle.passSAtoms]))
    (f := g) hg (a := a) (msg := msg) (rest := .ref a :: rest) hstack hd6
  cases Option.some.inj (hnC.symm.trans hP1m)
  have X₁ := X.noted hW₁
  obtain ⟨vm₂, X₂, st2⟩ := X₁.ctorMessageOffV hexec (g := { g with stack := .ref a :: rest }) hg hsize T L Z LZ M LM (P1 :: P2 :: Ps2)
    (fun P hP => by rcases List.mem_cons.mp hP with rfl | hP; exact L1; rcases List.mem_cons.mp hP with rfl | hP; exact L2; exact hL2 P hP) ⟨Option.some.inj (hP1s.symm.trans hP2m), hlink1b, hlinkb⟩ (u0 := u0) (sen := sen) (self := a) hmsg (cell := freshCell P1.m.cls kX) (cellS := cellS)
    hcell (fun _ => by simp) (by simp) rfl rfl hsel0 hselF hcellS hneS hknownS (by rw [hkeep _ (hout' _)]; exact hu0) (by rw [hkeep _ (hout' _)]; exact hsen)
    (Takes.of_laid hk hord tyC (by rw [Y.causeType]; rfl)) (Takes.of_laid hk hord tyS (by rw [Y.stackType]; exact fits_refV_array _ u0)) (Takes.of_laid hk hord tyP (by rw [Y.suppType]; exact fits_refV_object _ sen))
    (Takes.of_laid hk hord tyM (by rw [Y.msgType]; exact fits_refV_object _ ⟨msg, hmsg⟩)) Y.objLocals hskip htr [] hd6
    (by simp only [List.length_cons, hlen2]; omega) (by simp only [List.length_cons, hlen2]; exact hRlocals)
  obtain ⟨hwalk, hrun, hended, hWU, hsame⟩ := X₂.athrowLeaves hexec (g := { g with stack := .ref a :: rest, pc := g.pc + 3 }) hg hlocked hentered hout (a := a) (rest := rest) rfl hd9
  obtain ⟨c3, c4, hc3, hc4, hasg⟩ := Cond.castable_spec (a' (.castable xt_E xt_E) (by simp [xt_A]))
  cases Option.some.inj (hc3.symm.trans hfound)
  cases Option.some.inj (hc4.symm.trans hfound)
  have hlt : a < ((W0.setVm vm₁).setVm vm₂).heap.size := (Array.getElem?_eq_some_iff.mp hcell).1
  have hU := heapAt_setCell_self (s := (W0.setVm vm₁).setVm vm₂) (plainBareV T.toThrowableT (freshCell P1.m.cls kX) a u0 sen msg) hlt
  refine ⟨_, st1 _ (fun acts => ?_), hrun, hended, hWU, hsame.weaken (fun y hy hlt' => ?_) (Nat.le_refl _) (Nat.le_refl _), _, hU, rfl, rfl⟩
  · rw [doInvoke_state]
    exact st2 _ hwalk
  · rcases List.mem_append.mp hy with h1 | h1
    · exact h1
    · exfalso
      have hb : y.base = a := by
        simp only [List.mem_cons, List.not_mem_nil, or_false] at h1
        rcases h1 with rfl | rfl | rfl | rfl | rfl <;> rfl
      rw [hb] at hlt'
      exact Nat.not_lt.mpr hnew hlt'
end XTC
theorem xt_good : ∀ w ∈ (xt_A.filter vx_no).filter goodWord, w ∈ lw_tbl := by decide +kernel
theorem xt_bad : ∀ w ∈ (xt_A.filter vx_no).filter (fun w => !goodWord w), w ∈ lw_tbl ∧ st_wr w = true := by decide +kernel
theorem xt_ot : ∀ w ∈ Cond.classLink RX8 147 xt_E :: Cond.initialized xt_E :: xt_A.filter vx_no, vx_ot w = true := by decide +kernel
theorem st_HP_sx {X : st_I} {A : Nat → Prop} {S : st_T} {H H1 : Heap} (h : st_HP X A S H) (hz : H.size ≤ H1.size) (hk : ∀ q : Nat, q < H.size → H1[q]? = H[q]?) : st_HP X A (st_sx S H1.size) H1 := by
  obtain ⟨⟨L, h1, h2, h3⟩, h4, h5⟩ := h
  refine ⟨⟨L, h1, ?_, h3⟩, rfl, h5⟩
  exact h2.kept (fun k x hx => hk x.1 ((h2 k x hx).lt))
def st_XC (X : st_I) (A : Nat → Prop) (SE : st_T) : String → State → State → Prop := fun E st t => E = xt_E ∧ st_HP X A (st_sx SE t.heap.size) t.heap ∧ st_nx SE ≤ t.heap.size ∧ va_F A st t
def st_NQ : Array Value → State → Outcome → State → Prop := fun _ _ _ _ => False
def st_Q1 (X : st_I) (A : Nat → Prop) (SE : st_T) : Array Value → State → Outcome → State → Prop := fun _ st oc t => oc = .returned (some (.int 1)) ∧ st_HP X A (st_sx SE t.heap.size) t.heap ∧ st_nx SE ≤ t.heap.size ∧ va_F A st t
theorem st_use {args : Array Value} {s : State} {w : Cond} (hw : st_wr w = true) (h : va_Nw w s) : w.before args s = true := by
  cases w <;> first | (exact va_Nw.use rfl h) | (simp [st_wr] at hw)
section THR
variable {p : Program} {l : Launch} {e : Env} {R : Room} {s : State} {m : MethodId} {args : Array Value} {below : List Frame} {meth : Method} {c : Code} {H : Heap} {locs : List Loc} {cells slots : Nat} {Q : State → Prop}
variable {cc : ByteArray} {pc : Nat} {ls : Array Slot} {rest : List Value} {X : st_I} {S S' : st_T} {A : Nat → Prop} {a : Nat}
theorem r_thr {mc ms is : Nat} {text : String} (hlt : l.stackTraces = false) (hx : p.tables.exec = Jvm.exec) (hb : c.code = cc) (hts : ∀ w ∈ lw_g, w.before args s = true) (hml : c.maxLocals = ls.size) (hown : s.vm.findClass RX8 = some m.cls) (hlocks : meth.locks = false) (hex : ∀ x ∈ c.exceptionTable.toList, False) (hmem : (is, text) ∈ st_mx)
    (hck : Cond.classLink RX8 147 xt_E ∈ lw_g) (hck2 : Cond.initialized xt_E ∈ lw_g)
    (d0 : decode cc pc = .ok (.new 147, 3)) (d3 : decode cc (pc + 3) = .ok (.dup, 1)) (d4 : decode cc (pc + 4) = .ok (.ldc is, 2)) (d6 : decode cc (pc + 6) = .ok (.invokespecial 151, 3)) (d9 : decode cc (pc + 9) = .ok (.athrow, 1))
    (hRframes : 5 < R.frames) (hlo : (rest.map fun v => v.category).sum + 82 ≤ R.locals) (hRcells : cells + 1 ≤ R.cells) (hRslots : slots + 6 ≤ R.slots) (hc : cells + 1 ≤ mc) (hs : slots + 6 ≤ ms) (hRO : st_RO X A s) (hP : st_HP X A S H) (hS : va_S A s.heap H locs) :
    W p l e R s m args below meth c H locs cells slots (vx_MQ below st_NQ (st_XC X A S) args s mc ms A) (F0 m pc ls rest) := by
  obtain ⟨sa, hstr⟩ := hRO.2.2.2.2.2.2.2.2.2.2.2 _ hmem
  have hU := hRO.2.2.2.2.2.2.2.2.2.1
  have hN := hRO.2.2.2.2.2.2.2.2.2.2.1
  have hat : ∀ w ∈ xt_A.filter vx_no, w.before args s = true := by
    intro w hw
    by_cases g : goodWord w = true
    · exact hts w (List.mem_filter.mpr ⟨xt_good w (List.mem_filter.mpr ⟨hw, g⟩), g⟩)
    · obtain ⟨g1, g2⟩ := xt_bad w (List.mem_filter.mpr ⟨hw, by simp [g]⟩)
      exact st_use g2 (hRO.1 w g1 g2)
  intro T hT X9
  have htr : e.platform.stackTraces = false := (show e.platform.stackTraces = l.stackTraces by rw [X9.admits.platform]).trans hlt
  have Y := vx_rebase X9 (R' := { frames := R.frames, locals := R.locals, cells := 1, slots := 6 }) (Nat.le_refl _) (Nat.le_refl _) hRcells hRslots
  obtain ⟨s', hA⟩ : ∃ z, z = (T.setVm s.vm).setFrames (.invoking m args :: below) := ⟨_, rfl⟩
  rw [← hA] at Y
  have hvm : s'.vm = s.vm := by rw [hA]; rfl
  have hhp : s'.heap = H := by rw [hA]; exact hT
  have hW0 : s.WarmedH s'.vm := by rw [hvm]; exact State.WarmedH.refl s
  have hat' : ∀ w ∈ xt_A.filter vx_no, w.before args s' = true := fun w hw => vx_ot_at hW0 hvm.symm (xt_ot w (List.mem_cons_of_mem _ (List.mem_cons_of_mem _ hw))) (hat w hw)
  have hk' : (Cond.classLink RX8 147 xt_E).before args s' = true := vx_ot_at hW0 hvm.symm (xt_ot _ List.mem_cons_self) (hts _ hck)
  have hini' : (Cond.initialized xt_E).before args s' = true := vx_ot_at hW0 hvm.symm (xt_ot _ (List.mem_cons_of_mem _ List.mem_cons_self)) (hts _ hck2)
  have hU' : vx_Zq Bundle.tN "UNASSIGNED_STACK" Bundle.steD A s' s'.heap := by rw [hhp]; exact vx_Zq.moved hW0.alike (hU.kept hS.2.1)
  have hN' : vx_Zq Bundle.tN "SUPPRESSED_SENTINEL" Bundle.listD A s' s'.heap := by rw [hhp]; exact vx_Zq.moved hW0.alike (hN.kept hS.2.1)
  have h : ∀ w ∈ xt_A, w.before args s' = true := vx_own hat' (vx_isRefq hU'.1) (vx_isRefq hN'.1) hU'.2.word hN'.2.word
  have hown' : s'.vm.findClass RX8 = some m.cls := by rw [hvm]; exact hown
  have hins : (Cond.instantiable xt_E 6).before args s' = true := h _ (by simp [xt_A])
  obtain ⟨vm₁, cX, kX, hfX, hkX, -, -, X₁, st1⟩ := Y.newCold hx (own := RX8) (C := xt_E) (index := 147) (n := 6) hown' hk' hins hini'
    (g := F0 m pc ls rest) rfl (by rw [hb]; exact d0) (Nat.le_refl _) (Nat.le_refl _)
  generalize hT1 : (T.setVm vm₁).pushCell { cls := cX, slots := kX.instanceTypes.map defaultValue, vm := .none } = T1 at X₁ st1
  have hcat : (Value.ref T.heap.size).category = 1 := rfl
  have hcellA : T1.heap[T.heap.size]? = some (freshCell cX kX) := by rw [← hT1]; exact State.heap_pushCell_size _ _
  have d3' : decode c.code (pc + 3) = .ok (.dup, 1) := by rw [hb]; exact d3
  have d4' : decode c.code (pc + 4) = .ok (.ldc is, 2) := by rw [hb]; exact d4
  have hstr' : vk_R RX8 is text sa s' := vk_R.warm hW0 hstr
  obtain ⟨U, hsteps, hrun, hend, hW, hsame, ce, hce, hO1, hO2⟩ := xt_ctor X₁ hx htr hown' h (fun x hx => nomatch hx) hfX hkX hcellA (by rw [hhp, hT]; exact Nat.le_refl _) (msg := .ref sa) rfl
    (g := { method := m, pc := pc + 6, locals := ls, stack := .ref sa :: .ref T.heap.size :: .ref T.heap.size :: rest, locked := none }) rfl hml.symm rfl rfl (rest := rest) rfl
    (by rw [hb]; exact d6) (by rw [hb]; exact d9) (fun x hx => (hex x hx).elim) hRframes (by simp only [List.map_cons, List.sum_cons, hcat]; show 2 * 0 + _ + _ ≤ _; omega) hlocks
  obtain ⟨f1, f2⟩ := vx_frame hsame
  rw [hhp] at f1 f2
  have hWs : s.WarmedH U.vm := State.WarmedH.trans hW0 hW
  have hcl : s.vm.findClass xt_E = some ce.cls := by
    rw [hO2, ← hvm]
    exact hfX
  have hall : s.sameButNew ({ U with vm := s.vm } : State) locs mc ms := by
    subst hA
    obtain ⟨e1, e2⟩ := hsame
    rw [State.setFrames_setFrames] at e1
    have h2 : (T.setVm s.vm).sameButNew ({ U with vm := s.vm } : State) [] (0 + 1) (0 + 6) := ⟨e1, e2⟩
    have h3 := X9.same.trans h2
    rw [List.append_nil] at h3
    exact h3.mono hc hs
  have hk2 : ∀ q : Nat, q < H.size → U.heap[q]? = H[q]? := fun q hq => f2 q hq (fun z hz => nomatch hz)
  refine ⟨U, ?_, .threw T.heap.size, hrun, hend, Or.inr ⟨T.heap.size, rfl, xt_E, ce, locs, ⟨rfl, st_HP_sx hP f1 hk2, by rw [← hP.2.1]; exact f1, Nat.le_trans hS.1 f1, fun q h1 h2 => by rw [hk2 q (Nat.lt_of_lt_of_le h1 hS.1)]; exact hS.2.1 q h1 h2⟩, hce, hO1, hcl, hWs, hall, hS.2.2⟩⟩
  refine st1 _ ?_
  show Steps p.tables e below (T1.setTop { method := m, pc := pc + 3, locals := ls, stack := .ref T.heap.size :: rest, locked := none }) _
  jvm_step X₁.here [X₁.here.top, hx, d3', Value.category]
  exact X₁.ldcString hx (own := RX8) (text := text) (index := is) (a := sa) hown' hstr'.1 hstr'.2
    (g := { method := m, pc := pc + 4, locals := ls, stack := .ref T.heap.size :: .ref T.heap.size :: rest, locked := none }) rfl d4' _ hsteps
end THR
/-- a contract of a method that throws -/
theorem st_ofX {l : Launch} {X : st_I} {y : MethodName} {cc : ByteArray} {maxL : Nat} {ret : Option FieldType} {rm : Room} {av : List Value} {S S' : st_T} (hy : plainName y.cls = true) (hsl : (lg_sl av).length ≤ maxL)
    (body : ∀ (p : Program) (e : Env) (s : State) (m : MethodId) (args : Array Value) (below : List Frame) (meth : Method) (c : Code), (∀ x ∈ c.exceptionTable.toList, False) → p.tables.exec = Jvm.exec → c.code = cc → meth.sig.returnType = ret → c.maxLocals = maxL → meth.locks = false → meth.name = y.name → (∀ w ∈ lw_g, w.before args s = true) → s.vm.findClass y.cls = some m.cls → st_KK X s → st_RO X (st_A S) s → (∀ q, s.heap.size ≤ q → st_A S q) → st_HP X (st_A S) S s.heap → va_S (st_A S) s.heap s.heap [] → ∀ ls, lv_has ls maxL (lv_args 0 av) →
      W p l e rm s m args below meth c s.heap [] 0 0 (vx_MQ below st_NQ (st_XC X (st_A S) S') args s rm.cells rm.slots (st_A S)) (F0 m 0 ls [])) : vx_Met l y (Cond.code y cc maxL ret :: lw_g) rm (st_P X S av) st_NQ (st_XC X (st_A S) S') rm.cells rm.slots (st_A S) := by
  refine vx_ofW (cc := cc) (maxL := maxL) (ret := ret) hy rfl ?_
  intro p e s m args below meth c s₁ B hml hex hv
  obtain ⟨rfl, hP, hK, hRO⟩ := hv
  have hts := atoms_spec (ws := Cond.code y cc maxL ret :: lw_g) B.pre
  have hl := lv_entry av (n := maxL) hsl
  rw [lg_entry_eq]
  exact body p e s m _ below meth c hex B.exec B.bytes B.returns hml B.notSynchronized (name_of_methodNamed B.named B.method).1 (fun w h => hts w (List.mem_cons_of_mem _ h)) (findClass_of_methodNamed B.named) hK hRO (fun q h => Or.inr (by rw [← hP.2.1]; exact h)) hP va_S.rf _ hl
/-- a contract of a method with an exception table -/
theorem st_ofT {l : Launch} {X : st_I} {y : MethodName} {cc : ByteArray} {maxL : Nat} {ret : Option FieldType} {hh : List (Nat × Nat × Nat × Nat)} {rm : Room} {av : List Value} {S : st_T} {Qc : Array Value → State → Outcome → State → Prop} (hy : plainName y.cls = true) (hsl : (lg_sl av).length ≤ maxL)
    (body : ∀ (p : Program) (e : Env) (s : State) (m : MethodId) (args : Array Value) (below : List Frame) (meth : Method) (c : Code), c.exceptionTable.toList = tableOf hh → p.tables.exec = Jvm.exec → c.code = cc → meth.sig.returnType = ret → c.maxLocals = maxL → meth.locks = false → meth.name = y.name → (∀ w ∈ lw_g, w.before args s = true) → s.vm.findClass y.cls = some m.cls → st_KK X s → st_RO X (st_A S) s → (∀ q, s.heap.size ≤ q → st_A S q) → st_HP X (st_A S) S s.heap → va_S (st_A S) s.heap s.heap [] → ∀ ls, lv_has ls maxL (lv_args 0 av) →
      W p l e rm s m args below meth c s.heap [] 0 0 (MQ below Qc args s rm.cells rm.slots (st_A S)) (F0 m 0 ls [])) : Met l y (Cond.codeWith y cc maxL ret hh :: lw_g) rm (st_P X S av) Qc rm.cells rm.slots (st_A S) := by
  refine va_MetW (cc := cc) (maxL := maxL) (ret := ret) (hh := hh) hy rfl ?_
  intro p e s m args below meth c s₁ B hml hv
  obtain ⟨rfl, hP, hK, hRO⟩ := hv
  have hts := atoms_spec (ws := Cond.codeWith y cc maxL ret hh :: lw_g) B.pre
  have hl := lv_entry av (n := maxL) hsl
  rw [lg_entry_eq]
  exact body p e s m _ below meth c (vx_table (x := y) B (hts _ List.mem_cons_self)) B.exec B.bytes B.returns hml B.notSynchronized (name_of_methodNamed B.named B.method).1 (fun w h => hts w (List.mem_cons_of_mem _ h)) (findClass_of_methodNamed B.named) hK hRO (fun q h => Or.inr (by rw [← hP.2.1]; exact h)) hP va_S.rf _ hl
