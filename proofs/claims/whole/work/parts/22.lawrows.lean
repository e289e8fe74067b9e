/-! the law's own combinators: propositions -/
def p_g (c k : Prop) : Prop := c ∧ k
theorem p_g_some {c k : Prop} (h : p_g c k) : c ∧ k := h
def p_i (c a b : Prop) : Prop := (c → a) ∧ (¬ c → b)
theorem p_i_t {c a b : Prop} (h : p_i c a b) (hc : c) : a := h.1 hc
theorem p_i_f {c a b : Prop} (h : p_i c a b) (hc : ¬ c) : b := h.2 hc
def p_c {α : Type} (x : Option (α × st_T)) (k : α → st_T → Prop) : Prop := ∃ q S, x = some (q, S) ∧ k q S
theorem p_c_some {α : Type} {x : Option (α × st_T)} {k : α → st_T → Prop} (h : p_c x k) : ∃ q S, x = some (q, S) ∧ k q S := h
def p_l {α : Type} (x : α) (k : α → Prop) : Prop := k x
theorem p_l_ren {α : Type} {x y : α} {k : α → Prop} (h : p_l x k) (e : y = x) : k y := by subst e; exact h
theorem p_l_ex {α : Type} {x : α} {k : α → Prop} (h : p_l x k) : ∃ y, y = x ∧ k y := ⟨x, rfl, h⟩
/-- a call that answers, or throws (then the state's next address is any) -/
def p_x (x : Option (Int32 × st_T)) (y : Option (Unit × st_T)) (hk : Prop) (k : Int32 → st_T → Prop) : Prop := (∃ r S1, x = some (r, S1) ∧ k r S1) ∨ (hk ∧ ∃ SE, y = some ((), SE) ∧ ∀ n, st_nx SE ≤ n → k 1 (st_sx SE n))
def p_w {α : Type} (body : (α → Prop) → α → Prop) : Nat → α → Prop
  | 0, _ => False
  | n + 1, a => body (p_w body n) a
theorem p_w_ind {α : Type} {body : (α → Prop) → α → Prop} {P : Nat → α → Prop} (hb : ∀ (n : Nat) (rec : α → Prop), (∀ a, rec a → P n a) → ∀ a, body rec a → P (n + 1) a) : ∀ (n : Nat) (a : α), p_w body n a → P n a := by
  intro n
  induction n with
  | zero => intro a h; exact h.elim
  | succ n ih => intro a h; exact hb n (p_w body n) ih a h
theorem gi_W {own : String} {idx maxL : Nat} {y : MethodName} {bytes : ByteArray} {ret : Option FieldType} {hh : List (Nat × Nat × Nat × Nat)} (h : ∀ w ∈ [Cond.methodLink own idx y, .static y, .initialized y.cls, .codeWith y bytes maxL ret hh], w ∈ lw_g) : GoodIn lw_g (va_wsS own idx y (Cond.codeWith y bytes maxL ret hh :: lw_g)) := by
  refine gi_of fun w hw => ?_
  rcases List.mem_append.mp hw with h1 | h1
  · exact h w (by simp only [List.mem_cons, List.not_mem_nil, or_false] at h1 ⊢; rcases h1 with e | e | e <;> simp [e])
  · rcases List.mem_cons.mp h1 with e | e
    · exact h w (by simp [e])
    · exact e
section LWR
variable {p : Program} {l : Launch} {e : Env} {R : Room} {s : State} {m : MethodId} {args : Array Value} {below : List Frame} {meth : Method} {c : Code} {H : Heap} {locs : List Loc} {cells slots : Nat} {Q : State → Prop}
variable {cc : ByteArray} {pc : Nat} {ls : Array Slot} {rest : List Value} {X : st_I} {S S' SE : st_T} {A : Nat → Prop} {a : Nat}
theorem r_back1 {mc ms : Nat} {st0 : List Value} {av : Array Value} (hr : va_Run p l e R s m args below meth c H locs cells slots mc ms (F0 m pc ls st0) rest (st_Q1 X (st_A S) SE av) (st_A S)) (hA : ∀ q, s.heap.size ≤ q → A q) (hP : st_HP X A S H) (hS : va_S A s.heap H locs)
    (kk : ∀ (H1 : Heap) (locs1 : List Loc), st_HP X A (st_sx SE H1.size) H1 → st_nx SE ≤ H1.size → va_S A s.heap H1 locs1 → W p l e R s m args below meth c H1 locs1 (cells + mc) (slots + ms) Q (F0 m (pc + 3) ls (.int 1 :: rest))) : W p l e R s m args below meth c H locs cells slots Q (F0 m pc ls st0) := by
  intro T hT X9
  obtain ⟨v', st₀, t, T', L, h0, X', hL, e1, e2, ⟨hv, hp, hnx, hF⟩, st⟩ := hr T hT X9
  cases hv
  have hsub := st_subA hA hP hS
  have hF1 : H.size ≤ t.heap.size := by rw [← h0]; exact hF.1
  have hS1 : va_S A s.heap t.heap (locs ++ L) := by
    refine ⟨Nat.le_trans hS.1 hF1, fun q h1 h2 => ?_, fun q hq => ?_⟩
    · rw [hF.2 q (by rw [h0]; exact Nat.lt_of_lt_of_le h1 hS.1) (fun z => h2 (hsub q z)), h0]
      exact hS.2.1 q h1 h2
    · rcases List.mem_append.mp hq with h | h
      · exact hS.2.2 q h
      · exact hsub _ (hL q h)
  obtain ⟨t2, a1, b1⟩ := kk t.heap (locs ++ L) (st_HP_A hp hsub) hnx hS1 T' e1 X'
  exact ⟨t2, st t2 a1, b1⟩
theorem r_cSW {nL n mc ms maxL index : Nat} {own : String} {y : MethodName} {bytes : ByteArray} {ret : Option FieldType} {hh : List (Nat × Nat × Nat × Nat)} {rm : Room} {As : List Value} {v : Option Value} (S5 : CallFix p m c cc nL s args lw_g own) (hM : Met l y (Cond.codeWith y bytes maxL ret hh :: lw_g) rm (st_P X S As) (st_Q X (st_A S) v S') mc ms (st_A S))
    (hg : GoodIn lw_g (va_wsS own index y (Cond.codeWith y bytes maxL ret hh :: lw_g))) (hd : y.cls ≠ "java/lang/invoke/MethodHandle" ∧ y.cls ≠ "java/lang/invoke/VarHandle" ∧ (parseMethodDescriptor y.desc).map (fun d => d.parameters.length) = some n) (hdg : decode cc pc = .ok (.invokestatic index, 3))
    (hrc : rm.cells = mc) (hrs : rm.slots = ms) (hR : rm.frames + 1 ≤ R.frames ∧ 8 + (maxL + 11) + rm.locals ≤ R.locals) (hn : As.length = n) (hsize : ls.size = nL) (hW : (rest.map fun v => v.category).sum ≤ 8) (hf : cells + mc ≤ R.cells ∧ slots + ms ≤ R.slots) (hK : st_KK X s) (hRO : st_RO X A s) (hA : ∀ q, s.heap.size ≤ q → A q) (hP : st_HP X A S H) (hS : va_S A s.heap H locs)
    (kk : ∀ (H1 : Heap) (locs1 : List Loc), st_HP X A S' H1 → va_S A s.heap H1 locs1 → W p l e R s m args below meth c H1 locs1 (cells + mc) (slots + ms) Q (F0 m (pc + 3) ls (v.toList ++ rest))) : W p l e R s m args below meth c H locs cells slots Q (F0 m pc ls (As.reverse ++ rest)) :=
  r_back (vx_runSW (As := As) (rest := rest) S5 hM (vx_cwSW n S5.2.2.2.2 hg rfl hrc hrs hd hR) (st_pre hK hRO hA hP hS) rfl hn hsize rfl (lv_room hW) hdg hf) hA hP hS kk
theorem r_cSW1 {nL n mc ms maxL index : Nat} {own : String} {y : MethodName} {bytes : ByteArray} {ret : Option FieldType} {hh : List (Nat × Nat × Nat × Nat)} {rm : Room} {As : List Value} (S5 : CallFix p m c cc nL s args lw_g own) (hM : Met l y (Cond.codeWith y bytes maxL ret hh :: lw_g) rm (st_P X S As) (st_Q1 X (st_A S) SE) mc ms (st_A S))
    (hg : GoodIn lw_g (va_wsS own index y (Cond.codeWith y bytes maxL ret hh :: lw_g))) (hd : y.cls ≠ "java/lang/invoke/MethodHandle" ∧ y.cls ≠ "java/lang/invoke/VarHandle" ∧ (parseMethodDescriptor y.desc).map (fun d => d.parameters.length) = some n) (hdg : decode cc pc = .ok (.invokestatic index, 3))
    (hrc : rm.cells = mc) (hrs : rm.slots = ms) (hR : rm.frames + 1 ≤ R.frames ∧ 8 + (maxL + 11) + rm.locals ≤ R.locals) (hn : As.length = n) (hsize : ls.size = nL) (hW : (rest.map fun v => v.category).sum ≤ 8) (hf : cells + mc ≤ R.cells ∧ slots + ms ≤ R.slots) (hK : st_KK X s) (hRO : st_RO X A s) (hA : ∀ q, s.heap.size ≤ q → A q) (hP : st_HP X A S H) (hS : va_S A s.heap H locs)
    (kk : ∀ (H1 : Heap) (locs1 : List Loc), st_HP X A (st_sx SE H1.size) H1 → st_nx SE ≤ H1.size → va_S A s.heap H1 locs1 → W p l e R s m args below meth c H1 locs1 (cells + mc) (slots + ms) Q (F0 m (pc + 3) ls (.int 1 :: rest))) : W p l e R s m args below meth c H locs cells slots Q (F0 m pc ls (As.reverse ++ rest)) :=
  r_back1 (vx_runSW (As := As) (rest := rest) S5 hM (vx_cwSW n S5.2.2.2.2 hg rfl hrc hrs hd hR) (st_pre hK hRO hA hP hS) rfl hn hsize rfl (lv_room hW) hdg hf) hA hP hS kk
end LWR
