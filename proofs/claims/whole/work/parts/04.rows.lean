/-- the tables' words that keep -/
def lw_g : List Cond := lw_tbl.filter goodWord
theorem lg_ps (ws : List Cond) (ps : List Nat) (hp : ws = ps.filterMap (fun i => lw_tbl[i]?)) (h : ws.all goodWord = true) : ∀ w ∈ ws, w ∈ lw_g := by
  intro w hw
  have h1 := List.all_eq_true.mp h w hw
  rw [hp] at hw
  obtain ⟨i, -, hi⟩ := List.mem_filterMap.mp hw
  exact List.mem_filter.mpr ⟨List.mem_of_getElem? hi, h1⟩
theorem lg_good : GoodIn lw_g lw_g := fun w h => ⟨h, good_of_word (List.mem_filter.mp h).2⟩
theorem lg_1 {w : Cond} (i : Nat) (h : lw_tbl[i]? = some w) (hg : goodWord w = true) : w ∈ lw_g := List.mem_filter.mpr ⟨List.mem_of_getElem? h, hg⟩
theorem gi_of {ws : List Cond} (h : ∀ w ∈ ws, w ∈ lw_g) : GoodIn lw_g ws := fun w hw => lg_good w (h w hw)
theorem gi_V {own C : String} {idx maxL : Nat} {y : MethodName} {bytes : ByteArray} {ret : Option FieldType} (h : ∀ w ∈ [Cond.methodLink own idx y, .instanceMethod y, .selects C y y, .initialized C, .code y bytes maxL ret], w ∈ lw_g) : GoodIn lw_g (wsV own idx C y (Cond.code y bytes maxL ret :: lw_g)) := by
  refine gi_of fun w hw => ?_
  rcases List.mem_append.mp hw with h1 | h1
  · exact h w (by simp only [List.mem_cons, List.not_mem_nil, or_false] at h1 ⊢; rcases h1 with e | e | e | e <;> simp [e])
  · rcases List.mem_cons.mp h1 with e | e
    · exact h w (by simp [e])
    · exact e
theorem gi_S {own : String} {idx maxL : Nat} {y : MethodName} {bytes : ByteArray} {ret : Option FieldType} (h : ∀ w ∈ [Cond.methodLink own idx y, .static y, .initialized own, .code y bytes maxL ret], w ∈ lw_g) : GoodIn lw_g (wsS own idx y (Cond.code y bytes maxL ret :: lw_g)) := by
  refine gi_of fun w hw => ?_
  rcases List.mem_append.mp hw with h1 | h1
  · exact h w (by simp only [List.mem_cons, List.not_mem_nil, or_false] at h1 ⊢; rcases h1 with e | e | e <;> simp [e])
  · rcases List.mem_cons.mp h1 with e | e
    · exact h w (by simp [e])
    · exact e
theorem gi_C {maxL : Nat} {y : MethodName} {bytes : ByteArray} {ret : Option FieldType} (h : Cond.code y bytes maxL ret ∈ lw_g) : GoodIn lw_g (Cond.code y bytes maxL ret :: lw_g) := gi_of fun w hw => (List.mem_cons.mp hw).elim (fun e => e ▸ h) id
section RW1
variable {p : Program} {l : Launch} {e : Env} {R : Room} {s : State} {m : MethodId} {args : Array Value} {below : List Frame} {meth : Method} {c : Code} {H : Heap} {locs : List Loc} {cells slots : Nat} {Q : State → Prop}
variable {cc : ByteArray} {pc : Nat} {ls : Array Slot} {rest : List Value} {X : st_I} {S : st_T} {A : Nat → Prop} {a : Nat}
theorem r_get (hx : p.tables.exec = Jvm.exec) (hb : c.code = cc) (hts : ∀ w ∈ lw_g, w.before args s = true) {own ref C : String} {T : u_T} {N ci index k : Nat} (hin : ∀ w ∈ u_ws C T N, w ∈ lw_g) (hc : vwCl[ci]? = some (C, T, N)) (hk : k < N) (hN : cl_n ci = N) (hci : ci < 19)
    (hsame : ∀ x, s.fieldFound? (T k).1 (T k).2.1 (T k).2.2.1 = some x → s.fieldFound? ref (T k).2.1 (T k).2.2.1 = some x) (hown : s.vm.findClass own = some m.cls) (hK : st_KK X s) (hP : st_HP X A S H) (hka : st_K S a = ci + 1) (hlink : Cond.fieldLink own index ref (T k).2.1 (T k).2.2.1 ∈ lw_g) (hdg : decode cc pc = .ok (.getfield index, 3))
    (kk : W p l e R s m args below meth c H locs cells slots Q (F0 m (pc + 3) ls (st_f1 S ci a k :: rest))) : W p l e R s m args below meth c H locs cells slots Q (F0 m pc ls (.ref a :: rest)) := by
  obtain ⟨L, q0, h1, h2, h3, ha, hq⟩ := st_at hP (a := a) (by rw [hka]; omega)
  rw [st_E_o hka hci] at hq
  exact va_get hx hb hts hin hown hK h2 q0 hq hc k hk (hts _ hlink) hsame (st_fs_get S (by rw [hN]; exact hk)) hdg kk
theorem rw_put {D : va_G} {cl : List vw_C} {tys : List (ClassId × FieldType)} {ws : va_W} {H0 : Heap} (hexec : p.tables.exec = Jvm.exec) (hb : c.code = cc) {own ref C : String} {T : u_T} {N ci index : Nat} {Ts : List Cond} (hts : ∀ w ∈ Ts, w.before args s = true) (hin : ∀ w ∈ u_ws C T N, w ∈ Ts) (ty0 : Nat → FieldType) (hty : ∀ k, k < N → parseFieldDescriptor (T k).2.2.1 = some (ty0 k)) (hnm : ∀ a, a < N → ∀ b, b < N → a ≠ b → (T a).2.1 ≠ (T b).2.1) (hown : s.vm.findClass own = some m.cls) (hK : va_K D cl tys s) (hP : va_P D cl ws H) (hD : va_D A ws) (hS0 : va_S A H0 H locs) (q0 : Nat) {fs : List Value} (he : ws[q0]? = some (a, .inr (ci, fs))) (hc : cl[ci]? = some (C, T, N)) (k : Nat) (hk : k < N) (hlink : (Cond.fieldLink own index ref (T k).2.1 (T k).2.2.1).before args s = true) (hsame : ∀ x, s.fieldFound? (T k).1 (T k).2.1 (T k).2.2.1 = some x → s.fieldFound? ref (T k).2.1 (T k).2.2.1 = some x) (hfin : (T k).2.2.2 = false ∨ ((T k).2.2.2 = true ∧ meth.name = "<init>" ∧ (T k).1 = own)) {ty : FieldType} {v : Value} (hd : parseFieldDescriptor (T k).2.2.1 = some ty) (hn : narrow ty v = v) (hfit : fits ty v = true) (hl : k < fs.length)
    (hdg : decode cc pc = .ok (.putfield index, 3)) (kk : ∀ (H1 : Heap) (locs1 : List Loc), H1.size = H.size → va_P D cl (ws.set q0 (a, .inr (ci, fs.set k v))) H1 → va_D A (ws.set q0 (a, .inr (ci, fs.set k v))) → va_S A H0 H1 locs1 → W p l e R s m args below meth c H1 locs1 cells slots Q (F0 m (pc + 3) ls rest)) : W p l e R s m args below meth c H locs cells slots Q (F0 m pc ls (v :: .ref a :: rest)) := by
  have hap := va_apart (own := own) hts hin ty0 hty hnm hK hc
  obtain ⟨r, h1, cell, q1, q2, q3, q4⟩ := hP q0 _ he
  have hr : r = (C, T, N) := Option.some.inj (h1.symm.trans hc)
  subst hr
  obtain ⟨hS, hfc, kC, hkC, hkind⟩ := hK.1 ci _ hc
  obtain ⟨cf, kf, fi, f, hi, hsl⟩ := hS k hk
  have hlay := hts _ (hin _ (u_in_lay hk))
  unfold u_lay at hlay
  have hst := (u_facts hfc hkC (u_lays hts hin hk) hi).1
  rcases hfin with hfin | ⟨hfin, hin2, hdecl⟩
  · rw [if_neg (by rw [hfin]; decide)] at hlay
    have h6 := u_store hfc hkC hkind hlay hi hd hn hfit
    refine W.putK hexec hb (f := f) ⟨hown, hlink, ⟨_, _, _, hsame _ hi⟩, hst⟩ (by rw [q2]; exact h6) q1 q3 (by rw [hsl]; exact k2_hasslot (q4 k hk)) rfl rfl hdg fun H' e1 e2 e3 => ?_
    rw [hsl] at e1 ⊢
    exact kk H' _ e2 (hP.set hD he ⟨_, hc, t_OB.to (V := updV (vp_V fs) k v) ⟨_, e1, q2, q3, t_set q4 hap hk v⟩ (fun j _ => vp_updV_set hl v j)⟩ e3) (hD.set he) (hS0.put e2 e3 (hD.2 q0 _ he))
  · rw [if_pos hfin] at hlay
    have hcf : m.cls = cf := by
      obtain ⟨_, _, c', _, _, _, -, -, hf', -, -, -, hown2, -⟩ := Cond.laysFinal_spec hlay
      have e1 : c' = cf := by have := hi.symm.trans hf'; simp at this; exact this.1.symm
      rw [hdecl] at hown2
      rw [← e1]; exact Option.some.inj (hown.symm.trans hown2)
    have h6 := u_fits hfc hkC hkind (Or.inr hlay) hi hd hn hfit
    refine W.putFinK hexec hb hown hlink (hsame _ hi) hst hcf hin2 (by rw [q2]; exact h6) q1 q3 (by rw [hsl]; exact k2_hasslot (q4 k hk)) rfl rfl hdg fun H' e1 e2 e3 => ?_
    rw [hsl] at e1 ⊢
    exact kk H' _ e2 (hP.set hD he ⟨_, hc, t_OB.to (V := updV (vp_V fs) k v) ⟨_, e1, q2, q3, t_set q4 hap hk v⟩ (fun j _ => vp_updV_set hl v j)⟩ e3) (hD.set he) (hS0.put e2 e3 (hD.2 q0 _ he))
theorem r_puti (hx : p.tables.exec = Jvm.exec) (hb : c.code = cc) (hts : ∀ w ∈ lw_g, w.before args s = true) {own ref C : String} {T : u_T} {N ci index k : Nat} (hin : ∀ w ∈ u_ws C T N, w ∈ lw_g) (hc : vwCl[ci]? = some (C, T, N)) (hk : k < N) (hN : cl_n ci = N) (hci : ci < 19)
    (hsame : ∀ x, s.fieldFound? (T k).1 (T k).2.1 (T k).2.2.1 = some x → s.fieldFound? ref (T k).2.1 (T k).2.2.1 = some x) {ty0 : Nat → FieldType} (hty : ∀ k, k < N → parseFieldDescriptor (T k).2.2.1 = some (ty0 k)) (hnm : ∀ a, a < N → ∀ b, b < N → a ≠ b → (T a).2.1 ≠ (T b).2.1)
    (hfin : (T k).2.2.2 = false ∨ ((T k).2.2.2 = true ∧ meth.name = "<init>" ∧ (T k).1 = own)) (hr : cl_r ci k = false) {v : Int32} (ht0 : ty0 k = .int)
    (hown : s.vm.findClass own = some m.cls) (hK : st_KK X s) (hP : st_HP X A S H) (hS : va_S A s.heap H locs) (hka : st_K S a = ci + 1) (hlink : Cond.fieldLink own index ref (T k).2.1 (T k).2.2.1 ∈ lw_g) (hdg : decode cc pc = .ok (.putfield index, 3))
    (kk : ∀ (H1 : Heap) (locs1 : List Loc), st_HP X A (st_pi S (100 * ci + k) a v) H1 → va_S A s.heap H1 locs1 → W p l e R s m args below meth c H1 locs1 cells slots Q (F0 m (pc + 3) ls rest)) : W p l e R s m args below meth c H locs cells slots Q (F0 m pc ls (.int v :: .ref a :: rest)) := by
  obtain ⟨L, q0, h1, h2, h3, ha, hq⟩ := st_at hP (a := a) (by rw [hka]; omega)
  have hq' := hq
  rw [st_E_o hka hci] at hq'
  refine rw_put hx hb hts hin ty0 hty hnm hown hK h2 h3 hS q0 hq' hc k hk (hts _ hlink) hsame hfin (ty := .int) (by rw [hty k hk, ht0]) rfl rfl (by rw [st_fs_len, hN]; exact hk) hdg fun H1 locs1 z g1 g2 g3 => ?_
  exact kk H1 locs1 (st_set h1 h3 ha hq g1 g2 (st_E_pi (by rw [hN]; exact hk) hr hka hci v) rfl (z.trans hP.2.1) hP.2.2) g3
theorem r_putr (hx : p.tables.exec = Jvm.exec) (hb : c.code = cc) (hts : ∀ w ∈ lw_g, w.before args s = true) {own ref C : String} {T : u_T} {N ci index k : Nat} (hin : ∀ w ∈ u_ws C T N, w ∈ lw_g) (hc : vwCl[ci]? = some (C, T, N)) (hk : k < N) (hN : cl_n ci = N) (hci : ci < 19)
    (hsame : ∀ x, s.fieldFound? (T k).1 (T k).2.1 (T k).2.2.1 = some x → s.fieldFound? ref (T k).2.1 (T k).2.2.1 = some x) {ty0 : Nat → FieldType} (hty : ∀ k, k < N → parseFieldDescriptor (T k).2.2.1 = some (ty0 k)) (hnm : ∀ a, a < N → ∀ b, b < N → a ≠ b → (T a).2.1 ≠ (T b).2.1)
    (hfin : (T k).2.2.2 = false ∨ ((T k).2.2.2 = true ∧ meth.name = "<init>" ∧ (T k).1 = own)) (hr : cl_r ci k = true) {v : Nat} (ht0 : (∃ n, ty0 k = .object n) ∨ ∃ t, ty0 k = .array t)
    (hown : s.vm.findClass own = some m.cls) (hK : st_KK X s) (hP : st_HP X A S H) (hS : va_S A s.heap H locs) (hka : st_K S a = ci + 1) (hlink : Cond.fieldLink own index ref (T k).2.1 (T k).2.2.1 ∈ lw_g) (hdg : decode cc pc = .ok (.putfield index, 3))
    (kk : ∀ (H1 : Heap) (locs1 : List Loc), st_HP X A (st_pr S (100 * ci + k) a (some v)) H1 → va_S A s.heap H1 locs1 → W p l e R s m args below meth c H1 locs1 cells slots Q (F0 m (pc + 3) ls rest)) : W p l e R s m args below meth c H locs cells slots Q (F0 m pc ls (.ref v :: .ref a :: rest)) := by
  obtain ⟨L, q0, h1, h2, h3, ha, hq⟩ := st_at hP (a := a) (by rw [hka]; omega)
  have hq' := hq
  rw [st_E_o hka hci] at hq'
  refine rw_put hx hb hts hin ty0 hty hnm hown hK h2 h3 hS q0 hq' hc k hk (hts _ hlink) hsame hfin (ty := ty0 k) (v := .ref v) (hty k hk) (by rcases ht0 with ⟨n, e⟩ | ⟨t, e⟩ <;> rw [e] <;> rfl) (by rcases ht0 with ⟨n, e⟩ | ⟨t, e⟩ <;> rw [e] <;> rfl) (by rw [st_fs_len, hN]; exact hk) hdg fun H1 locs1 z g1 g2 g3 => ?_
  exact kk H1 locs1 (st_set h1 h3 ha hq g1 g2 (st_E_pr (by rw [hN]; exact hk) hr hka hci (some v)) rfl (z.trans hP.2.1) hP.2.2) g3
-- rows
theorem r_iald (hx : p.tables.exec = Jvm.exec) (hb : c.code = cc) (hK : st_KK X s) (hP : st_HP X A S H) (hka : st_K S a = 20) {i : Int32} (hin : vp_in i (st_ln S a)) (hdg : decode cc pc = .ok (.iaload, 1))
    (kk : W p l e R s m args below meth c H locs cells slots Q (F0 m (pc + 1) ls (.int (st_ri S a i.toNatClampNeg) :: rest))) : W p l e R s m args below meth c H locs cells slots Q (F0 m pc ls (.int i :: .ref a :: rest)) := by
  obtain ⟨L, q0, h1, h2, h3, ha, hq⟩ := st_at hP (a := a) (by rw [hka]; omega)
  rw [st_E_i hka] at hq
  exact va_iald hx hb hK h2 q0 0 hq rfl hin hdg kk
theorem r_cald (hx : p.tables.exec = Jvm.exec) (hb : c.code = cc) (hK : st_KK X s) (hP : st_HP X A S H) (hka : st_K S a = 22) {i : Int32} (hin : vp_in i (st_ln S a)) (hdg : decode cc pc = .ok (.caload, 1))
    (kk : W p l e R s m args below meth c H locs cells slots Q (F0 m (pc + 1) ls (.int (st_ri S a i.toNatClampNeg) :: rest))) : W p l e R s m args below meth c H locs cells slots Q (F0 m pc ls (.int i :: .ref a :: rest)) := by
  obtain ⟨L, q0, h1, h2, h3, ha, hq⟩ := st_at hP (a := a) (by rw [hka]; omega)
  rw [st_E_c hka] at hq
  exact va_cald hx hb hK h2 q0 2 hq rfl hin hdg kk
theorem r_zald (hx : p.tables.exec = Jvm.exec) (hb : c.code = cc) (hK : st_KK X s) (hP : st_HP X A S H) (hka : st_K S a = 23) {i : Int32} (hin : vp_in i (st_ln S a)) (hdg : decode cc pc = .ok (.baload, 1))
    (kk : W p l e R s m args below meth c H locs cells slots Q (F0 m (pc + 1) ls (.int (st_ri S a i.toNatClampNeg) :: rest))) : W p l e R s m args below meth c H locs cells slots Q (F0 m pc ls (.int i :: .ref a :: rest)) := by
  obtain ⟨L, q0, h1, h2, h3, ha, hq⟩ := st_at hP (a := a) (by rw [hka]; omega)
  rw [st_E_z hka] at hq
  exact va_zald hx hb hK h2 q0 3 hq rfl hin hdg kk
theorem r_lald (hx : p.tables.exec = Jvm.exec) (hb : c.code = cc) (hK : st_KK X s) (hP : st_HP X A S H) (hka : st_K S a = 21) {i : Int32} (hin : vp_in i (st_ln S a)) (hdg : decode cc pc = .ok (.laload, 1))
    (kk : W p l e R s m args below meth c H locs cells slots Q (F0 m (pc + 1) ls (.long (st_rl S a i.toNatClampNeg) :: rest))) : W p l e R s m args below meth c H locs cells slots Q (F0 m pc ls (.int i :: .ref a :: rest)) := by
  obtain ⟨L, q0, h1, h2, h3, ha, hq⟩ := st_at hP (a := a) (by rw [hka]; omega)
  rw [st_E_l hka] at hq
  exact va_lald hx hb hK h2 q0 1 hq rfl hin hdg kk
theorem r_aald (hx : p.tables.exec = Jvm.exec) (hb : c.code = cc) (hK : st_KK X s) (hP : st_HP X A S H) (hka : st_K S a = 24) {i : Int32} (hin : vp_in i (st_ln S a)) (hdg : decode cc pc = .ok (.aaload, 1))
    (kk : W p l e R s m args below meth c H locs cells slots Q (F0 m (pc + 1) ls (va_rf (st_ro S a i.toNatClampNeg) :: rest))) : W p l e R s m args below meth c H locs cells slots Q (F0 m pc ls (.int i :: .ref a :: rest)) := by
  obtain ⟨L, q0, h1, h2, h3, ha, hq⟩ := st_at hP (a := a) (by rw [hka]; omega)
  rw [st_E_q hka] at hq
  exact va_aldq hx hb hK h2 q0 4 hq rfl hin hdg kk
theorem r_alen (hx : p.tables.exec = Jvm.exec) (hb : c.code = cc) (hK : st_KK X s) (hP : st_HP X A S H) (hka : 20 ≤ st_K S a ∧ st_K S a < 25) (hdg : decode cc pc = .ok (.arraylength, 1))
    (kk : W p l e R s m args below meth c H locs cells slots Q (F0 m (pc + 1) ls (.int (nI (st_ln S a)) :: rest))) : W p l e R s m args below meth c H locs cells slots Q (F0 m pc ls (.ref a :: rest)) := by
  obtain ⟨L, q0, h1, h2, h3, ha, hq⟩ := st_at hP (a := a) (by omega)
  have h5 : st_K S a = 20 ∨ st_K S a = 21 ∨ st_K S a = 22 ∨ st_K S a = 23 ∨ st_K S a = 24 := by omega
  rcases h5 with h | h | h | h | h
  · rw [st_E_i h] at hq; exact va_alen hx hb hK h2 q0 0 hq rfl rfl hdg kk
  · rw [st_E_l h] at hq; exact va_alen hx hb hK h2 q0 1 hq rfl rfl hdg kk
  · rw [st_E_c h] at hq; exact va_alen hx hb hK h2 q0 2 hq rfl rfl hdg kk
  · rw [st_E_z h] at hq; exact va_alen hx hb hK h2 q0 3 hq rfl rfl hdg kk
  · rw [st_E_q h] at hq; exact va_alen hx hb hK h2 q0 4 hq rfl rfl hdg kk
theorem rw_upd {f : Nat → Int32} {i : Nat} {x : Int32} : (fun j => Value.int (upd f i x j)) = updV (fun j => Value.int (f j)) i (.int x) := by
  funext q
  by_cases hq : q = i
  · subst hq; simp [updV, upd]
  · simp [updV, upd, hq]
theorem r_iast (hx : p.tables.exec = Jvm.exec) (hb : c.code = cc) (hK : st_KK X s) (hP : st_HP X A S H) (hS : va_S A s.heap H locs) (hka : st_K S a = 20) {i x : Int32} (hin : vp_in i (st_ln S a)) (hdg : decode cc pc = .ok (.iastore, 1))
    (kk : ∀ (H1 : Heap) (locs1 : List Loc), st_HP X A (st_wi S a i.toNatClampNeg x) H1 → va_S A s.heap H1 locs1 → W p l e R s m args below meth c H1 locs1 cells slots Q (F0 m (pc + 1) ls rest)) : W p l e R s m args below meth c H locs cells slots Q (F0 m pc ls (.int x :: .int i :: .ref a :: rest)) := by
  obtain ⟨L, q0, h1, h2, h3, ha, hq⟩ := st_at hP (a := a) (by rw [hka]; omega)
  have hq' := hq
  rw [st_E_i hka] at hq'
  refine W.iast hx hb (h2 q0 _ hq') ((hK.2 0 _ rfl).1 (st_ln S a) (fun j => .int (st_ri S a j))) (fun q => by cases q) (by show ¬ (i < 0 ∨ (arrV _ _ _).slots.size ≤ _); rw [arrV_size]; exact hin) rfl rfl hdg fun H1 e z oq => ?_
  refine kk H1 _ (st_set (S' := st_wi S a i.toNatClampNeg x) h1 h3 ha hq (h2.set h3 hq' (e := .inl (X.2.1, st_ln S a, .inl (upd (st_ri S a) i.toNatClampNeg x))) ?_ oq) (h3.set hq') (st_E_xi (Or.inl hka) _ (st_E_i hka)) rfl (z.trans hP.2.1) (st_C_xi hP.2.2 (by rw [hka]; decide))) (hS.put z oq (h3.2 q0 _ hq'))
  show H1[a]? = some (vp_cell _ _)
  rw [e, vp_cell_i, vp_cell_i, arrV_store, rw_upd]
theorem r_cast (hx : p.tables.exec = Jvm.exec) (hb : c.code = cc) (hK : st_KK X s) (hP : st_HP X A S H) (hS : va_S A s.heap H locs) (hka : st_K S a = 22) {i x : Int32} (hin : vp_in i (st_ln S a)) (hdg : decode cc pc = .ok (.castore, 1))
    (kk : ∀ (H1 : Heap) (locs1 : List Loc), st_HP X A (st_wi S a i.toNatClampNeg (vp_nar .char x)) H1 → va_S A s.heap H1 locs1 → W p l e R s m args below meth c H1 locs1 cells slots Q (F0 m (pc + 1) ls rest)) : W p l e R s m args below meth c H locs cells slots Q (F0 m pc ls (.int x :: .int i :: .ref a :: rest)) := by
  obtain ⟨L, q0, h1, h2, h3, ha, hq⟩ := st_at hP (a := a) (by rw [hka]; omega)
  have hq' := hq
  rw [st_E_c hka] at hq'
  refine W.cast hx hb (h2 q0 _ hq') ((hK.2 2 _ rfl).1 (st_ln S a) (fun j => .int (st_ri S a j))) (fun q => by cases q) (by show ¬ (i < 0 ∨ (arrV _ _ _).slots.size ≤ _); rw [arrV_size]; exact hin) rfl rfl hdg fun H1 e z oq => ?_
  refine kk H1 _ (st_set (S' := st_wi S a i.toNatClampNeg (vp_nar .char x)) h1 h3 ha hq (h2.set h3 hq' (e := .inl (X.2.2.2.1, st_ln S a, .inl (upd (st_ri S a) i.toNatClampNeg (vp_nar .char x)))) ?_ oq) (h3.set hq') (st_E_xi (Or.inr (Or.inl hka)) _ (st_E_c hka)) rfl (z.trans hP.2.1) (st_C_xi hP.2.2 (by rw [hka]; decide))) (hS.put z oq (h3.2 q0 _ hq'))
  show H1[a]? = some (vp_cell _ _)
  rw [e, vp_cell_i, vp_cell_i, arrV_store, rw_upd]
  rfl
theorem r_zast (hx : p.tables.exec = Jvm.exec) (hb : c.code = cc) (hK : st_KK X s) (hP : st_HP X A S H) (hS : va_S A s.heap H locs) (hka : st_K S a = 23) {i x : Int32} (hin : vp_in i (st_ln S a)) (hdg : decode cc pc = .ok (.bastore, 1))
    (kk : ∀ (H1 : Heap) (locs1 : List Loc), st_HP X A (st_wi S a i.toNatClampNeg (vp_nar .boolean x)) H1 → va_S A s.heap H1 locs1 → W p l e R s m args below meth c H1 locs1 cells slots Q (F0 m (pc + 1) ls rest)) : W p l e R s m args below meth c H locs cells slots Q (F0 m pc ls (.int x :: .int i :: .ref a :: rest)) := by
  obtain ⟨L, q0, h1, h2, h3, ha, hq⟩ := st_at hP (a := a) (by rw [hka]; omega)
  have hq' := hq
  rw [st_E_z hka] at hq'
  refine W.zast hx hb (h2 q0 _ hq') ((hK.2 3 _ rfl).1 (st_ln S a) (fun j => .int (st_ri S a j))) (fun q => by cases q) (by show ¬ (i < 0 ∨ (arrV _ _ _).slots.size ≤ _); rw [arrV_size]; exact hin) rfl rfl hdg fun H1 e z oq => ?_
  refine kk H1 _ (st_set (S' := st_wi S a i.toNatClampNeg (vp_nar .boolean x)) h1 h3 ha hq (h2.set h3 hq' (e := .inl (X.2.2.2.2.1, st_ln S a, .inl (upd (st_ri S a) i.toNatClampNeg (vp_nar .boolean x)))) ?_ oq) (h3.set hq') (st_E_xi (Or.inr (Or.inr hka)) _ (st_E_z hka)) rfl (z.trans hP.2.1) (st_C_xi hP.2.2 (by rw [hka]; decide))) (hS.put z oq (h3.2 q0 _ hq'))
  show H1[a]? = some (vp_cell _ _)
  rw [e, vp_cell_i, vp_cell_i, arrV_store, rw_upd]
  rfl
theorem r_last (hx : p.tables.exec = Jvm.exec) (hb : c.code = cc) (hK : st_KK X s) (hP : st_HP X A S H) (hS : va_S A s.heap H locs) (hka : st_K S a = 21) {i : Int32} {x : Int64} (hin : vp_in i (st_ln S a)) (hdg : decode cc pc = .ok (.lastore, 1))
    (kk : ∀ (H1 : Heap) (locs1 : List Loc), st_HP X A (st_wl S a i.toNatClampNeg x) H1 → va_S A s.heap H1 locs1 → W p l e R s m args below meth c H1 locs1 cells slots Q (F0 m (pc + 1) ls rest)) : W p l e R s m args below meth c H locs cells slots Q (F0 m pc ls (.long x :: .int i :: .ref a :: rest)) := by
  obtain ⟨L, q0, h1, h2, h3, ha, hq⟩ := st_at hP (a := a) (by rw [hka]; omega)
  have hq' := hq
  rw [st_E_l hka] at hq'
  refine W.last hx hb (h2 q0 _ hq') ((hK.2 1 _ rfl).1 (st_ln S a) (fun j => .long (st_rl S a j))) (fun q => by cases q) (by show ¬ (i < 0 ∨ (arrV _ _ _).slots.size ≤ _); rw [arrV_size]; exact hin) rfl rfl hdg fun H1 e z oq => ?_
  refine kk H1 _ (st_set (S' := st_wl S a i.toNatClampNeg x) h1 h3 ha hq (h2.set h3 hq' (e := .inl (X.2.2.1, st_ln S a, .inr (.inl (vp_updL (st_rl S a) i.toNatClampNeg x)))) ?_ oq) (h3.set hq') (st_E_wl hka _) rfl (z.trans hP.2.1) hP.2.2) (hS.put z oq (h3.2 q0 _ hq'))
  show H1[a]? = some (vp_cell _ _)
  rw [e, vp_cell_l, vp_cell_l, arrV_store]
  congr 2
  funext q
  by_cases hq : q = i.toNatClampNeg
  · subst hq; simp [updV, vp_updL]
  · simp [updV, vp_updL, hq]
end RW1
