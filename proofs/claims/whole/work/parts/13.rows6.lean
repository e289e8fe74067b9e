theorem kp_wo {S S' : st_T} {a j : Nat} {v : Option Nat} (e : S' = st_wo S a j v) : st_K S' = st_K S := by subst e; rfl
theorem fr_wo {S S' : st_T} {a j : Nat} {v : Option Nat} (e : S' = st_wo S a j v) : st_fr S' = st_fr S := by subst e; rfl
theorem kp_xo {S S' : st_T} {a : Nat} {f : Nat → Option Nat} (e : S' = st_xo S a f) : st_K S' = st_K S := by subst e; rfl
theorem fr_xo {S S' : st_T} {a : Nat} {f : Nat → Option Nat} (e : S' = st_xo S a f) : st_fr S' = st_fr S := by subst e; rfl
theorem kp_xi {S S' : st_T} {a : Nat} {f : Nat → Int32} (e : S' = st_xi S a f) : st_K S' = st_K S := by subst e; rfl
theorem fr_xi {S S' : st_T} {a : Nat} {f : Nat → Int32} (e : S' = st_xi S a f) : st_fr S' = st_fr S := by subst e; rfl
section FLA
variable {p : Program} {l : Launch} {e : Env} {R : Room} {s : State} {m : MethodId} {args : Array Value} {below : List Frame} {meth : Method} {c : Code} {H : Heap} {locs : List Loc} {cells slots : Nat} {Q : State → Prop}
variable {cc : ByteArray} {pc : Nat} {ls : Array Slot} {rest : List Value} {X : st_I} {S : st_T} {A : Nat → Prop} {a : Nat}
theorem fpA_0_0 (hx : p.tables.exec = Jvm.exec) (hb : c.code = cc) (hts : ∀ w ∈ lw_g, w.before args s = true) {own : String} {index : Nat} (hown : s.vm.findClass own = some m.cls) (hK : st_KK X s) (hP : st_HP X A S H) (hS : va_S A s.heap H locs) (hka : st_K S a = 1) (hlink : Cond.fieldLink own index "java/util/AbstractList" "modCount" "I" ∈ lw_g) {v : Int32} (hdg : decode cc pc = .ok (.putfield index, 3))
    (kk : ∀ (H1 : Heap) (locs1 : List Loc), st_HP X A (st_pi S 0 a v) H1 → va_S A s.heap H1 locs1 → W p l e R s m args below meth c H1 locs1 cells slots Q (F0 m (pc + 3) ls rest)) : W p l e R s m args below meth c H locs cells slots Q (F0 m pc ls (.int v :: .ref a :: rest)) :=
  r_puti (T := TJx4a65c) (ci := 0) (k := 0) hx hb hts in_0 rfl (by decide) rfl (by decide) (fun _ h => h) tyJx4a65c_ok nmJx4a65c (Or.inl rfl) rfl rfl hown hK hP hS hka hlink hdg kk
end FLA
theorem df_0 : ∀ j, j < 3 → defaultValue (tyJx4a65c j) = (if cl_r 0 j = true then .null else .int 0) := by decide +kernel
theorem df_1 : ∀ j, j < 7 → defaultValue (tyX0 j) = (if cl_r 1 j = true then .null else .int 0) := by decide +kernel
theorem df_2 : ∀ j, j < 7 → defaultValue (tyX1 j) = (if cl_r 2 j = true then .null else .int 0) := by decide +kernel
theorem df_3 : ∀ j, j < 9 → defaultValue (tyX2 j) = (if cl_r 3 j = true then .null else .int 0) := by decide +kernel
theorem df_4 : ∀ j, j < 11 → defaultValue (tyX3 j) = (if cl_r 4 j = true then .null else .int 0) := by decide +kernel
theorem df_5 : ∀ j, j < 2 → defaultValue (tyX4 j) = (if cl_r 5 j = true then .null else .int 0) := by decide +kernel
theorem df_6 : ∀ j, j < 5 → defaultValue (tyX5 j) = (if cl_r 6 j = true then .null else .int 0) := by decide +kernel
theorem df_7 : ∀ j, j < 4 → defaultValue (tyX6 j) = (if cl_r 7 j = true then .null else .int 0) := by decide +kernel
theorem df_8 : ∀ j, j < 1 → defaultValue (tyX7 j) = (if cl_r 8 j = true then .null else .int 0) := by decide +kernel
theorem df_9 : ∀ j, j < 10 → defaultValue (tyX8 j) = (if cl_r 9 j = true then .null else .int 0) := by decide +kernel
theorem df_10 : ∀ j, j < 39 → defaultValue (tyX9 j) = (if cl_r 10 j = true then .null else .int 0) := by decide +kernel
