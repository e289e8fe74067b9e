def c_l {α β : Type} (x : α) (k : α → Option β) : Option β := k x
theorem c_l_some {α β : Type} {x : α} {k : α → Option β} {r : β} (h : c_l x k = some r) : k x = some r := h
theorem c_l_ren {α β : Type} {x y : α} {k : α → Option β} {r : β} (h : c_l x k = some r) (e : y = x) : k y = some r := by subst e; exact h
def c_o {β : Type} (o : Option Nat) (a : Option β) (k : Nat → Option β) : Option β := match o with
  | none => a
  | some q => k q
theorem c_o_n {β : Type} {a : Option β} {k : Nat → Option β} {r : β} (h : c_o none a k = some r) : a = some r := h
theorem c_o_s {β : Type} {q : Nat} {a : Option β} {k : Nat → Option β} {r : β} (h : c_o (some q) a k = some r) : k q = some r := h
theorem sw_ne {x : Int32} (k : Int32) (h : ¬ x = k) {n : Int} (hn : k.toInt = n) : x.toInt ≠ n := fun q => h (Int32.toInt_inj.mp (q.trans hn.symm))
theorem c_l_ex {α β : Type} {x : α} {k : α → Option β} {r : β} (h : c_l x k = some r) : ∃ y, y = x ∧ k y = some r := ⟨x, rfl, h⟩
theorem kp_pi {S S' : st_T} {k a : Nat} {v : Int32} (e : S' = st_pi S k a v) : st_K S' = st_K S := by subst e; rfl
theorem kp_pr {S S' : st_T} {k a : Nat} {v : Option Nat} (e : S' = st_pr S k a v) : st_K S' = st_K S := by subst e; rfl
theorem kp_wi {S S' : st_T} {a j : Nat} {v : Int32} (e : S' = st_wi S a j v) : st_K S' = st_K S := by subst e; rfl
theorem kp_wl {S S' : st_T} {a j : Nat} {v : Int64} (e : S' = st_wl S a j v) : st_K S' = st_K S := by subst e; rfl
theorem fr_pi {S S' : st_T} {k a : Nat} {v : Int32} (e : S' = st_pi S k a v) : st_fr S' = st_fr S := by subst e; rfl
theorem fr_wi {S S' : st_T} {a j : Nat} {v : Int32} (e : S' = st_wi S a j v) : st_fr S' = st_fr S := by subst e; rfl
theorem fr_wl {S S' : st_T} {a j : Nat} {v : Int64} (e : S' = st_wl S a j v) : st_fr S' = st_fr S := by subst e; rfl
