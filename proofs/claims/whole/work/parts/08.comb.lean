def c_l {α β : Type} (x : α) (k : α → Option β) : Option β := k x
theorem c_l_some {α β : Type} {x : α} {k : α → Option β} {r : β} (h : c_l x k = some r) : k x = some r := h
theorem c_l_ren {α β : Type} {x y : α} {k : α → Option β} {r : β} (h : c_l x k = some r) (e : y = x) : k y = some r := by subst e; exact h
def c_o {β : Type} (o : Option Nat) (a : Option β) (k : Nat → Option β) : Option β := match o with
  | none => a
  | some q => k q
theorem c_o_n {β : Type} {a : Option β} {k : Nat → Option β} {r : β} (h : c_o none a k = some r) : a = some r := h
theorem c_o_s {β : Type} {q : Nat} {a : Option β} {k : Nat → Option β} {r : β} (h : c_o (some q) a k = some r) : k q = some r := h
theorem sw_ne {x : Int32} (k : Int32) (h : ¬ x = k) {n : Int} (hn : k.toInt = n) : x.toInt ≠ n := fun q => h (Int32.toInt_inj.mp (q.trans hn.symm))
