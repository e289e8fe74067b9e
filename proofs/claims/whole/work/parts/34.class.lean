/-- the class's cells that its constructor lays -/
abbrev CS (S : st_T) (x : Nat) : Prop := st_K S x = 10 ∧ st_K S (x + 1) = 9 ∧ st_K S (x + 2) = 20 ∧ st_K S (x + 3) = 1 ∧ st_K S (x + 4) = 1 ∧ st_K S (x + 5) = 7 ∧ st_K S (x + 6) = 20 ∧ st_K S (x + 7) = 20 ∧ st_K S (x + 8) = 20 ∧ st_K S (x + 9) = 20 ∧ st_K S (x + 10) = 6 ∧ st_K S (x + 11) = 22 ∧ st_K S (x + 12) = 5 ∧ st_K S (x + 13) = 8 ∧ st_K S (x + 14) = 20 ∧ st_K S (x + 15) = 20 ∧ st_K S (x + 16) = 20 ∧ st_K S (x + 17) = 20 ∧ st_K S (x + 18) = 20 ∧ st_K S (x + 19) = 20 ∧ st_K S (x + 20) = 20 ∧ st_K S (x + 21) = 2 ∧ st_K S (x + 22) = 20 ∧ st_K S (x + 23) = 20 ∧ st_fr S 900 x = some (x + 1) ∧ st_fr S 800 (x + 1) = some (x + 2) ∧ st_fr S 901 x = some (x + 3) ∧ st_fr S 902 x = some (x + 4) ∧ st_fr S 903 x = some (x + 5) ∧ st_fr S 600 (x + 5) = some (x + 6) ∧ st_fr S 601 (x + 5) = some (x + 7) ∧ st_fr S 602 (x + 5) = some (x + 8) ∧ st_fr S 603 (x + 5) = some (x + 9) ∧ st_fr S 904 x = some (x + 10) ∧ st_fr S 500 (x + 10) = some (x + 11) ∧ st_fr S 905 x = some (x + 12) ∧ st_fr S 400 (x + 12) = some (x + 13) ∧ st_fr S 700 (x + 13) = some (x + 14) ∧ st_fr S 701 (x + 13) = some (x + 15) ∧ st_fr S 702 (x + 13) = some (x + 16) ∧ st_fr S 401 (x + 12) = some (x + 17) ∧ st_fr S 402 (x + 12) = some (x + 18) ∧ st_fr S 403 (x + 12) = some (x + 19) ∧ st_fr S 404 (x + 12) = some (x + 20) ∧ st_fr S 906 x = some (x + 21) ∧ st_fr S 100 (x + 21) = some (x + 1) ∧ st_fr S 101 (x + 21) = some (x + 22) ∧ st_fr S 907 x = some (x + 23) ∧ st_ln S (x + 2) = 201 ∧ st_ln S (x + 6) = 0 ∧ st_ln S (x + 7) = 0 ∧ st_ln S (x + 8) = 0 ∧ st_ln S (x + 9) = 0 ∧ st_ln S (x + 11) = 800 ∧ st_ln S (x + 14) = 801 ∧ st_ln S (x + 15) = 801 ∧ st_ln S (x + 16) = 801 ∧ st_ln S (x + 17) = 24 ∧ st_ln S (x + 18) = 24 ∧ st_ln S (x + 19) = 800 ∧ st_ln S (x + 20) = 800 ∧ st_ln S (x + 22) = 16 ∧ st_ln S (x + 23) = 5
theorem cn_900 {β : Type} {S : st_T} {x : Nat} {k : Nat → Option β} (h : CS S x) : c_n (st_fr S 900 x) k = k (x + 1) := n_s h.2.2.2.2.2.2.2.2.2.2.2.2.2.2.2.2.2.2.2.2.2.2.2.2.1
theorem cn_800 {β : Type} {S : st_T} {x : Nat} {k : Nat → Option β} (h : CS S x) : c_n (st_fr S 800 (x + 1)) k = k (x + 2) := n_s h.2.2.2.2.2.2.2.2.2.2.2.2.2.2.2.2.2.2.2.2.2.2.2.2.2.1
theorem cn_901 {β : Type} {S : st_T} {x : Nat} {k : Nat → Option β} (h : CS S x) : c_n (st_fr S 901 x) k = k (x + 3) := n_s h.2.2.2.2.2.2.2.2.2.2.2.2.2.2.2.2.2.2.2.2.2.2.2.2.2.2.1
theorem cn_902 {β : Type} {S : st_T} {x : Nat} {k : Nat → Option β} (h : CS S x) : c_n (st_fr S 902 x) k = k (x + 4) := n_s h.2.2.2.2.2.2.2.2.2.2.2.2.2.2.2.2.2.2.2.2.2.2.2.2.2.2.2.1
theorem cn_903 {β : Type} {S : st_T} {x : Nat} {k : Nat → Option β} (h : CS S x) : c_n (st_fr S 903 x) k = k (x + 5) := n_s h.2.2.2.2.2.2.2.2.2.2.2.2.2.2.2.2.2.2.2.2.2.2.2.2.2.2.2.2.1
theorem cn_600n {β : Type} {S : st_T} {x : Nat} {k : Nat → Option β} (h : CS S x) : c_n (st_fr S 600 (x + 5)) k = k (x + 6) := n_s h.2.2.2.2.2.2.2.2.2.2.2.2.2.2.2.2.2.2.2.2.2.2.2.2.2.2.2.2.2.1
theorem cn_601n {β : Type} {S : st_T} {x : Nat} {k : Nat → Option β} (h : CS S x) : c_n (st_fr S 601 (x + 5)) k = k (x + 7) := n_s h.2.2.2.2.2.2.2.2.2.2.2.2.2.2.2.2.2.2.2.2.2.2.2.2.2.2.2.2.2.2.1
theorem cn_602n {β : Type} {S : st_T} {x : Nat} {k : Nat → Option β} (h : CS S x) : c_n (st_fr S 602 (x + 5)) k = k (x + 8) := n_s h.2.2.2.2.2.2.2.2.2.2.2.2.2.2.2.2.2.2.2.2.2.2.2.2.2.2.2.2.2.2.2.1
theorem cn_603n {β : Type} {S : st_T} {x : Nat} {k : Nat → Option β} (h : CS S x) : c_n (st_fr S 603 (x + 5)) k = k (x + 9) := n_s h.2.2.2.2.2.2.2.2.2.2.2.2.2.2.2.2.2.2.2.2.2.2.2.2.2.2.2.2.2.2.2.2.1
theorem cn_904 {β : Type} {S : st_T} {x : Nat} {k : Nat → Option β} (h : CS S x) : c_n (st_fr S 904 x) k = k (x + 10) := n_s h.2.2.2.2.2.2.2.2.2.2.2.2.2.2.2.2.2.2.2.2.2.2.2.2.2.2.2.2.2.2.2.2.2.1
theorem cn_500 {β : Type} {S : st_T} {x : Nat} {k : Nat → Option β} (h : CS S x) : c_n (st_fr S 500 (x + 10)) k = k (x + 11) := n_s h.2.2.2.2.2.2.2.2.2.2.2.2.2.2.2.2.2.2.2.2.2.2.2.2.2.2.2.2.2.2.2.2.2.2.1
theorem cn_905 {β : Type} {S : st_T} {x : Nat} {k : Nat → Option β} (h : CS S x) : c_n (st_fr S 905 x) k = k (x + 12) := n_s h.2.2.2.2.2.2.2.2.2.2.2.2.2.2.2.2.2.2.2.2.2.2.2.2.2.2.2.2.2.2.2.2.2.2.2.1
theorem cn_400 {β : Type} {S : st_T} {x : Nat} {k : Nat → Option β} (h : CS S x) : c_n (st_fr S 400 (x + 12)) k = k (x + 13) := n_s h.2.2.2.2.2.2.2.2.2.2.2.2.2.2.2.2.2.2.2.2.2.2.2.2.2.2.2.2.2.2.2.2.2.2.2.2.1
theorem cn_700 {β : Type} {S : st_T} {x : Nat} {k : Nat → Option β} (h : CS S x) : c_n (st_fr S 700 (x + 13)) k = k (x + 14) := n_s h.2.2.2.2.2.2.2.2.2.2.2.2.2.2.2.2.2.2.2.2.2.2.2.2.2.2.2.2.2.2.2.2.2.2.2.2.2.1
theorem cn_701 {β : Type} {S : st_T} {x : Nat} {k : Nat → Option β} (h : CS S x) : c_n (st_fr S 701 (x + 13)) k = k (x + 15) := n_s h.2.2.2.2.2.2.2.2.2.2.2.2.2.2.2.2.2.2.2.2.2.2.2.2.2.2.2.2.2.2.2.2.2.2.2.2.2.2.1
theorem cn_702 {β : Type} {S : st_T} {x : Nat} {k : Nat → Option β} (h : CS S x) : c_n (st_fr S 702 (x + 13)) k = k (x + 16) := n_s h.2.2.2.2.2.2.2.2.2.2.2.2.2.2.2.2.2.2.2.2.2.2.2.2.2.2.2.2.2.2.2.2.2.2.2.2.2.2.2.1
theorem cn_401 {β : Type} {S : st_T} {x : Nat} {k : Nat → Option β} (h : CS S x) : c_n (st_fr S 401 (x + 12)) k = k (x + 17) := n_s h.2.2.2.2.2.2.2.2.2.2.2.2.2.2.2.2.2.2.2.2.2.2.2.2.2.2.2.2.2.2.2.2.2.2.2.2.2.2.2.2.1
theorem cn_402 {β : Type} {S : st_T} {x : Nat} {k : Nat → Option β} (h : CS S x) : c_n (st_fr S 402 (x + 12)) k = k (x + 18) := n_s h.2.2.2.2.2.2.2.2.2.2.2.2.2.2.2.2.2.2.2.2.2.2.2.2.2.2.2.2.2.2.2.2.2.2.2.2.2.2.2.2.2.1
theorem cn_403 {β : Type} {S : st_T} {x : Nat} {k : Nat → Option β} (h : CS S x) : c_n (st_fr S 403 (x + 12)) k = k (x + 19) := n_s h.2.2.2.2.2.2.2.2.2.2.2.2.2.2.2.2.2.2.2.2.2.2.2.2.2.2.2.2.2.2.2.2.2.2.2.2.2.2.2.2.2.2.1
theorem cn_404 {β : Type} {S : st_T} {x : Nat} {k : Nat → Option β} (h : CS S x) : c_n (st_fr S 404 (x + 12)) k = k (x + 20) := n_s h.2.2.2.2.2.2.2.2.2.2.2.2.2.2.2.2.2.2.2.2.2.2.2.2.2.2.2.2.2.2.2.2.2.2.2.2.2.2.2.2.2.2.2.1
theorem cn_906 {β : Type} {S : st_T} {x : Nat} {k : Nat → Option β} (h : CS S x) : c_n (st_fr S 906 x) k = k (x + 21) := n_s h.2.2.2.2.2.2.2.2.2.2.2.2.2.2.2.2.2.2.2.2.2.2.2.2.2.2.2.2.2.2.2.2.2.2.2.2.2.2.2.2.2.2.2.2.1
theorem cn_100 {β : Type} {S : st_T} {x : Nat} {k : Nat → Option β} (h : CS S x) : c_n (st_fr S 100 (x + 21)) k = k (x + 1) := n_s h.2.2.2.2.2.2.2.2.2.2.2.2.2.2.2.2.2.2.2.2.2.2.2.2.2.2.2.2.2.2.2.2.2.2.2.2.2.2.2.2.2.2.2.2.2.1
theorem cn_101 {β : Type} {S : st_T} {x : Nat} {k : Nat → Option β} (h : CS S x) : c_n (st_fr S 101 (x + 21)) k = k (x + 22) := n_s h.2.2.2.2.2.2.2.2.2.2.2.2.2.2.2.2.2.2.2.2.2.2.2.2.2.2.2.2.2.2.2.2.2.2.2.2.2.2.2.2.2.2.2.2.2.2.1
theorem cn_907 {β : Type} {S : st_T} {x : Nat} {k : Nat → Option β} (h : CS S x) : c_n (st_fr S 907 x) k = k (x + 23) := n_s h.2.2.2.2.2.2.2.2.2.2.2.2.2.2.2.2.2.2.2.2.2.2.2.2.2.2.2.2.2.2.2.2.2.2.2.2.2.2.2.2.2.2.2.2.2.2.2.1
theorem rn_1001 {β : Type} {S : st_T} {m : Nat} {k : Nat → Option β} (h : RS S m) : c_n (st_fr S 1001 m) k = k (m + 1) := n_s h.2.2.2.1
theorem rn_1004 {β : Type} {S : st_T} {m : Nat} {k : Nat → Option β} (h : RS S m) : c_n (st_fr S 1004 m) k = k (m + 2) := n_s h.2.2.2.2.2.2.1
theorem rn_1005 {β : Type} {S : st_T} {m : Nat} {k : Nat → Option β} (h : RS S m) : c_n (st_fr S 1005 m) k = k (m + 3) := n_s h.2.2.2.2.2.2.2.2.2.1
theorem rn_1006 {β : Type} {S : st_T} {m : Nat} {k : Nat → Option β} (h : RS S m) : c_n (st_fr S 1006 m) k = k (m + 4) := n_s h.2.2.2.2.2.2.2.2.2.2.2.2.1
theorem rn_1009 {β : Type} {S : st_T} {m : Nat} {k : Nat → Option β} (h : RS S m) : c_n (st_fr S 1009 m) k = k (m + 5) := n_s h.2.2.2.2.2.2.2.2.2.2.2.2.2.2.2.1
theorem rn_1012 {β : Type} {S : st_T} {m : Nat} {k : Nat → Option β} (h : RS S m) : c_n (st_fr S 1012 m) k = k (m + 6) := n_s h.2.2.2.2.2.2.2.2.2.2.2.2.2.2.2.2.2.2.1
theorem rn_1013 {β : Type} {S : st_T} {m : Nat} {k : Nat → Option β} (h : RS S m) : c_n (st_fr S 1013 m) k = k (m + 7) := n_s h.2.2.2.2.2.2.2.2.2.2.2.2.2.2.2.2.2.2.2.2.2.1
theorem rn_1014 {β : Type} {S : st_T} {m : Nat} {k : Nat → Option β} (h : RS S m) : c_n (st_fr S 1014 m) k = k (m + 8) := n_s h.2.2.2.2.2.2.2.2.2.2.2.2.2.2.2.2.2.2.2.2.2.2.2.2.1
theorem rn_1015 {β : Type} {S : st_T} {m : Nat} {k : Nat → Option β} (h : RS S m) : c_n (st_fr S 1015 m) k = k (m + 9) := n_s h.2.2.2.2.2.2.2.2.2.2.2.2.2.2.2.2.2.2.2.2.2.2.2.2.2.2.2.1
theorem rn_1016 {β : Type} {S : st_T} {m : Nat} {k : Nat → Option β} (h : RS S m) : c_n (st_fr S 1016 m) k = k (m + 10) := n_s h.2.2.2.2.2.2.2.2.2.2.2.2.2.2.2.2.2.2.2.2.2.2.2.2.2.2.2.2.2.2.1
theorem rn_1017 {β : Type} {S : st_T} {m : Nat} {k : Nat → Option β} (h : RS S m) : c_n (st_fr S 1017 m) k = k (m + 11) := n_s h.2.2.2.2.2.2.2.2.2.2.2.2.2.2.2.2.2.2.2.2.2.2.2.2.2.2.2.2.2.2.2.2.2.1
theorem rn_1020 {β : Type} {S : st_T} {m : Nat} {k : Nat → Option β} (h : RS S m) : c_n (st_fr S 1020 m) k = k (m + 12) := n_s h.2.2.2.2.2.2.2.2.2.2.2.2.2.2.2.2.2.2.2.2.2.2.2.2.2.2.2.2.2.2.2.2.2.2.2.2.1
theorem rn_1021 {β : Type} {S : st_T} {m : Nat} {k : Nat → Option β} (h : RS S m) : c_n (st_fr S 1021 m) k = k (m + 13) := n_s h.2.2.2.2.2.2.2.2.2.2.2.2.2.2.2.2.2.2.2.2.2.2.2.2.2.2.2.2.2.2.2.2.2.2.2.2.2.2.2.1
theorem rn_1022 {β : Type} {S : st_T} {m : Nat} {k : Nat → Option β} (h : RS S m) : c_n (st_fr S 1022 m) k = k (m + 14) := n_s h.2.2.2.2.2.2.2.2.2.2.2.2.2.2.2.2.2.2.2.2.2.2.2.2.2.2.2.2.2.2.2.2.2.2.2.2.2.2.2.2.2.2.1
theorem rn_1023 {β : Type} {S : st_T} {m : Nat} {k : Nat → Option β} (h : RS S m) : c_n (st_fr S 1023 m) k = k (m + 15) := n_s h.2.2.2.2.2.2.2.2.2.2.2.2.2.2.2.2.2.2.2.2.2.2.2.2.2.2.2.2.2.2.2.2.2.2.2.2.2.2.2.2.2.2.2.2.2.1
theorem rn_1024 {β : Type} {S : st_T} {m : Nat} {k : Nat → Option β} (h : RS S m) : c_n (st_fr S 1024 m) k = k (m + 16) := n_s h.2.2.2.2.2.2.2.2.2.2.2.2.2.2.2.2.2.2.2.2.2.2.2.2.2.2.2.2.2.2.2.2.2.2.2.2.2.2.2.2.2.2.2.2.2.2.2.2.1
theorem rn_1025 {β : Type} {S : st_T} {m : Nat} {k : Nat → Option β} (h : RS S m) : c_n (st_fr S 1025 m) k = k (m + 17) := n_s h.2.2.2.2.2.2.2.2.2.2.2.2.2.2.2.2.2.2.2.2.2.2.2.2.2.2.2.2.2.2.2.2.2.2.2.2.2.2.2.2.2.2.2.2.2.2.2.2.2.2.2.1
theorem rn_1026 {β : Type} {S : st_T} {m : Nat} {k : Nat → Option β} (h : RS S m) : c_n (st_fr S 1026 m) k = k (m + 18) := n_s h.2.2.2.2.2.2.2.2.2.2.2.2.2.2.2.2.2.2.2.2.2.2.2.2.2.2.2.2.2.2.2.2.2.2.2.2.2.2.2.2.2.2.2.2.2.2.2.2.2.2.2.2.2.2.1
theorem rn_1028 {β : Type} {S : st_T} {m : Nat} {k : Nat → Option β} (h : RS S m) : c_n (st_fr S 1028 m) k = k (m + 19) := n_s h.2.2.2.2.2.2.2.2.2.2.2.2.2.2.2.2.2.2.2.2.2.2.2.2.2.2.2.2.2.2.2.2.2.2.2.2.2.2.2.2.2.2.2.2.2.2.2.2.2.2.2.2.2.2.2.2.2.1
theorem rn_1029 {β : Type} {S : st_T} {m : Nat} {k : Nat → Option β} (h : RS S m) : c_n (st_fr S 1029 m) k = k (m + 20) := n_s h.2.2.2.2.2.2.2.2.2.2.2.2.2.2.2.2.2.2.2.2.2.2.2.2.2.2.2.2.2.2.2.2.2.2.2.2.2.2.2.2.2.2.2.2.2.2.2.2.2.2.2.2.2.2.2.2.2.2.2.2.1
theorem rn_1030 {β : Type} {S : st_T} {m : Nat} {k : Nat → Option β} (h : RS S m) : c_n (st_fr S 1030 m) k = k (m + 21) := n_s h.2.2.2.2.2.2.2.2.2.2.2.2.2.2.2.2.2.2.2.2.2.2.2.2.2.2.2.2.2.2.2.2.2.2.2.2.2.2.2.2.2.2.2.2.2.2.2.2.2.2.2.2.2.2.2.2.2.2.2.2.2.2.2.1
theorem rn_1031 {β : Type} {S : st_T} {m : Nat} {k : Nat → Option β} (h : RS S m) : c_n (st_fr S 1031 m) k = k (m + 22) := n_s h.2.2.2.2.2.2.2.2.2.2.2.2.2.2.2.2.2.2.2.2.2.2.2.2.2.2.2.2.2.2.2.2.2.2.2.2.2.2.2.2.2.2.2.2.2.2.2.2.2.2.2.2.2.2.2.2.2.2.2.2.2.2.2.2.2.2.1
theorem rn_1032 {β : Type} {S : st_T} {m : Nat} {k : Nat → Option β} (h : RS S m) : c_n (st_fr S 1032 m) k = k (m + 23) := n_s h.2.2.2.2.2.2.2.2.2.2.2.2.2.2.2.2.2.2.2.2.2.2.2.2.2.2.2.2.2.2.2.2.2.2.2.2.2.2.2.2.2.2.2.2.2.2.2.2.2.2.2.2.2.2.2.2.2.2.2.2.2.2.2.2.2.2.2.2.2.1
theorem rn_1033 {β : Type} {S : st_T} {m : Nat} {k : Nat → Option β} (h : RS S m) : c_n (st_fr S 1033 m) k = k (m + 24) := n_s h.2.2.2.2.2.2.2.2.2.2.2.2.2.2.2.2.2.2.2.2.2.2.2.2.2.2.2.2.2.2.2.2.2.2.2.2.2.2.2.2.2.2.2.2.2.2.2.2.2.2.2.2.2.2.2.2.2.2.2.2.2.2.2.2.2.2.2.2.2.2.2.2.1
theorem rn_1034 {β : Type} {S : st_T} {m : Nat} {k : Nat → Option β} (h : RS S m) : c_n (st_fr S 1034 m) k = k (m + 25) := n_s h.2.2.2.2.2.2.2.2.2.2.2.2.2.2.2.2.2.2.2.2.2.2.2.2.2.2.2.2.2.2.2.2.2.2.2.2.2.2.2.2.2.2.2.2.2.2.2.2.2.2.2.2.2.2.2.2.2.2.2.2.2.2.2.2.2.2.2.2.2.2.2.2.2.2.2.1
theorem rn_1035 {β : Type} {S : st_T} {m : Nat} {k : Nat → Option β} (h : RS S m) : c_n (st_fr S 1035 m) k = k (m + 26) := n_s h.2.2.2.2.2.2.2.2.2.2.2.2.2.2.2.2.2.2.2.2.2.2.2.2.2.2.2.2.2.2.2.2.2.2.2.2.2.2.2.2.2.2.2.2.2.2.2.2.2.2.2.2.2.2.2.2.2.2.2.2.2.2.2.2.2.2.2.2.2.2.2.2.2.2.2.2.2.2.1
theorem rn_1036 {β : Type} {S : st_T} {m : Nat} {k : Nat → Option β} (h : RS S m) : c_n (st_fr S 1036 m) k = k (m + 27) := n_s h.2.2.2.2.2.2.2.2.2.2.2.2.2.2.2.2.2.2.2.2.2.2.2.2.2.2.2.2.2.2.2.2.2.2.2.2.2.2.2.2.2.2.2.2.2.2.2.2.2.2.2.2.2.2.2.2.2.2.2.2.2.2.2.2.2.2.2.2.2.2.2.2.2.2.2.2.2.2.2.2.2.1
theorem rn_1037 {β : Type} {S : st_T} {m : Nat} {k : Nat → Option β} (h : RS S m) : c_n (st_fr S 1037 m) k = k (m + 28) := n_s h.2.2.2.2.2.2.2.2.2.2.2.2.2.2.2.2.2.2.2.2.2.2.2.2.2.2.2.2.2.2.2.2.2.2.2.2.2.2.2.2.2.2.2.2.2.2.2.2.2.2.2.2.2.2.2.2.2.2.2.2.2.2.2.2.2.2.2.2.2.2.2.2.2.2.2.2.2.2.2.2.2.2.2.2.1
theorem rn_1038 {β : Type} {S : st_T} {m : Nat} {k : Nat → Option β} (h : RS S m) : c_n (st_fr S 1038 m) k = k (m + 29) := n_s h.2.2.2.2.2.2.2.2.2.2.2.2.2.2.2.2.2.2.2.2.2.2.2.2.2.2.2.2.2.2.2.2.2.2.2.2.2.2.2.2.2.2.2.2.2.2.2.2.2.2.2.2.2.2.2.2.2.2.2.2.2.2.2.2.2.2.2.2.2.2.2.2.2.2.2.2.2.2.2.2.2.2.2.2.2.2.2
theorem CS_pi {S : st_T} {x : Nat} (k a : Nat) (v : Int32) (h : CS S x) : CS (st_pi S k a v) x := h
theorem RS_pi {S : st_T} {m : Nat} (k a : Nat) (v : Int32) (h : RS S m) : RS (st_pi S k a v) m := h
theorem CS_wi {S : st_T} {x : Nat} (a j : Nat) (v : Int32) (h : CS S x) : CS (st_wi S a j v) x := h
theorem RS_wi {S : st_T} {m : Nat} (a j : Nat) (v : Int32) (h : RS S m) : RS (st_wi S a j v) m := h
theorem CS_wl {S : st_T} {x : Nat} (a j : Nat) (v : Int64) (h : CS S x) : CS (st_wl S a j v) x := h
theorem RS_wl {S : st_T} {m : Nat} (a j : Nat) (v : Int64) (h : RS S m) : RS (st_wl S a j v) m := h
theorem CS_wo {S : st_T} {x : Nat} (a j : Nat) (v : Option Nat) (h : CS S x) : CS (st_wo S a j v) x := h
theorem RS_wo {S : st_T} {m : Nat} (a j : Nat) (v : Option Nat) (h : RS S m) : RS (st_wo S a j v) m := h
theorem CS_xo {S : st_T} {x : Nat} (a : Nat) (f : Nat → Option Nat) (h : CS S x) : CS (st_xo S a f) x := h
theorem RS_xo {S : st_T} {m : Nat} (a : Nat) (f : Nat → Option Nat) (h : RS S m) : RS (st_xo S a f) m := h
theorem CS_xi {S : st_T} {x : Nat} (a : Nat) (f : Nat → Int32) (h : CS S x) : CS (st_xi S a f) x := h
theorem RS_xi {S : st_T} {m : Nat} (a : Nat) (f : Nat → Int32) (h : RS S m) : RS (st_xi S a f) m := h

theorem CS_fq {R : Nat → Prop} {F : Nat → Nat → Prop} {S S1 : st_T} {x : Nat} (h : CS S x) (g : fq R F S S1) : CS S1 x := by
  unfold CS
  rw [fq_K g, fq_fr g, fq_ln g]
  exact h
/-- the constants -/
def SA (S : st_T) (x : Nat) : Prop := (∀ i, i < 15 → st_K S (st_sa S i) = 31 ∧ st_ln S (st_sa S i) = (st_tx i).length ∧ st_sa S i < x ∧ ∀ j, j < (st_tx i).length → st_ri S (st_sa S i) j = nI ((st_tx i).getD j 0)) ∧ st_K S (st_sa S 100) = 30 ∧ st_ln S (st_sa S 100) = 0 ∧ st_sa S 100 < x
/-- a list's cells: its row is the shared empty one, or its own -/
def LSt (S : st_T) (l e n : Nat) (f : Nat → Nat) : Prop := st_K S l = 1 ∧ st_fr S 1 l = some e ∧ st_fi S 2 l = nI n ∧ ((n = 0 ∧ e = st_sa S 100 ∧ st_K S e = 30 ∧ st_ln S e = 0) ∨ (st_K S e = 24 ∧ n ≤ st_ln S e ∧ 10 ≤ st_ln S e ∧ st_ln S e ≤ 64 ∧ l < e)) ∧ ∀ i, i < n → st_ro S e i = some (f i)
/-- a text's cells -/
def TX (S : st_T) (a : Nat) (b : Nat → Nat) (t : tT) : Prop := st_K S a = 7 ∧ st_fr S 600 a = some (b 0) ∧ st_fr S 601 a = some (b 1) ∧ st_fr S 602 a = some (b 2) ∧ st_fr S 603 a = some (b 3) ∧ st_K S (b 0) = 20 ∧ st_K S (b 1) = 20 ∧ st_K S (b 2) = 20 ∧ st_K S (b 3) = 20 ∧ st_ln S (b 0) = t.1.length ∧ st_ln S (b 1) = t.1.length ∧ st_ln S (b 2) = t.2.1.length ∧ st_ln S (b 3) = t.2.1.length ∧ st_fi S 604 a = nI t.2.2 ∧ (∀ r, r < t.1.length → st_ri S (b 0) r = nI (t.1.getD r (0, 0)).1 ∧ st_ri S (b 1) r = nI (t.1.getD r (0, 0)).2) ∧ ∀ j, j < t.2.1.length → st_ri S (b 2) j = nI (t.2.1.getD j (0, 0)).1 ∧ st_ri S (b 3) j = nI (t.2.1.getD j (0, 0)).2
/-- a line's cells -/
def CL (S : st_T) (a : Nat) (l : Nat → Nat) : Prop := st_K S a = 4 ∧ st_fi S 300 a = nI (l 0) ∧ st_fi S 301 a = nI (l 1) ∧ st_fi S 302 a = nI (l 2) ∧ st_fi S 303 a = nI (l 3) ∧ st_fi S 304 a = nI (l 4) ∧ st_fi S 305 a = nI (l 5)
/-- where the class's cells are: row of diaries; diaries, their lists, the rows of these, lines; row of texts; texts, their rows -/
abbrev aT : Type := Nat × (Nat → Nat) × (Nat → Nat) × (Nat → Nat) × (Nat → Nat → Nat) × Nat × (Nat → Nat) × (Nat → Nat → Nat)
def a_ed (A : aT) : Nat := A.1
def a_d (A : aT) : Nat → Nat := A.2.1
def a_l (A : aT) : Nat → Nat := A.2.2.1
def a_e (A : aT) : Nat → Nat := A.2.2.2.1
def a_n (A : aT) : Nat → Nat → Nat := A.2.2.2.2.1
def a_et (A : aT) : Nat := A.2.2.2.2.2.1
def a_t (A : aT) : Nat → Nat := A.2.2.2.2.2.2.1
def a_b (A : aT) : Nat → Nat → Nat := A.2.2.2.2.2.2.2
/-- a diary's cells -/
def CDi (S : st_T) (A : aT) (M : mT) (i : Nat) : Prop := st_K S (a_d A i) = 3 ∧ st_fi S 200 (a_d A i) = nI (m_dd M i 0) ∧ st_fi S 201 (a_d A i) = nI (m_dd M i 1) ∧ st_fi S 202 (a_d A i) = nI (m_dd M i 2) ∧ st_fi S 203 (a_d A i) = nI (m_dd M i 3) ∧ st_fi S 205 (a_d A i) = nI (m_dd M i 4) ∧ st_fr S 204 (a_d A i) = some (a_l A i) ∧ LSt S (a_l A i) (a_e A i) (m_nl M i) (a_n A i) ∧ ∀ k, k < m_nl M i → CL S (a_n A i k) (m_lv M i k)
/-- its lines are coded -/
def CO (S : st_T) (A : aT) (M : mT) (i : Nat) : Prop := ∀ k, k < m_nl M i → st_fi S 306 (a_n A i k) = c1 M i k ∧ st_fi S 307 (a_n A i k) = c2 M i k ∧ st_fi S 308 (a_n A i k) = nI (mn M i k)
/-- .. if its mark is the newest -/
def CV (S : st_T) (A : aT) (M : mT) (v i : Nat) : Prop := st_fi S 206 (a_d A i) = m1 ∨ ∃ u, u ≤ v ∧ st_fi S 206 (a_d A i) = nI u ∧ (u = v → CO S A M i)
/-- where the cells lie: all behind the reference's, none twice -/
def AD (x nx : Nat) (A : aT) (M : mT) : Prop := x + 54 < nx ∧ (∀ i, i < m_D M → x + 54 < a_d A i ∧ a_d A i < nx ∧ x + 54 < a_l A i ∧ a_l A i < nx ∧ (a_e A i < x ∨ (x + 54 < a_e A i ∧ a_e A i < nx))) ∧ (a_ed A < x ∨ (x + 54 < a_ed A ∧ a_ed A < nx)) ∧ (a_et A < x ∨ (x + 54 < a_et A ∧ a_et A < nx)) ∧ (∀ i j, i < m_D M → j < m_D M → a_d A i = a_d A j → i = j) ∧ (∀ i j, i < m_D M → j < m_D M → a_l A i = a_l A j → i = j) ∧ (∀ i j, i < m_D M → j < m_D M → a_e A i = a_e A j → i = j ∨ a_e A i < x) ∧ (∀ i, i < m_D M → a_e A i = a_ed A ∨ a_e A i = a_et A → a_e A i < x) ∧ (a_ed A = a_et A → a_ed A < x) ∧ (∀ i k, i < m_D M → k < m_nl M i → x + 54 < a_n A i k ∧ a_n A i k < nx) ∧ (∀ i k j l, i < m_D M → k < m_nl M i → j < m_D M → l < m_nl M j → a_n A i k = a_n A j l → i = j ∧ k = l) ∧ (∀ t, t < m_T M → x + 54 < a_t A t ∧ a_t A t < nx) ∧ (∀ t j, t < m_T M → j < 4 → x + 54 < a_b A t j ∧ a_b A t j < nx)
/-- the class's cells hold M -/
def CI (S : st_T) (x : Nat) (A : aT) (M : mT) (v : Nat) : Prop := CS S x ∧ SA S x ∧ (∀ w, w ≤ 200 → st_ri S (x + 2) w = nI (m_tr M w)) ∧ LSt S (x + 3) (a_ed A) (m_D M) (a_d A) ∧ (∀ i, i < m_D M → CDi S A M i) ∧ (∀ i, i < m_D M → CV S A M v i) ∧ LSt S (x + 4) (a_et A) (m_T M) (a_t A) ∧ (∀ t, t < m_T M → TX S (a_t A t) (a_b A t) (m_tx M t)) ∧ st_fi S 501 (x + 10) = nI (m_tz M) ∧ (∀ j, j < m_tz M → st_ri S (x + 11) j = nI (m_ts M j)) ∧ (∀ s, s < 5 → st_ri S (x + 23) s = nI (m_ct M s)) ∧ st_fi S 908 x = chI (m_ch M) ∧ st_fi S 909 x = nI v ∧ st_fi S 604 (x + 5) = nI 0 ∧ AD x (st_nx S) A M
section CI0
variable {S : st_T} {x : Nat} {A : aT} {M : mT} {v : Nat}
theorem CI_s (h : CI S x A M v) : CS S x := h.1
theorem CI_a (h : CI S x A M v) : SA S x := h.2.1
theorem CI_tr (h : CI S x A M v) {w : Nat} (hw : w ≤ 200) : st_ri S (x + 2) w = nI (m_tr M w) := h.2.2.1 w hw
theorem CI_dl (h : CI S x A M v) : LSt S (x + 3) (a_ed A) (m_D M) (a_d A) := h.2.2.2.1
theorem CI_d (h : CI S x A M v) {i : Nat} (hi : i < m_D M) : CDi S A M i := h.2.2.2.2.1 i hi
theorem CI_v (h : CI S x A M v) {i : Nat} (hi : i < m_D M) : CV S A M v i := h.2.2.2.2.2.1 i hi
theorem CI_tl (h : CI S x A M v) : LSt S (x + 4) (a_et A) (m_T M) (a_t A) := h.2.2.2.2.2.2.1
theorem CI_tx (h : CI S x A M v) {t : Nat} (ht : t < m_T M) : TX S (a_t A t) (a_b A t) (m_tx M t) := h.2.2.2.2.2.2.2.1 t ht
theorem CI_tz (h : CI S x A M v) : st_fi S 501 (x + 10) = nI (m_tz M) := h.2.2.2.2.2.2.2.2.1
theorem CI_ts (h : CI S x A M v) {j : Nat} (hj : j < m_tz M) : st_ri S (x + 11) j = nI (m_ts M j) := h.2.2.2.2.2.2.2.2.2.1 j hj
theorem CI_ct (h : CI S x A M v) {s : Nat} (hs : s < 5) : st_ri S (x + 23) s = nI (m_ct M s) := h.2.2.2.2.2.2.2.2.2.2.1 s hs
theorem CI_ch (h : CI S x A M v) : st_fi S 908 x = chI (m_ch M) := h.2.2.2.2.2.2.2.2.2.2.2.1
theorem CI_ve (h : CI S x A M v) : st_fi S 909 x = nI v := h.2.2.2.2.2.2.2.2.2.2.2.2.1
theorem CI_nm (h : CI S x A M v) : st_fi S 604 (x + 5) = nI 0 := h.2.2.2.2.2.2.2.2.2.2.2.2.2.1
theorem CI_ad (h : CI S x A M v) : AD x (st_nx S) A M := h.2.2.2.2.2.2.2.2.2.2.2.2.2.2
end CI0
