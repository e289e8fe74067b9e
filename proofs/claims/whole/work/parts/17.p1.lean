set_option maxRecDepth 100000 in
def f_X6_spelling (S : st_T) (x0 : Int32) : Option (Option Nat × st_T) :=
  (c_i (x0 = 10) (some ((some (st_sa S 0)), S)) (c_i (x0 = 11) (some ((some (st_sa S 1)), S)) (c_i (x0 = 12) (some ((some (st_sa S 2)), S)) (c_i (x0 = 13) (some ((some (st_sa S 3)), S)) (c_i (x0 = 14) (some ((some (st_sa S 4)), S)) (c_i (x0 = 15) (some ((some (st_sa S 5)), S)) (c_i (x0 = 16) (some ((some (st_sa S 6)), S)) (c_i (x0 = 17) (some ((some (st_sa S 7)), S)) (c_i (x0 = 18) (some ((some (st_sa S 8)), S)) (c_i (x0 = 19) (some ((some (st_sa S 9)), S)) (c_i (x0 = 20) (some ((some (st_sa S 10)), S)) (c_i (x0 = 21) (some ((some (st_sa S 11)), S)) (c_i (x0 = 22) (some ((some (st_sa S 12)), S)) (c_i (x0 = 23) (some ((some (st_sa S 13)), S)) (some ((some (st_sa S 14)), S))))))))))))))))
set_option maxRecDepth 100000 in
set_option maxHeartbeats 4000000 in
theorem s_X6_spelling (l : Launch) (X : st_I) {S SE : st_T} {x0 : Int32} {rr : Option Nat} (Hf : f_X6_spelling S x0 = some (rr, SE)) : Met l yX6_spelling (Cond.code yX6_spelling cX6_spelling 1 (some (.object "java/lang/String")) :: lw_g) { frames := 0, cells := 0, slots := 0, locals := 0 } (st_P X S [.int x0]) (st_Q X (st_A S) (some (va_rf rr)) SE) 0 0 (st_A S) := by
  refine st_ofW (by decide) (Nat.le_of_ble_eq_true rfl) ?_
  intro p e s m args below meth c hx hb hr hml hlocks hnm hts hown hK hRO hA hP hS ls hl
  have hown : s.vm.findClass RX6 = some m.cls := hown
  have hl : lv_has ls 1 [(0, .int x0)] := hl
  unfold f_X6_spelling at Hf
  refine lv_iload_n hx hb dX6_spelling_0 rfl (lv_at hl 0 rfl) ?_
  by_cases hs10 : x0 = 10
  · have Hf := c_i_t Hf hs10
    refine lv_tableIn hx hb dX6_spelling_1 (by rw [hs10]; decide) (by rw [hs10]; decide) (off := 71) (by rw [hs10]; rfl) (tgt := 72) (by decide) ?_
    refine r_ldcT (i := 0) hx hb hown hRO hP (by decide) dX6_spelling_72 ?_
    cases Hf
    exact r_aret (v := (some (st_sa S 0))) hx hb hr rfl (Or.inl ⟨_, rfl⟩) hlocks dX6_spelling_74 (Nat.le_of_ble_eq_true rfl) (Nat.le_of_ble_eq_true rfl) hP hS
  have Hf := c_i_f Hf hs10
  by_cases hs11 : x0 = 11
  · have Hf := c_i_t Hf hs11
    refine lv_tableIn hx hb dX6_spelling_1 (by rw [hs11]; decide) (by rw [hs11]; decide) (off := 74) (by rw [hs11]; rfl) (tgt := 75) (by decide) ?_
    refine r_ldcT (i := 1) hx hb hown hRO hP (by decide) dX6_spelling_75 ?_
    cases Hf
    exact r_aret (v := (some (st_sa S 1))) hx hb hr rfl (Or.inl ⟨_, rfl⟩) hlocks dX6_spelling_77 (Nat.le_of_ble_eq_true rfl) (Nat.le_of_ble_eq_true rfl) hP hS
  have Hf := c_i_f Hf hs11
  by_cases hs12 : x0 = 12
  · have Hf := c_i_t Hf hs12
    refine lv_tableIn hx hb dX6_spelling_1 (by rw [hs12]; decide) (by rw [hs12]; decide) (off := 77) (by rw [hs12]; rfl) (tgt := 78) (by decide) ?_
    refine r_ldcT (i := 2) hx hb hown hRO hP (by decide) dX6_spelling_78 ?_
    cases Hf
    exact r_aret (v := (some (st_sa S 2))) hx hb hr rfl (Or.inl ⟨_, rfl⟩) hlocks dX6_spelling_80 (Nat.le_of_ble_eq_true rfl) (Nat.le_of_ble_eq_true rfl) hP hS
  have Hf := c_i_f Hf hs12
  by_cases hs13 : x0 = 13
  · have Hf := c_i_t Hf hs13
    refine lv_tableIn hx hb dX6_spelling_1 (by rw [hs13]; decide) (by rw [hs13]; decide) (off := 80) (by rw [hs13]; rfl) (tgt := 81) (by decide) ?_
    refine r_ldcT (i := 3) hx hb hown hRO hP (by decide) dX6_spelling_81 ?_
    cases Hf
    exact r_aret (v := (some (st_sa S 3))) hx hb hr rfl (Or.inl ⟨_, rfl⟩) hlocks dX6_spelling_83 (Nat.le_of_ble_eq_true rfl) (Nat.le_of_ble_eq_true rfl) hP hS
  have Hf := c_i_f Hf hs13
  by_cases hs14 : x0 = 14
  · have Hf := c_i_t Hf hs14
    refine lv_tableIn hx hb dX6_spelling_1 (by rw [hs14]; decide) (by rw [hs14]; decide) (off := 83) (by rw [hs14]; rfl) (tgt := 84) (by decide) ?_
    refine r_ldcT (i := 4) hx hb hown hRO hP (by decide) dX6_spelling_84 ?_
    cases Hf
    exact r_aret (v := (some (st_sa S 4))) hx hb hr rfl (Or.inl ⟨_, rfl⟩) hlocks dX6_spelling_86 (Nat.le_of_ble_eq_true rfl) (Nat.le_of_ble_eq_true rfl) hP hS
  have Hf := c_i_f Hf hs14
  by_cases hs15 : x0 = 15
  · have Hf := c_i_t Hf hs15
    refine lv_tableIn hx hb dX6_spelling_1 (by rw [hs15]; decide) (by rw [hs15]; decide) (off := 86) (by rw [hs15]; rfl) (tgt := 87) (by decide) ?_
    refine r_ldcT (i := 5) hx hb hown hRO hP (by decide) dX6_spelling_87 ?_
    cases Hf
    exact r_aret (v := (some (st_sa S 5))) hx hb hr rfl (Or.inl ⟨_, rfl⟩) hlocks dX6_spelling_89 (Nat.le_of_ble_eq_true rfl) (Nat.le_of_ble_eq_true rfl) hP hS
  have Hf := c_i_f Hf hs15
  by_cases hs16 : x0 = 16
  · have Hf := c_i_t Hf hs16
    refine lv_tableIn hx hb dX6_spelling_1 (by rw [hs16]; decide) (by rw [hs16]; decide) (off := 89) (by rw [hs16]; rfl) (tgt := 90) (by decide) ?_
    refine r_ldcT (i := 6) hx hb hown hRO hP (by decide) dX6_spelling_90 ?_
    cases Hf
    exact r_aret (v := (some (st_sa S 6))) hx hb hr rfl (Or.inl ⟨_, rfl⟩) hlocks dX6_spelling_92 (Nat.le_of_ble_eq_true rfl) (Nat.le_of_ble_eq_true rfl) hP hS
  have Hf := c_i_f Hf hs16
  by_cases hs17 : x0 = 17
  · have Hf := c_i_t Hf hs17
    refine lv_tableIn hx hb dX6_spelling_1 (by rw [hs17]; decide) (by rw [hs17]; decide) (off := 92) (by rw [hs17]; rfl) (tgt := 93) (by decide) ?_
    refine r_ldcT (i := 7) hx hb hown hRO hP (by decide) dX6_spelling_93 ?_
    cases Hf
    exact r_aret (v := (some (st_sa S 7))) hx hb hr rfl (Or.inl ⟨_, rfl⟩) hlocks dX6_spelling_95 (Nat.le_of_ble_eq_true rfl) (Nat.le_of_ble_eq_true rfl) hP hS
  have Hf := c_i_f Hf hs17
  by_cases hs18 : x0 = 18
  · have Hf := c_i_t Hf hs18
    refine lv_tableIn hx hb dX6_spelling_1 (by rw [hs18]; decide) (by rw [hs18]; decide) (off := 95) (by rw [hs18]; rfl) (tgt := 96) (by decide) ?_
    refine r_ldcT (i := 8) hx hb hown hRO hP (by decide) dX6_spelling_96 ?_
    cases Hf
    exact r_aret (v := (some (st_sa S 8))) hx hb hr rfl (Or.inl ⟨_, rfl⟩) hlocks dX6_spelling_98 (Nat.le_of_ble_eq_true rfl) (Nat.le_of_ble_eq_true rfl) hP hS
  have Hf := c_i_f Hf hs18
  by_cases hs19 : x0 = 19
  · have Hf := c_i_t Hf hs19
    refine lv_tableIn hx hb dX6_spelling_1 (by rw [hs19]; decide) (by rw [hs19]; decide) (off := 98) (by rw [hs19]; rfl) (tgt := 99) (by decide) ?_
    refine r_ldcT (i := 9) hx hb hown hRO hP (by decide) dX6_spelling_99 ?_
    cases Hf
    exact r_aret (v := (some (st_sa S 9))) hx hb hr rfl (Or.inl ⟨_, rfl⟩) hlocks dX6_spelling_101 (Nat.le_of_ble_eq_true rfl) (Nat.le_of_ble_eq_true rfl) hP hS
  have Hf := c_i_f Hf hs19
  by_cases hs20 : x0 = 20
  · have Hf := c_i_t Hf hs20
    refine lv_tableIn hx hb dX6_spelling_1 (by rw [hs20]; decide) (by rw [hs20]; decide) (off := 101) (by rw [hs20]; rfl) (tgt := 102) (by decide) ?_
    refine r_ldcT (i := 10) hx hb hown hRO hP (by decide) dX6_spelling_102 ?_
    cases Hf
    exact r_aret (v := (some (st_sa S 10))) hx hb hr rfl (Or.inl ⟨_, rfl⟩) hlocks dX6_spelling_104 (Nat.le_of_ble_eq_true rfl) (Nat.le_of_ble_eq_true rfl) hP hS
  have Hf := c_i_f Hf hs20
  by_cases hs21 : x0 = 21
  · have Hf := c_i_t Hf hs21
    refine lv_tableIn hx hb dX6_spelling_1 (by rw [hs21]; decide) (by rw [hs21]; decide) (off := 104) (by rw [hs21]; rfl) (tgt := 105) (by decide) ?_
    refine r_ldcT (i := 11) hx hb hown hRO hP (by decide) dX6_spelling_105 ?_
    cases Hf
    exact r_aret (v := (some (st_sa S 11))) hx hb hr rfl (Or.inl ⟨_, rfl⟩) hlocks dX6_spelling_107 (Nat.le_of_ble_eq_true rfl) (Nat.le_of_ble_eq_true rfl) hP hS
  have Hf := c_i_f Hf hs21
  by_cases hs22 : x0 = 22
  · have Hf := c_i_t Hf hs22
    refine lv_tableIn hx hb dX6_spelling_1 (by rw [hs22]; decide) (by rw [hs22]; decide) (off := 107) (by rw [hs22]; rfl) (tgt := 108) (by decide) ?_
    refine r_ldcT (i := 12) hx hb hown hRO hP (by decide) dX6_spelling_108 ?_
    cases Hf
    exact r_aret (v := (some (st_sa S 12))) hx hb hr rfl (Or.inl ⟨_, rfl⟩) hlocks dX6_spelling_110 (Nat.le_of_ble_eq_true rfl) (Nat.le_of_ble_eq_true rfl) hP hS
  have Hf := c_i_f Hf hs22
  by_cases hs23 : x0 = 23
  · have Hf := c_i_t Hf hs23
    refine lv_tableIn hx hb dX6_spelling_1 (by rw [hs23]; decide) (by rw [hs23]; decide) (off := 110) (by rw [hs23]; rfl) (tgt := 111) (by decide) ?_
    refine r_ldcT (i := 13) hx hb hown hRO hP (by decide) dX6_spelling_111 ?_
    cases Hf
    exact r_aret (v := (some (st_sa S 13))) hx hb hr rfl (Or.inl ⟨_, rfl⟩) hlocks dX6_spelling_113 (Nat.le_of_ble_eq_true rfl) (Nat.le_of_ble_eq_true rfl) hP hS
  have Hf := c_i_f Hf hs23
  refine lv_tableOut hx hb dX6_spelling_1 (by have n10 := sw_ne 10 hs10 (n := 10) rfl; have n11 := sw_ne 11 hs11 (n := 11) rfl; have n12 := sw_ne 12 hs12 (n := 12) rfl; have n13 := sw_ne 13 hs13 (n := 13) rfl; have n14 := sw_ne 14 hs14 (n := 14) rfl; have n15 := sw_ne 15 hs15 (n := 15) rfl; have n16 := sw_ne 16 hs16 (n := 16) rfl; have n17 := sw_ne 17 hs17 (n := 17) rfl; have n18 := sw_ne 18 hs18 (n := 18) rfl; have n19 := sw_ne 19 hs19 (n := 19) rfl; have n20 := sw_ne 20 hs20 (n := 20) rfl; have n21 := sw_ne 21 hs21 (n := 21) rfl; have n22 := sw_ne 22 hs22 (n := 22) rfl; have n23 := sw_ne 23 hs23 (n := 23) rfl; omega) (tgt := 114) (by decide) ?_
  refine r_ldcT (i := 14) hx hb hown hRO hP (by decide) dX6_spelling_114 ?_
  cases Hf
  exact r_aret (v := (some (st_sa S 14))) hx hb hr rfl (Or.inl ⟨_, rfl⟩) hlocks dX6_spelling_116 (Nat.le_of_ble_eq_true rfl) (Nat.le_of_ble_eq_true rfl) hP hS

def b_X4_spells_34 (a0 : Nat) (x1 : Nat) (x2 : Int32) (rec34 : st_T × Int32 → Option (Int32 × st_T)) (q : st_T × Int32) : Option (Int32 × st_T) :=
  (fun (S34 : st_T) (y4_34 : Int32) =>
  (c_g (st_K S34 x1 = 31) (c_c (f_J0_length_8abf5 S34 x1) (fun (r37 : Int32) (T37 : st_T) => (c_i (r37 ≤ y4_34) (some (1, T37)) (c_g (st_K T37 x1 = 31) (c_c (f_J0_charAt_5068e T37 x1 y4_34) (fun (r46 : Int32) (T46 : st_T) => (c_g (st_K T46 a0 = 6) (c_n (st_fr T46 500 a0) (fun (q50 : Nat) => (c_g (st_K T46 q50 = 22) (c_g (c_in (x2 + y4_34) (st_ln T46 q50)) (c_i (r46 = (st_ri T46 q50 ((x2 + y4_34) : Int32).toNatClampNeg)) (rec34 (T46, (y4_34 + 1))) (some (0, T46)))))))))))))))) q.1 q.2
set_option maxRecDepth 100000 in
def f_X4_spells (S : st_T) (a0 : Nat) (x1 : Nat) (x2 : Int32) (x3 : Int32) : Option (Int32 × st_T) :=
  (c_g (st_K S x1 = 31) (c_c (f_J0_length_8abf5 S x1) (fun (r1 : Int32) (T1 : st_T) => (c_i (r1 = (x3 - x2)) (c_i (x2 < 0) (some (0, T1)) (c_g (st_K T1 a0 = 6) (c_i ((st_fi T1 501 a0) < x3) (some (0, T1)) (c_i (x3 ≤ 800) (c_w (b_X4_spells_34 a0 x1 x2) c_N (T1, 0)) (some (0, T1)))))) (some (0, T1))))))
set_option maxRecDepth 100000 in
set_option maxHeartbeats 4000000 in
theorem s_X4_spells (l : Launch) (X : st_I) {S SE : st_T} {a0 : Nat} {x1 : Nat} {x2 : Int32} {x3 : Int32} {rr : Int32} (Hf : f_X4_spells S a0 x1 x2 x3 = some (rr, SE)) : Met l yX4_spells (Cond.code yX4_spells cX4_spells 5 (some .boolean) :: lw_g) { frames := 4, cells := 0, slots := 0, locals := 93 } (st_P X S [.ref a0, .ref x1, .int x2, .int x3]) (st_Q X (st_A S) (some (.int rr)) SE) 0 0 (st_A S) := by
  refine st_ofW (by decide) (Nat.le_of_ble_eq_true rfl) ?_
  intro p e s m args below meth c hx hb hr hml hlocks hnm hts hown hK hRO hA hP hS ls hl
  have hown : s.vm.findClass RX4 = some m.cls := hown
  have hl : lv_has ls 5 [(0, .ref a0), (1, .ref x1), (2, .int x2), (3, .int x3)] := hl
  unfold f_X4_spells at Hf
  refine lv_aload_n hx hb dX4_spells_0 rfl (lv_at hl 1 rfl) ?_
  obtain ⟨hk_x1, Hf⟩ := c_g_some Hf
  obtain ⟨r1, T1, hq1, Hf⟩ := c_c_some Hf
  refine r_cVS (n := 0) (As := []) (rest := []) ⟨hx, hb, hml, hown, hts⟩ (s_J0_length_8abf5 l X hq1) lkm_X4_25 (by decide +kernel) dX4_spells_1 rfl rfl ⟨Nat.le_of_ble_eq_true rfl, Nat.le_of_ble_eq_true rfl⟩ hk_x1 rfl hl.1 (Nat.le_of_ble_eq_true rfl) ⟨Nat.le_of_ble_eq_true rfl, Nat.le_of_ble_eq_true rfl⟩ hK hRO hA hP hS (fun H locs hP hS => ?_)
  refine W.eq (g2 := F0 m 4 ls [.int r1]) rfl ?_
  refine lv_iload_n hx hb dX4_spells_4 rfl (lv_at hl 3 rfl) ?_
  refine lv_iload_n hx hb dX4_spells_5 rfl (lv_at hl 2 rfl) ?_
  refine lv_isub hx hb dX4_spells_6 ?_
  refine lv_icmp_ne hx hb dX4_spells_7 (tgt := 29) (by decide) (fun hc => ?_) (fun hc => ?_)
  · have Hf := c_i_f Hf hc
    refine lv_iconst (v := 0) hx hb dX4_spells_29 (by decide) ?_
    cases Hf
    exact r_zret hx hb hr rfl (Or.inl rfl) hlocks dX4_spells_30 (Nat.le_of_ble_eq_true rfl) (Nat.le_of_ble_eq_true rfl) hP hS
  have Hf := c_i_t Hf hc
  refine lv_iload_n hx hb dX4_spells_10 rfl (lv_at hl 2 rfl) ?_
  refine lv_if_lt hx hb dX4_spells_11 (tgt := 29) (by decide) (fun hc => ?_) (fun hc => ?_)
  · have Hf := c_i_t Hf hc
    refine lv_iconst (v := 0) hx hb dX4_spells_29 (by decide) ?_
    cases Hf
    exact r_zret hx hb hr rfl (Or.inl rfl) hlocks dX4_spells_30 (Nat.le_of_ble_eq_true rfl) (Nat.le_of_ble_eq_true rfl) hP hS
  have Hf := c_i_f Hf hc
  refine lv_iload_n hx hb dX4_spells_14 rfl (lv_at hl 3 rfl) ?_
  refine lv_aload_n hx hb dX4_spells_15 rfl (lv_at hl 0 rfl) ?_
  obtain ⟨hk_a0, Hf⟩ := c_g_some Hf
  refine fg_5_1 hx hb hts hown hK hP hk_a0 lkf_X4_15 dX4_spells_16 ?_
  refine lv_icmp_gt hx hb dX4_spells_19 (tgt := 29) (by decide) (fun hc => ?_) (fun hc => ?_)
  · have Hf := c_i_t Hf hc
    refine lv_iconst (v := 0) hx hb dX4_spells_29 (by decide) ?_
    cases Hf
    exact r_zret hx hb hr rfl (Or.inl rfl) hlocks dX4_spells_30 (Nat.le_of_ble_eq_true rfl) (Nat.le_of_ble_eq_true rfl) hP hS
  have Hf := c_i_f Hf hc
  refine lv_iload_n hx hb dX4_spells_22 rfl (lv_at hl 3 rfl) ?_
  refine lv_sipush (v := 800) hx hb dX4_spells_23 (by decide) ?_
  refine lv_icmp_le hx hb dX4_spells_26 (tgt := 31) (by decide) (fun hc => ?_) (fun hc => ?_)
  · have Hf := c_i_t Hf hc
    refine lv_iconst (v := 0) hx hb dX4_spells_31 (by decide) ?_
    refine lv_istore (lv' := [(4, .int 0), (0, .ref a0), (1, .ref x1), (2, .int x2), (3, .int x3)]) hx hb dX4_spells_32 hl (by decide) rfl (fun ls hl => ?_)
    refine (c_w_ind (P := fun (q : st_T × Int32) => ∀ (H : Heap) (locs : List Loc) (ls : Array Slot), st_HP X (st_A S) q.1 H → va_S (st_A S) s.heap H locs → lv_has ls 5 [(0, .ref a0), (1, .ref x1), (2, .int x2), (4, .int q.2)] → W p l e { frames := 4, cells := 0, slots := 0, locals := 93 } s m args below meth c H locs 0 0 (MQ below (st_Q X (st_A S) (some (.int rr)) SE) args s 0 0 (st_A S)) (F0 m 34 ls [])) ?_ _ _ Hf) _ _ _ hP hS (lv_sub hl [1, 2, 3, 0] rfl)
    intro rec34 hrec34 q Hf H locs ls hP hS hl
    obtain ⟨S34, y4_34⟩ := q
    unfold b_X4_spells_34 at Hf
    try dsimp only at Hf
    try dsimp only at hP
    try dsimp only at hl
    try dsimp only
    refine lv_iload hx hb dX4_spells_34 (lv_at hl 3 rfl) ?_
    refine lv_aload_n hx hb dX4_spells_36 rfl (lv_at hl 1 rfl) ?_
    obtain ⟨hk_x1, Hf⟩ := c_g_some Hf
    obtain ⟨r37, T37, hq37, Hf⟩ := c_c_some Hf
    refine r_cVS (n := 0) (As := []) (rest := [.int y4_34]) ⟨hx, hb, hml, hown, hts⟩ (s_J0_length_8abf5 l X hq37) lkm_X4_25 (by decide +kernel) dX4_spells_37 rfl rfl ⟨Nat.le_of_ble_eq_true rfl, Nat.le_of_ble_eq_true rfl⟩ hk_x1 rfl hl.1 (Nat.le_of_ble_eq_true rfl) ⟨Nat.le_of_ble_eq_true rfl, Nat.le_of_ble_eq_true rfl⟩ hK hRO hA hP hS (fun H locs hP hS => ?_)
    refine W.eq (g2 := F0 m 40 ls [.int r37, .int y4_34]) rfl ?_
    refine lv_icmp_ge hx hb dX4_spells_40 (tgt := 69) (by decide) (fun hc => ?_) (fun hc => ?_)
    · have Hf := c_i_t Hf hc
      refine lv_iconst (v := 1) hx hb dX4_spells_69 (by decide) ?_
      cases Hf
      exact r_zret hx hb hr rfl (Or.inr rfl) hlocks dX4_spells_70 (Nat.le_of_ble_eq_true rfl) (Nat.le_of_ble_eq_true rfl) hP hS
    have Hf := c_i_f Hf hc
    refine lv_aload_n hx hb dX4_spells_43 rfl (lv_at hl 1 rfl) ?_
    refine lv_iload hx hb dX4_spells_44 (lv_at hl 3 rfl) ?_
    obtain ⟨hk_x1, Hf⟩ := c_g_some Hf
    obtain ⟨r46, T46, hq46, Hf⟩ := c_c_some Hf
    refine r_cVS (n := 1) (As := [.int y4_34]) (rest := []) ⟨hx, hb, hml, hown, hts⟩ (s_J0_charAt_5068e l X hq46) lkm_X4_31 (by decide +kernel) dX4_spells_46 rfl rfl ⟨Nat.le_of_ble_eq_true rfl, Nat.le_of_ble_eq_true rfl⟩ hk_x1 rfl hl.1 (Nat.le_of_ble_eq_true rfl) ⟨Nat.le_of_ble_eq_true rfl, Nat.le_of_ble_eq_true rfl⟩ hK hRO hA hP hS (fun H locs hP hS => ?_)
    refine W.eq (g2 := F0 m 49 ls [.int r46]) rfl ?_
    refine lv_aload_n hx hb dX4_spells_49 rfl (lv_at hl 0 rfl) ?_
    obtain ⟨hk_a0, Hf⟩ := c_g_some Hf
    obtain ⟨q50, hq50, Hf⟩ := c_n_some Hf
    refine fg_5_0 hx hb hts hown hK hP hk_a0 lkf_X4_9 hq50 dX4_spells_50 ?_
    refine lv_iload_n hx hb dX4_spells_53 rfl (lv_at hl 2 rfl) ?_
    refine lv_iload hx hb dX4_spells_54 (lv_at hl 3 rfl) ?_
    refine lv_iadd hx hb dX4_spells_56 ?_
    obtain ⟨hk_q50, Hf⟩ := c_g_some Hf
    obtain ⟨hi57, Hf⟩ := c_g_some Hf
    refine r_cald hx hb hK hP hk_q50 hi57 dX4_spells_57 ?_
    refine lv_icmp_eq hx hb dX4_spells_58 (tgt := 63) (by decide) (fun hc => ?_) (fun hc => ?_)
    · have Hf := c_i_t Hf hc
      refine lv_iinc (v := (y4_34 + 1)) (lv' := [(4, .int (y4_34 + 1)), (0, .ref a0), (1, .ref x1), (2, .int x2)]) hx hb dX4_spells_63 hl (k := 3) rfl rfl (by decide) rfl (fun ls hl => ?_)
      refine lv_goto hx hb dX4_spells_66 (tgt := 34) (by decide) ?_
      exact hrec34 (T46, (y4_34 + 1)) Hf _ _ _ hP hS (lv_sub hl [1, 2, 3, 0] rfl)
    have Hf := c_i_f Hf hc
    refine lv_iconst (v := 0) hx hb dX4_spells_61 (by decide) ?_
    cases Hf
    exact r_zret hx hb hr rfl (Or.inl rfl) hlocks dX4_spells_62 (Nat.le_of_ble_eq_true rfl) (Nat.le_of_ble_eq_true rfl) hP hS
  have Hf := c_i_f Hf hc
  refine lv_iconst (v := 0) hx hb dX4_spells_29 (by decide) ?_
  cases Hf
  exact r_zret hx hb hr rfl (Or.inl rfl) hlocks dX4_spells_30 (Nat.le_of_ble_eq_true rfl) (Nat.le_of_ble_eq_true rfl) hP hS

def b_X6_kindOfWord_13 (x0 : Nat) (x1 : Int32) (x2 : Int32) (rec13 : st_T × Int32 → Option (Int32 × st_T)) (q : st_T × Int32) : Option (Int32 × st_T) :=
  (fun (S13 : st_T) (y3_13 : Int32) =>
  (c_i (23 < y3_13) (some (0, S13)) (c_c (f_X6_spelling S13 y3_13) (fun (r21 : Option Nat) (T21 : st_T) => (c_n r21 (fun (p21 : Nat) => (c_g (st_K T21 x0 = 6) (c_c (f_X4_spells T21 x0 p21 x1 x2) (fun (r26 : Int32) (T26 : st_T) => (c_i (r26 = 0) (rec13 (T26, (y3_13 + 1))) (some (y3_13, T26)))))))))))) q.1 q.2
set_option maxRecDepth 100000 in
def f_X6_kindOfWord (S : st_T) (x0 : Nat) (x1 : Int32) (x2 : Int32) : Option (Int32 × st_T) :=
  (c_i ((x2 - x1) ≤ 8) (c_w (b_X6_kindOfWord_13 x0 x1 x2) c_N (S, 10)) (some (0, S)))
set_option maxRecDepth 100000 in
set_option maxHeartbeats 4000000 in
theorem s_X6_kindOfWord (l : Launch) (X : st_I) {S SE : st_T} {x0 : Nat} {x1 : Int32} {x2 : Int32} {rr : Int32} (Hf : f_X6_kindOfWord S x0 x1 x2 = some (rr, SE)) : Met l yX6_kindOfWord (Cond.code yX6_kindOfWord cX6_kindOfWord 4 (some .int) :: lw_g) { frames := 5, cells := 0, slots := 0, locals := 117 } (st_P X S [.ref x0, .int x1, .int x2]) (st_Q X (st_A S) (some (.int rr)) SE) 0 0 (st_A S) := by
  refine st_ofW (by decide) (Nat.le_of_ble_eq_true rfl) ?_
  intro p e s m args below meth c hx hb hr hml hlocks hnm hts hown hK hRO hA hP hS ls hl
  have hown : s.vm.findClass RX6 = some m.cls := hown
  have hl : lv_has ls 4 [(0, .ref x0), (1, .int x1), (2, .int x2)] := hl
  unfold f_X6_kindOfWord at Hf
  refine lv_iload_n hx hb dX6_kindOfWord_0 rfl (lv_at hl 2 rfl) ?_
  refine lv_iload_n hx hb dX6_kindOfWord_1 rfl (lv_at hl 1 rfl) ?_
  refine lv_isub hx hb dX6_kindOfWord_2 ?_
  refine lv_bipush (v := 8) hx hb dX6_kindOfWord_3 (by decide) ?_
  refine lv_icmp_le hx hb dX6_kindOfWord_5 (tgt := 10) (by decide) (fun hc => ?_) (fun hc => ?_)
  · have Hf := c_i_t Hf hc
    refine lv_bipush (v := 10) hx hb dX6_kindOfWord_10 (by decide) ?_
    refine lv_istore_n (lv' := [(3, .int 10), (0, .ref x0), (1, .int x1), (2, .int x2)]) hx hb dX6_kindOfWord_12 rfl hl (by decide) rfl (fun ls hl => ?_)
    refine (c_w_ind (P := fun (q : st_T × Int32) => ∀ (H : Heap) (locs : List Loc) (ls : Array Slot), st_HP X (st_A S) q.1 H → va_S (st_A S) s.heap H locs → lv_has ls 4 [(0, .ref x0), (1, .int x1), (2, .int x2), (3, .int q.2)] → W p l e { frames := 5, cells := 0, slots := 0, locals := 117 } s m args below meth c H locs 0 0 (MQ below (st_Q X (st_A S) (some (.int rr)) SE) args s 0 0 (st_A S)) (F0 m 13 ls [])) ?_ _ _ Hf) _ _ _ hP hS (lv_sub hl [1, 2, 3, 0] rfl)
    intro rec13 hrec13 q Hf H locs ls hP hS hl
    obtain ⟨S13, y3_13⟩ := q
    unfold b_X6_kindOfWord_13 at Hf
    try dsimp only at Hf
    try dsimp only at hP
    try dsimp only at hl
    try dsimp only
    refine lv_iload_n hx hb dX6_kindOfWord_13 rfl (lv_at hl 3 rfl) ?_
    refine lv_bipush (v := 23) hx hb dX6_kindOfWord_14 (by decide) ?_
    refine lv_icmp_gt hx hb dX6_kindOfWord_16 (tgt := 40) (by decide) (fun hc => ?_) (fun hc => ?_)
    · have Hf := c_i_t Hf hc
      refine lv_iconst (v := 0) hx hb dX6_kindOfWord_40 (by decide) ?_
      cases Hf
      exact r_iret hx hb hr rfl hlocks dX6_kindOfWord_41 (Nat.le_of_ble_eq_true rfl) (Nat.le_of_ble_eq_true rfl) hP hS
    have Hf := c_i_f Hf hc
    refine lv_aload_n hx hb dX6_kindOfWord_19 rfl (lv_at hl 0 rfl) ?_
    refine lv_iload_n hx hb dX6_kindOfWord_20 rfl (lv_at hl 3 rfl) ?_
    obtain ⟨r21, T21, hq21, Hf⟩ := c_c_some Hf
    refine r_cS (n := 1) (As := [.int y3_13]) (rest := [.ref x0]) ⟨hx, hb, hml, hown, hts⟩ (s_X6_spelling l X hq21) lkm_X6_56 (by decide +kernel) dX6_kindOfWord_21 rfl rfl ⟨Nat.le_of_ble_eq_true rfl, Nat.le_of_ble_eq_true rfl⟩ rfl hl.1 (Nat.le_of_ble_eq_true rfl) ⟨Nat.le_of_ble_eq_true rfl, Nat.le_of_ble_eq_true rfl⟩ hK hRO hA hP hS (fun H locs hP hS => ?_)
    obtain ⟨p21, ep21, Hf⟩ := c_n_some Hf
    subst ep21
    refine W.eq (g2 := F0 m 24 ls [.ref p21, .ref x0]) rfl ?_
    refine lv_iload_n hx hb dX6_kindOfWord_24 rfl (lv_at hl 1 rfl) ?_
    refine lv_iload_n hx hb dX6_kindOfWord_25 rfl (lv_at hl 2 rfl) ?_
    obtain ⟨hk_x0, Hf⟩ := c_g_some Hf
    obtain ⟨r26, T26, hq26, Hf⟩ := c_c_some Hf
    refine r_cV (n := 3) (As := [.ref p21, .int x1, .int x2]) (rest := []) ⟨hx, hb, hml, hown, hts⟩ (s_X4_spells l X hq26) lkm_X6_60 (by decide +kernel) rfl (by decide) dX6_kindOfWord_26 rfl rfl ⟨Nat.le_of_ble_eq_true rfl, Nat.le_of_ble_eq_true rfl⟩ hk_x0 rfl hl.1 (Nat.le_of_ble_eq_true rfl) ⟨Nat.le_of_ble_eq_true rfl, Nat.le_of_ble_eq_true rfl⟩ hK hRO hA hP hS (fun H locs hP hS => ?_)
    refine W.eq (g2 := F0 m 29 ls [.int r26]) rfl ?_
    refine lv_if_eq hx hb dX6_kindOfWord_29 (tgt := 34) (by decide) (fun hc => ?_) (fun hc => ?_)
    · have Hf := c_i_t Hf hc
      refine lv_iinc (v := (y3_13 + 1)) (lv' := [(3, .int (y3_13 + 1)), (0, .ref x0), (1, .int x1), (2, .int x2)]) hx hb dX6_kindOfWord_34 hl (k := 3) rfl rfl (by decide) rfl (fun ls hl => ?_)
      refine lv_goto hx hb dX6_kindOfWord_37 (tgt := 13) (by decide) ?_
      exact hrec13 (T26, (y3_13 + 1)) Hf _ _ _ hP hS (lv_sub hl [1, 2, 3, 0] rfl)
    have Hf := c_i_f Hf hc
    refine lv_iload_n hx hb dX6_kindOfWord_32 rfl (lv_at hl 3 rfl) ?_
    cases Hf
    exact r_iret hx hb hr rfl hlocks dX6_kindOfWord_33 (Nat.le_of_ble_eq_true rfl) (Nat.le_of_ble_eq_true rfl) hP hS
  have Hf := c_i_f Hf hc
  refine lv_iconst (v := 0) hx hb dX6_kindOfWord_8 (by decide) ?_
  cases Hf
  exact r_iret hx hb hr rfl hlocks dX6_kindOfWord_9 (Nat.le_of_ble_eq_true rfl) (Nat.le_of_ble_eq_true rfl) hP hS

def j_X6_scan_151 (a0 : Nat) (x1 : Nat) (S151 : st_T) : Option (Unit × st_T) :=
  (c_g (st_K S151 x1 = 6) (c_g (st_K S151 a0 = 8) (c_c (f_X6_add S151 a0 1 0 (st_fi S151 501 x1)) (fun (r158 : Unit) (T158 : st_T) => (some ((), T158))))))
def j_X6_scan_142 (rec9 : st_T × Int32 × Int32 → Option (Unit × st_T)) (y3_9 : Int32) (S142 : st_T) (y5_142 : Int32) : Option (Unit × st_T) :=
  (rec9 (S142, y5_142, (y3_9 + 1)))
def b_X6_scan_9 (a0 : Nat) (x1 : Nat) (rec9 : st_T × Int32 × Int32 → Option (Unit × st_T)) (q : st_T × Int32 × Int32) : Option (Unit × st_T) :=
  (fun (S9 : st_T) (y2_9 : Int32) (y3_9 : Int32) =>
  (c_i (800 ≤ y3_9) (j_X6_scan_151 a0 x1 S9) (c_g (st_K S9 x1 = 6) (c_i ((st_fi S9 501 x1) ≤ y2_9) (j_X6_scan_151 a0 x1 S9) (c_i (800 ≤ y2_9) (j_X6_scan_151 a0 x1 S9) (c_n (st_fr S9 500 x1) (fun (q32 : Nat) => (c_g (st_K S9 q32 = 22) (c_g (c_in y2_9 (st_ln S9 q32)) (c_l (st_ri S9 q32 (y2_9 : Int32).toNatClampNeg) (fun (z4_37 : Int32) => (c_l (y2_9 + 1) (fun (z5_42 : Int32) => (c_c (f_X8_isWithin S9 z4_37 97 122) (fun (r50 : Int32) (T50 : st_T) => (c_i (r50 = 0) (c_c (f_X8_isWithin T50 z4_37 48 57) (fun (r89 : Int32) (T89 : st_T) => (c_i (r89 = 0) (c_i (z4_37 = 10) (j_X6_scan_142 rec9 y3_9 T89 z5_42) (c_i (z4_37 = 32) (j_X6_scan_142 rec9 y3_9 T89 z5_42) (c_c (f_X6_kindOfSign T89 z4_37) (fun (r134 : Int32) (T134 : st_T) => (c_g (st_K T134 a0 = 8) (c_c (f_X6_add T134 a0 r134 0 y2_9) (fun (r139 : Unit) (T139 : st_T) => (j_X6_scan_142 rec9 y3_9 T139 z5_42)))))))) (c_g (st_K T89 x1 = 6) (c_c (f_X4_endOfRun T89 x1 y2_9 48 57) (fun (r101 : Int32) (T101 : st_T) => (c_g (st_K T101 a0 = 8) (c_c (f_X6_addNumber T101 a0 x1 y2_9 r101) (fun (r111 : Unit) (T111 : st_T) => (j_X6_scan_142 rec9 y3_9 T111 r101)))))))))) (c_g (st_K T50 x1 = 6) (c_c (f_X4_endOfRun T50 x1 y2_9 97 122) (fun (r62 : Int32) (T62 : st_T) => (c_c (f_X6_kindOfWord T62 x1 y2_9 r62) (fun (r72 : Int32) (T72 : st_T) => (c_g (st_K T72 a0 = 8) (c_c (f_X6_add T72 a0 r72 0 y2_9) (fun (r77 : Unit) (T77 : st_T) => (j_X6_scan_142 rec9 y3_9 T77 r62))))))))))))))))))))))))) q.1 q.2.1 q.2.2
set_option maxRecDepth 100000 in
def f_X6_scan (S : st_T) (a0 : Nat) (x1 : Nat) : Option (Unit × st_T) :=
  (c_g (st_K S a0 = 8) (c_l (st_pi S 703 a0 0) (fun (S_2 : st_T) => (c_w (b_X6_scan_9 a0 x1) c_N (S_2, 0, 0)))))
set_option maxRecDepth 100000 in
set_option maxHeartbeats 4000000 in
theorem s_X6_scan (l : Launch) (X : st_I) {S SE : st_T} {a0 : Nat} {x1 : Nat} {rr : Unit} (Hf : f_X6_scan S a0 x1 = some (rr, SE)) : Met l yX6_scan (Cond.code yX6_scan cX6_scan 6 (none) :: lw_g) { frames := 6, cells := 0, slots := 0, locals := 140 } (st_P X S [.ref a0, .ref x1]) (st_Q X (st_A S) none SE) 0 0 (st_A S) := by
  refine st_ofW (by decide) (Nat.le_of_ble_eq_true rfl) ?_
  intro p e s m args below meth c hx hb hr hml hlocks hnm hts hown hK hRO hA hP hS ls hl
  have hown : s.vm.findClass RX6 = some m.cls := hown
  have hl : lv_has ls 6 [(0, .ref a0), (1, .ref x1)] := hl
  unfold f_X6_scan at Hf
  refine lv_aload_n hx hb dX6_scan_0 rfl (lv_at hl 0 rfl) ?_
  refine lv_iconst (v := 0) hx hb dX6_scan_1 (by decide) ?_
  obtain ⟨hk_a0, Hf⟩ := c_g_some Hf
  refine fp_7_3 hx hb hts hown hK hP hS hk_a0 lkf_X6_21 dX6_scan_2 (fun H locs hP hS => ?_)
  obtain ⟨S_2, eS_2, Hf⟩ := c_l_ex Hf
  have hP : st_HP X (st_A S) S_2 H := by rw [eS_2]; exact hP
  refine lv_iconst (v := 0) hx hb dX6_scan_5 (by decide) ?_
  refine lv_istore_n (lv' := [(2, .int 0), (0, .ref a0), (1, .ref x1)]) hx hb dX6_scan_6 rfl hl (by decide) rfl (fun ls hl => ?_)
  refine lv_iconst (v := 0) hx hb dX6_scan_7 (by decide) ?_
  refine lv_istore_n (lv' := [(3, .int 0), (2, .int 0), (0, .ref a0), (1, .ref x1)]) hx hb dX6_scan_8 rfl hl (by decide) rfl (fun ls hl => ?_)
  refine (c_w_ind (P := fun (q : st_T × Int32 × Int32) => ∀ (H : Heap) (locs : List Loc) (ls : Array Slot), st_HP X (st_A S) q.1 H → va_S (st_A S) s.heap H locs → lv_has ls 6 [(0, .ref a0), (1, .ref x1), (2, .int q.2.1), (3, .int q.2.2)] → W p l e { frames := 6, cells := 0, slots := 0, locals := 140 } s m args below meth c H locs 0 0 (MQ below (st_Q X (st_A S) none SE) args s 0 0 (st_A S)) (F0 m 9 ls [])) ?_ _ _ Hf) _ _ _ hP hS (lv_sub hl [2, 3, 1, 0] rfl)
  intro rec9 hrec9 q Hf H locs ls hP hS hl
  obtain ⟨S9, y2_9, y3_9⟩ := q
  unfold b_X6_scan_9 at Hf
  try dsimp only at Hf
  try dsimp only at hP
  try dsimp only at hl
  try dsimp only
  refine lv_iload_n hx hb dX6_scan_9 rfl (lv_at hl 3 rfl) ?_
  refine lv_sipush (v := 800) hx hb dX6_scan_10 (by decide) ?_
  have hJ151 : ∀ (S151 : st_T), j_X6_scan_151 a0 x1 S151 = some (rr, SE) → ∀ (H : Heap) (locs : List Loc) (ls : Array Slot), st_HP X (st_A S) S151 H → va_S (st_A S) s.heap H locs → lv_has ls 6 [(0, .ref a0), (1, .ref x1)] → W p l e { frames := 6, cells := 0, slots := 0, locals := 140 } s m args below meth c H locs 0 0 (MQ below (st_Q X (st_A S) none SE) args s 0 0 (st_A S)) (F0 m 151 ls []) := by
    intro S151 Hf H locs ls hP hS hl
    unfold j_X6_scan_151 at Hf
    refine lv_aload_n hx hb dX6_scan_151 rfl (lv_at hl 0 rfl) ?_
    refine lv_iconst (v := 1) hx hb dX6_scan_152 (by decide) ?_
    refine lv_iconst (v := 0) hx hb dX6_scan_153 (by decide) ?_
    refine lv_aload_n hx hb dX6_scan_154 rfl (lv_at hl 1 rfl) ?_
    obtain ⟨hk_x1, Hf⟩ := c_g_some Hf
    refine fg_5_1 hx hb hts hown hK hP hk_x1 lkf_X6_25 dX6_scan_155 ?_
    obtain ⟨hk_a0, Hf⟩ := c_g_some Hf
    obtain ⟨r158, T158, hq158, Hf⟩ := c_c_some Hf
    refine r_cV (n := 3) (As := [.int 1, .int 0, .int (st_fi S151 501 x1)]) (rest := []) ⟨hx, hb, hml, hown, hts⟩ (s_X6_add l X hq158) lkm_X6_44 (by decide +kernel) rfl (by decide) dX6_scan_158 rfl rfl ⟨Nat.le_of_ble_eq_true rfl, Nat.le_of_ble_eq_true rfl⟩ hk_a0 rfl hl.1 (Nat.le_of_ble_eq_true rfl) ⟨Nat.le_of_ble_eq_true rfl, Nat.le_of_ble_eq_true rfl⟩ hK hRO hA hP hS (fun H locs hP hS => ?_)
    refine W.eq (g2 := F0 m 161 ls []) rfl ?_
    cases Hf
    exact r_vret hx hb hr rfl hlocks dX6_scan_161 (Nat.le_of_ble_eq_true rfl) (Nat.le_of_ble_eq_true rfl) hP hS
  refine lv_icmp_ge hx hb dX6_scan_13 (tgt := 151) (by decide) (fun hc => ?_) (fun hc => ?_)
  · have Hf := c_i_t Hf hc
    exact hJ151 S9 Hf _ _ _ hP hS (lv_sub hl [0, 1] rfl)
  have Hf := c_i_f Hf hc
  refine lv_iload_n hx hb dX6_scan_16 rfl (lv_at hl 2 rfl) ?_
  refine lv_aload_n hx hb dX6_scan_17 rfl (lv_at hl 1 rfl) ?_
  obtain ⟨hk_x1, Hf⟩ := c_g_some Hf
  refine fg_5_1 hx hb hts hown hK hP hk_x1 lkf_X6_25 dX6_scan_18 ?_
  refine lv_icmp_ge hx hb dX6_scan_21 (tgt := 151) (by decide) (fun hc => ?_) (fun hc => ?_)
  · have Hf := c_i_t Hf hc
    exact hJ151 S9 Hf _ _ _ hP hS (lv_sub hl [0, 1] rfl)
  have Hf := c_i_f Hf hc
  refine lv_iload_n hx hb dX6_scan_24 rfl (lv_at hl 2 rfl) ?_
  refine lv_sipush (v := 800) hx hb dX6_scan_25 (by decide) ?_
  refine lv_icmp_ge hx hb dX6_scan_28 (tgt := 151) (by decide) (fun hc => ?_) (fun hc => ?_)
  · have Hf := c_i_t Hf hc
    exact hJ151 S9 Hf _ _ _ hP hS (lv_sub hl [0, 1] rfl)
  have Hf := c_i_f Hf hc
  refine lv_aload_n hx hb dX6_scan_31 rfl (lv_at hl 1 rfl) ?_
  obtain ⟨q32, hq32, Hf⟩ := c_n_some Hf
  refine fg_5_0 hx hb hts hown hK hP hk_x1 lkf_X6_28 hq32 dX6_scan_32 ?_
  refine lv_iload_n hx hb dX6_scan_35 rfl (lv_at hl 2 rfl) ?_
  obtain ⟨hk_q32, Hf⟩ := c_g_some Hf
  obtain ⟨hi36, Hf⟩ := c_g_some Hf
  refine r_cald hx hb hK hP hk_q32 hi36 dX6_scan_36 ?_
  refine lv_topi (fun z4_37 ez4_37 => ?_)
  have Hf := c_l_ren Hf ez4_37
  refine lv_istore (lv' := [(4, .int z4_37), (0, .ref a0), (1, .ref x1), (2, .int y2_9), (3, .int y3_9)]) hx hb dX6_scan_37 hl (by decide) rfl (fun ls hl => ?_)
  refine lv_iload_n hx hb dX6_scan_39 rfl (lv_at hl 3 rfl) ?_
  refine lv_iconst (v := 1) hx hb dX6_scan_40 (by decide) ?_
  refine lv_iadd hx hb dX6_scan_41 ?_
  refine lv_topi (fun z5_42 ez5_42 => ?_)
  have Hf := c_l_ren Hf ez5_42
  refine lv_istore (lv' := [(5, .int z5_42), (4, .int z4_37), (0, .ref a0), (1, .ref x1), (2, .int y2_9), (3, .int y3_9)]) hx hb dX6_scan_42 hl (by decide) rfl (fun ls hl => ?_)
  refine lv_iload hx hb dX6_scan_44 (lv_at hl 1 rfl) ?_
  refine lv_bipush (v := 97) hx hb dX6_scan_46 (by decide) ?_
  refine lv_bipush (v := 122) hx hb dX6_scan_48 (by decide) ?_
  obtain ⟨r50, T50, hq50, Hf⟩ := c_c_some Hf
  refine r_cN (n := 3) (As := [.int z4_37, .int 97, .int 122]) (rest := []) ⟨hx, hb, hml, hown, hts⟩ (s_X8_isWithin l X hq50) lkm_X6_32 lkn_X6_32 (by decide +kernel) dX6_scan_50 rfl rfl ⟨Nat.le_of_ble_eq_true rfl, Nat.le_of_ble_eq_true rfl⟩ rfl hl.1 (Nat.le_of_ble_eq_true rfl) ⟨Nat.le_of_ble_eq_true rfl, Nat.le_of_ble_eq_true rfl⟩ hK hRO hA hP hS (fun H locs hP hS => ?_)
  refine W.eq (g2 := F0 m 53 ls [.int r50]) rfl ?_
  have hJ142 : ∀ (S142 : st_T) (y5_142 : Int32), j_X6_scan_142 rec9 y3_9 S142 y5_142 = some (rr, SE) → ∀ (H : Heap) (locs : List Loc) (ls : Array Slot), st_HP X (st_A S) S142 H → va_S (st_A S) s.heap H locs → lv_has ls 6 [(0, .ref a0), (1, .ref x1), (3, .int y3_9), (5, .int y5_142)] → W p l e { frames := 6, cells := 0, slots := 0, locals := 140 } s m args below meth c H locs 0 0 (MQ below (st_Q X (st_A S) none SE) args s 0 0 (st_A S)) (F0 m 142 ls []) := by
    intro S142 y5_142 Hf H locs ls hP hS hl
    unfold j_X6_scan_142 at Hf
    refine lv_iload hx hb dX6_scan_142 (lv_at hl 3 rfl) ?_
    refine lv_istore_n (lv' := [(2, .int y5_142), (0, .ref a0), (1, .ref x1), (3, .int y3_9), (5, .int y5_142)]) hx hb dX6_scan_144 rfl hl (by decide) rfl (fun ls hl => ?_)
    refine lv_iinc (v := (y3_9 + 1)) (lv' := [(3, .int (y3_9 + 1)), (2, .int y5_142), (0, .ref a0), (1, .ref x1), (5, .int y5_142)]) hx hb dX6_scan_145 hl (k := 3) rfl rfl (by decide) rfl (fun ls hl => ?_)
    refine lv_goto hx hb dX6_scan_148 (tgt := 9) (by decide) ?_
    exact hrec9 (S142, y5_142, (y3_9 + 1)) Hf _ _ _ hP hS (lv_sub hl [2, 3, 1, 0] rfl)
  refine lv_if_eq hx hb dX6_scan_53 (tgt := 83) (by decide) (fun hc => ?_) (fun hc => ?_)
  · have Hf := c_i_t Hf hc
    refine lv_iload hx hb dX6_scan_83 (lv_at hl 1 rfl) ?_
    refine lv_bipush (v := 48) hx hb dX6_scan_85 (by decide) ?_
    refine lv_bipush (v := 57) hx hb dX6_scan_87 (by decide) ?_
    obtain ⟨r89, T89, hq89, Hf⟩ := c_c_some Hf
    refine r_cN (n := 3) (As := [.int z4_37, .int 48, .int 57]) (rest := []) ⟨hx, hb, hml, hown, hts⟩ (s_X8_isWithin l X hq89) lkm_X6_32 lkn_X6_32 (by decide +kernel) dX6_scan_89 rfl rfl ⟨Nat.le_of_ble_eq_true rfl, Nat.le_of_ble_eq_true rfl⟩ rfl hl.1 (Nat.le_of_ble_eq_true rfl) ⟨Nat.le_of_ble_eq_true rfl, Nat.le_of_ble_eq_true rfl⟩ hK hRO hA hP hS (fun H locs hP hS => ?_)
    refine W.eq (g2 := F0 m 92 ls [.int r89]) rfl ?_
    refine lv_if_eq hx hb dX6_scan_92 (tgt := 117) (by decide) (fun hc => ?_) (fun hc => ?_)
    · have Hf := c_i_t Hf hc
      refine lv_iload hx hb dX6_scan_117 (lv_at hl 1 rfl) ?_
      refine lv_bipush (v := 10) hx hb dX6_scan_119 (by decide) ?_
      refine lv_icmp_eq hx hb dX6_scan_121 (tgt := 142) (by decide) (fun hc => ?_) (fun hc => ?_)
      · have Hf := c_i_t Hf hc
        exact hJ142 T89 z5_42 Hf _ _ _ hP hS (lv_sub hl [2, 3, 5, 0] rfl)
      have Hf := c_i_f Hf hc
      refine lv_iload hx hb dX6_scan_124 (lv_at hl 1 rfl) ?_
      refine lv_bipush (v := 32) hx hb dX6_scan_126 (by decide) ?_
      refine lv_icmp_eq hx hb dX6_scan_128 (tgt := 142) (by decide) (fun hc => ?_) (fun hc => ?_)
      · have Hf := c_i_t Hf hc
        exact hJ142 T89 z5_42 Hf _ _ _ hP hS (lv_sub hl [2, 3, 5, 0] rfl)
      have Hf := c_i_f Hf hc
      refine lv_aload_n hx hb dX6_scan_131 rfl (lv_at hl 2 rfl) ?_
      refine lv_iload hx hb dX6_scan_132 (lv_at hl 1 rfl) ?_
      obtain ⟨r134, T134, hq134, Hf⟩ := c_c_some Hf
      refine r_cS (n := 1) (As := [.int z4_37]) (rest := [.ref a0]) ⟨hx, hb, hml, hown, hts⟩ (s_X6_kindOfSign l X hq134) lkm_X6_52 (by decide +kernel) dX6_scan_134 rfl rfl ⟨Nat.le_of_ble_eq_true rfl, Nat.le_of_ble_eq_true rfl⟩ rfl hl.1 (Nat.le_of_ble_eq_true rfl) ⟨Nat.le_of_ble_eq_true rfl, Nat.le_of_ble_eq_true rfl⟩ hK hRO hA hP hS (fun H locs hP hS => ?_)
      refine W.eq (g2 := F0 m 137 ls [.int r134, .ref a0]) rfl ?_
      refine lv_iconst (v := 0) hx hb dX6_scan_137 (by decide) ?_
      refine lv_iload_n hx hb dX6_scan_138 rfl (lv_at hl 4 rfl) ?_
      obtain ⟨hk_a0, Hf⟩ := c_g_some Hf
      obtain ⟨r139, T139, hq139, Hf⟩ := c_c_some Hf
      refine r_cV (n := 3) (As := [.int r134, .int 0, .int y2_9]) (rest := []) ⟨hx, hb, hml, hown, hts⟩ (s_X6_add l X hq139) lkm_X6_44 (by decide +kernel) rfl (by decide) dX6_scan_139 rfl rfl ⟨Nat.le_of_ble_eq_true rfl, Nat.le_of_ble_eq_true rfl⟩ hk_a0 rfl hl.1 (Nat.le_of_ble_eq_true rfl) ⟨Nat.le_of_ble_eq_true rfl, Nat.le_of_ble_eq_true rfl⟩ hK hRO hA hP hS (fun H locs hP hS => ?_)
      refine W.eq (g2 := F0 m 142 ls []) rfl ?_
      exact hJ142 T139 z5_42 Hf _ _ _ hP hS (lv_sub hl [2, 3, 5, 0] rfl)
    have Hf := c_i_f Hf hc
    refine lv_aload_n hx hb dX6_scan_95 rfl (lv_at hl 3 rfl) ?_
    refine lv_iload_n hx hb dX6_scan_96 rfl (lv_at hl 4 rfl) ?_
    refine lv_bipush (v := 48) hx hb dX6_scan_97 (by decide) ?_
    refine lv_bipush (v := 57) hx hb dX6_scan_99 (by decide) ?_
    obtain ⟨hk_x1, Hf⟩ := c_g_some Hf
    obtain ⟨r101, T101, hq101, Hf⟩ := c_c_some Hf
    refine r_cV (n := 3) (As := [.int y2_9, .int 48, .int 57]) (rest := []) ⟨hx, hb, hml, hown, hts⟩ (s_X4_endOfRun l X hq101) lkm_X6_36 (by decide +kernel) rfl (by decide) dX6_scan_101 rfl rfl ⟨Nat.le_of_ble_eq_true rfl, Nat.le_of_ble_eq_true rfl⟩ hk_x1 rfl hl.1 (Nat.le_of_ble_eq_true rfl) ⟨Nat.le_of_ble_eq_true rfl, Nat.le_of_ble_eq_true rfl⟩ hK hRO hA hP hS (fun H locs hP hS => ?_)
    refine W.eq (g2 := F0 m 104 ls [.int r101]) rfl ?_
    refine lv_istore (lv' := [(5, .int r101), (4, .int z4_37), (0, .ref a0), (1, .ref x1), (2, .int y2_9), (3, .int y3_9)]) hx hb dX6_scan_104 hl (by decide) rfl (fun ls hl => ?_)
    refine lv_aload_n hx hb dX6_scan_106 rfl (lv_at hl 2 rfl) ?_
    refine lv_aload_n hx hb dX6_scan_107 rfl (lv_at hl 3 rfl) ?_
    refine lv_iload_n hx hb dX6_scan_108 rfl (lv_at hl 4 rfl) ?_
    refine lv_iload hx hb dX6_scan_109 (lv_at hl 0 rfl) ?_
    obtain ⟨hk_a0, Hf⟩ := c_g_some Hf
    obtain ⟨r111, T111, hq111, Hf⟩ := c_c_some Hf
    refine r_cV (n := 3) (As := [.ref x1, .int y2_9, .int r101]) (rest := []) ⟨hx, hb, hml, hown, hts⟩ (s_X6_addNumber l X hq111) lkm_X6_48 (by decide +kernel) rfl (by decide) dX6_scan_111 rfl rfl ⟨Nat.le_of_ble_eq_true rfl, Nat.le_of_ble_eq_true rfl⟩ hk_a0 rfl hl.1 (Nat.le_of_ble_eq_true rfl) ⟨Nat.le_of_ble_eq_true rfl, Nat.le_of_ble_eq_true rfl⟩ hK hRO hA hP hS (fun H locs hP hS => ?_)
    refine W.eq (g2 := F0 m 114 ls []) rfl ?_
    refine lv_goto hx hb dX6_scan_114 (tgt := 142) (by decide) ?_
    exact hJ142 T111 r101 Hf _ _ _ hP hS (lv_sub hl [2, 3, 5, 0] rfl)
  have Hf := c_i_f Hf hc
  refine lv_aload_n hx hb dX6_scan_56 rfl (lv_at hl 3 rfl) ?_
  refine lv_iload_n hx hb dX6_scan_57 rfl (lv_at hl 4 rfl) ?_
  refine lv_bipush (v := 97) hx hb dX6_scan_58 (by decide) ?_
  refine lv_bipush (v := 122) hx hb dX6_scan_60 (by decide) ?_
  obtain ⟨hk_x1, Hf⟩ := c_g_some Hf
  obtain ⟨r62, T62, hq62, Hf⟩ := c_c_some Hf
  refine r_cV (n := 3) (As := [.int y2_9, .int 97, .int 122]) (rest := []) ⟨hx, hb, hml, hown, hts⟩ (s_X4_endOfRun l X hq62) lkm_X6_36 (by decide +kernel) rfl (by decide) dX6_scan_62 rfl rfl ⟨Nat.le_of_ble_eq_true rfl, Nat.le_of_ble_eq_true rfl⟩ hk_x1 rfl hl.1 (Nat.le_of_ble_eq_true rfl) ⟨Nat.le_of_ble_eq_true rfl, Nat.le_of_ble_eq_true rfl⟩ hK hRO hA hP hS (fun H locs hP hS => ?_)
  refine W.eq (g2 := F0 m 65 ls [.int r62]) rfl ?_
  refine lv_istore (lv' := [(5, .int r62), (4, .int z4_37), (0, .ref a0), (1, .ref x1), (2, .int y2_9), (3, .int y3_9)]) hx hb dX6_scan_65 hl (by decide) rfl (fun ls hl => ?_)
  refine lv_aload_n hx hb dX6_scan_67 rfl (lv_at hl 2 rfl) ?_
  refine lv_aload_n hx hb dX6_scan_68 rfl (lv_at hl 3 rfl) ?_
  refine lv_iload_n hx hb dX6_scan_69 rfl (lv_at hl 4 rfl) ?_
  refine lv_iload hx hb dX6_scan_70 (lv_at hl 0 rfl) ?_
  obtain ⟨r72, T72, hq72, Hf⟩ := c_c_some Hf
  refine r_cS (n := 3) (As := [.ref x1, .int y2_9, .int r62]) (rest := [.ref a0]) ⟨hx, hb, hml, hown, hts⟩ (s_X6_kindOfWord l X hq72) lkm_X6_40 (by decide +kernel) dX6_scan_72 rfl rfl ⟨Nat.le_of_ble_eq_true rfl, Nat.le_of_ble_eq_true rfl⟩ rfl hl.1 (Nat.le_of_ble_eq_true rfl) ⟨Nat.le_of_ble_eq_true rfl, Nat.le_of_ble_eq_true rfl⟩ hK hRO hA hP hS (fun H locs hP hS => ?_)
  refine W.eq (g2 := F0 m 75 ls [.int r72, .ref a0]) rfl ?_
  refine lv_iconst (v := 0) hx hb dX6_scan_75 (by decide) ?_
  refine lv_iload_n hx hb dX6_scan_76 rfl (lv_at hl 4 rfl) ?_
  obtain ⟨hk_a0, Hf⟩ := c_g_some Hf
  obtain ⟨r77, T77, hq77, Hf⟩ := c_c_some Hf
  refine r_cV (n := 3) (As := [.int r72, .int 0, .int y2_9]) (rest := []) ⟨hx, hb, hml, hown, hts⟩ (s_X6_add l X hq77) lkm_X6_44 (by decide +kernel) rfl (by decide) dX6_scan_77 rfl rfl ⟨Nat.le_of_ble_eq_true rfl, Nat.le_of_ble_eq_true rfl⟩ hk_a0 rfl hl.1 (Nat.le_of_ble_eq_true rfl) ⟨Nat.le_of_ble_eq_true rfl, Nat.le_of_ble_eq_true rfl⟩ hK hRO hA hP hS (fun H locs hP hS => ?_)
  refine W.eq (g2 := F0 m 80 ls []) rfl ?_
  refine lv_goto hx hb dX6_scan_80 (tgt := 142) (by decide) ?_
  exact hJ142 T77 r62 Hf _ _ _ hP hS (lv_sub hl [2, 3, 5, 0] rfl)

def j_X3_part_136 (a0 : Nat) (z2_4 : Int32) (S136 : st_T) (u0_136 : Int32) : Option (Unit × st_T) :=
  (c_g (st_K S136 a0 = 5) (c_c (f_X3_emit S136 a0 z2_4 u0_136) (fun (r136 : Unit) (T136 : st_T) => (some ((), T136)))))
def j_X3_part_31 (E : st_T → Nat → Int32 → Option (Unit × st_T)) (a0 : Nat) (x1 : Int32) (z2_4 : Int32) (S31 : st_T) (u0_31 : Int32) : Option (Unit × st_T) :=
  (c_i (u0_31 = 0) (c_g (st_K S31 a0 = 5) (c_c (f_X3_fail S31 a0 1) (fun (r38 : Unit) (T38 : st_T) => (some ((), T38))))) (c_i (x1 < 5) (c_i (z2_4 = 3) (c_g (st_K S31 a0 = 5) (c_c (f_X3_take S31 a0 3) (fun (r64 : Unit) (T64 : st_T) => (c_g (st_K T64 a0 = 5) (c_c (E T64 a0 (x1 + 1)) (fun (r71 : Unit) (T71 : st_T) => (c_g (st_K T71 a0 = 5) (c_c (f_X3_take T71 a0 4) (fun (r76 : Unit) (T76 : st_T) => (some ((), T76))))))))))) (c_i (z2_4 = 2) (c_g (st_K S31 a0 = 5) (c_c (f_X3_takeNumber S31 a0 0 2147483647) (fun (r93 : Int32) (T93 : st_T) => (c_g (st_K T93 a0 = 5) (c_c (f_X3_emit T93 a0 2 r93) (fun (r96 : Unit) (T96 : st_T) => (some ((), T96)))))))) (c_g (st_K S31 a0 = 5) (c_c (f_X3_take S31 a0 z2_4) (fun (r104 : Unit) (T104 : st_T) => (c_c (f_X8_isWithin T104 z2_4 14 16) (fun (r112 : Int32) (T112 : st_T) => (c_i (r112 = 0) (j_X3_part_136 a0 z2_4 T112 0) (c_g (st_K T112 a0 = 5) (c_c (f_X3_takeNumber T112 a0 1 200) (fun (r129 : Int32) (T129 : st_T) => (j_X3_part_136 a0 z2_4 T129 r129)))))))))))) (c_g (st_K S31 a0 = 5) (c_c (f_X3_fail S31 a0 5) (fun (r51 : Unit) (T51 : st_T) => (some ((), T51)))))))
def j_X3_part_26 (E : st_T → Nat → Int32 → Option (Unit × st_T)) (a0 : Nat) (x1 : Int32) (z2_4 : Int32) (S26 : st_T) : Option (Unit × st_T) :=
  (j_X3_part_31 E a0 x1 z2_4 S26 1)
set_option maxRecDepth 100000 in
def f_X3_part (E : st_T → Nat → Int32 → Option (Unit × st_T)) (S : st_T) (a0 : Nat) (x1 : Int32) : Option (Unit × st_T) :=
  (c_g (st_K S a0 = 5) (c_l (st_fi S 410 a0) (fun (z2_4 : Int32) => (c_i (z2_4 = 2) (j_X3_part_26 E a0 x1 z2_4 S) (c_i (z2_4 = 3) (j_X3_part_26 E a0 x1 z2_4 S) (c_c (f_X8_isWithin S z2_4 14 23) (fun (r20 : Int32) (T20 : st_T) => (c_i (r20 = 0) (j_X3_part_31 E a0 x1 z2_4 T20 0) (j_X3_part_26 E a0 x1 z2_4 T20)))))))))
set_option maxRecDepth 100000 in
set_option maxHeartbeats 4000000 in
theorem s_X3_part (l : Launch) (X : st_I) (E : st_T → Nat → Int32 → Option (Unit × st_T)) (d : Nat) (hE : ∀ {S SE : st_T} {a0 : Nat} {x1 : Int32} {rr : Unit}, E S a0 x1 = some (rr, SE) → Met l yX3_expression (Cond.code yX3_expression cX3_expression 3 (none) :: lw_g) { frames := 4 * d + 10, cells := 0, slots := 0, locals := 120 * d + 200 } (st_P X S [.ref a0, .int x1]) (st_Q X (st_A S) none SE) 0 0 (st_A S)) {S SE : st_T} {a0 : Nat} {x1 : Int32} {rr : Unit} (Hf : f_X3_part E S a0 x1 = some (rr, SE)) : Met l yX3_part (Cond.code yX3_part cX3_part 5 (none) :: lw_g) { frames := 4 * d + 11, cells := 0, slots := 0, locals := 120 * d + 230 } (st_P X S [.ref a0, .int x1]) (st_Q X (st_A S) none SE) 0 0 (st_A S) := by
  refine st_ofW (by decide) (Nat.le_of_ble_eq_true rfl) ?_
  intro p e s m args below meth c hx hb hr hml hlocks hnm hts hown hK hRO hA hP hS ls hl
  have hown : s.vm.findClass RX3 = some m.cls := hown
  have hl : lv_has ls 5 [(0, .ref a0), (1, .int x1)] := hl
  unfold f_X3_part at Hf
  refine lv_aload_n hx hb dX3_part_0 rfl (lv_at hl 0 rfl) ?_
  obtain ⟨hk_a0, Hf⟩ := c_g_some Hf
  refine fg_4_10 hx hb hts hown hK hP hk_a0 lkf_X3_47 dX3_part_1 ?_
  refine lv_topi (fun z2_4 ez2_4 => ?_)
  have Hf := c_l_ren Hf ez2_4
  refine lv_istore_n (lv' := [(2, .int z2_4), (0, .ref a0), (1, .int x1)]) hx hb dX3_part_4 rfl hl (by decide) rfl (fun ls hl => ?_)
  refine lv_iload_n hx hb dX3_part_5 rfl (lv_at hl 0 rfl) ?_
  refine lv_iconst (v := 2) hx hb dX3_part_6 (by decide) ?_
  have hJ31 : ∀ (S31 : st_T) (u0_31 : Int32), j_X3_part_31 E a0 x1 z2_4 S31 u0_31 = some (rr, SE) → ∀ (H : Heap) (locs : List Loc) (ls : Array Slot), st_HP X (st_A S) S31 H → va_S (st_A S) s.heap H locs → lv_has ls 5 [(0, .ref a0), (1, .int x1), (2, .int z2_4)] → W p l e { frames := 4 * d + 11, cells := 0, slots := 0, locals := 120 * d + 230 } s m args below meth c H locs 0 0 (MQ below (st_Q X (st_A S) none SE) args s 0 0 (st_A S)) (F0 m 31 ls [.int u0_31]) := by
    intro S31 u0_31 Hf H locs ls hP hS hl
    unfold j_X3_part_31 at Hf
    refine lv_istore_n (lv' := [(3, .int u0_31), (0, .ref a0), (1, .int x1), (2, .int z2_4)]) hx hb dX3_part_31 rfl hl (by decide) rfl (fun ls hl => ?_)
    refine lv_iload_n hx hb dX3_part_32 rfl (lv_at hl 0 rfl) ?_
    refine lv_if_ne hx hb dX3_part_33 (tgt := 44) (by decide) (fun hc => ?_) (fun hc => ?_)
    · have Hf := c_i_f Hf hc
      refine lv_iload_n hx hb dX3_part_44 rfl (lv_at hl 2 rfl) ?_
      refine lv_iconst (v := 5) hx hb dX3_part_45 (by decide) ?_
      refine lv_icmp_lt hx hb dX3_part_46 (tgt := 57) (by decide) (fun hc => ?_) (fun hc => ?_)
      · have Hf := c_i_t Hf hc
        refine lv_iload_n hx hb dX3_part_57 rfl (lv_at hl 3 rfl) ?_
        refine lv_iconst (v := 3) hx hb dX3_part_58 (by decide) ?_
        refine lv_icmp_ne hx hb dX3_part_59 (tgt := 82) (by decide) (fun hc => ?_) (fun hc => ?_)
        · have Hf := c_i_f Hf hc
          refine lv_iload_n hx hb dX3_part_82 rfl (lv_at hl 3 rfl) ?_
          refine lv_iconst (v := 2) hx hb dX3_part_83 (by decide) ?_
          refine lv_icmp_ne hx hb dX3_part_84 (tgt := 102) (by decide) (fun hc => ?_) (fun hc => ?_)
          · have Hf := c_i_f Hf hc
            refine lv_aload_n hx hb dX3_part_102 rfl (lv_at hl 1 rfl) ?_
            refine lv_iload_n hx hb dX3_part_103 rfl (lv_at hl 3 rfl) ?_
            obtain ⟨hk_a0, Hf⟩ := c_g_some Hf
            obtain ⟨r104, T104, hq104, Hf⟩ := c_c_some Hf
            refine r_cV (n := 1) (As := [.int z2_4]) (rest := []) ⟨hx, hb, hml, hown, hts⟩ (s_X3_take l X hq104) lkm_X3_61 (by decide +kernel) rfl (by decide) dX3_part_104 rfl rfl ⟨by dsimp only; omega, by dsimp only; omega⟩ hk_a0 rfl hl.1 (Nat.le_of_ble_eq_true rfl) ⟨Nat.le_of_ble_eq_true rfl, Nat.le_of_ble_eq_true rfl⟩ hK hRO hA hP hS (fun H locs hP hS => ?_)
            refine W.eq (g2 := F0 m 107 ls []) rfl ?_
            refine lv_iload_n hx hb dX3_part_107 rfl (lv_at hl 3 rfl) ?_
            refine lv_bipush (v := 14) hx hb dX3_part_108 (by decide) ?_
            refine lv_bipush (v := 16) hx hb dX3_part_110 (by decide) ?_
            obtain ⟨r112, T112, hq112, Hf⟩ := c_c_some Hf
            refine r_cN (n := 3) (As := [.int z2_4, .int 14, .int 16]) (rest := []) ⟨hx, hb, hml, hown, hts⟩ (s_X8_isWithin l X hq112) lkm_X3_98 lkn_X3_98 (by decide +kernel) dX3_part_112 rfl rfl ⟨by dsimp only; omega, by dsimp only; omega⟩ rfl hl.1 (Nat.le_of_ble_eq_true rfl) ⟨Nat.le_of_ble_eq_true rfl, Nat.le_of_ble_eq_true rfl⟩ hK hRO hA hP hS (fun H locs hP hS => ?_)
            refine W.eq (g2 := F0 m 115 ls [.int r112]) rfl ?_
            refine lv_istore (lv' := [(4, .int r112), (3, .int u0_31), (0, .ref a0), (1, .int x1), (2, .int z2_4)]) hx hb dX3_part_115 hl (by decide) rfl (fun ls hl => ?_)
            refine lv_aload_n hx hb dX3_part_117 rfl (lv_at hl 2 rfl) ?_
            refine lv_iload_n hx hb dX3_part_118 rfl (lv_at hl 4 rfl) ?_
            refine lv_iload hx hb dX3_part_119 (lv_at hl 0 rfl) ?_
            have hJ136 : ∀ (S136 : st_T) (u0_136 : Int32), j_X3_part_136 a0 z2_4 S136 u0_136 = some (rr, SE) → ∀ (H : Heap) (locs : List Loc) (ls : Array Slot), st_HP X (st_A S) S136 H → va_S (st_A S) s.heap H locs → lv_has ls 5 [] → W p l e { frames := 4 * d + 11, cells := 0, slots := 0, locals := 120 * d + 230 } s m args below meth c H locs 0 0 (MQ below (st_Q X (st_A S) none SE) args s 0 0 (st_A S)) (F0 m 136 ls [.int u0_136, .int z2_4, .ref a0]) := by
              intro S136 u0_136 Hf H locs ls hP hS hl
              unfold j_X3_part_136 at Hf
              obtain ⟨hk_a0, Hf⟩ := c_g_some Hf
              obtain ⟨r136, T136, hq136, Hf⟩ := c_c_some Hf
              refine r_cV (n := 2) (As := [.int z2_4, .int u0_136]) (rest := []) ⟨hx, hb, hml, hown, hts⟩ (s_X3_emit l X hq136) lkm_X3_88 (by decide +kernel) rfl (by decide) dX3_part_136 rfl rfl ⟨by dsimp only; omega, by dsimp only; omega⟩ hk_a0 rfl hl.1 (Nat.le_of_ble_eq_true rfl) ⟨Nat.le_of_ble_eq_true rfl, Nat.le_of_ble_eq_true rfl⟩ hK hRO hA hP hS (fun H locs hP hS => ?_)
              refine W.eq (g2 := F0 m 139 ls []) rfl ?_
              cases Hf
              exact r_vret hx hb hr rfl hlocks dX3_part_139 (Nat.le_of_ble_eq_true rfl) (Nat.le_of_ble_eq_true rfl) hP hS
            refine lv_if_eq hx hb dX3_part_121 (tgt := 135) (by decide) (fun hc => ?_) (fun hc => ?_)
            · have Hf := c_i_t Hf hc
              refine lv_iconst (v := 0) hx hb dX3_part_135 (by decide) ?_
              exact hJ136 T112 0 Hf _ _ _ hP hS (lv_sub hl [] rfl)
            have Hf := c_i_f Hf hc
            refine lv_aload_n hx hb dX3_part_124 rfl (lv_at hl 2 rfl) ?_
            refine lv_iconst (v := 1) hx hb dX3_part_125 (by decide) ?_
            refine lv_sipush (v := 200) hx hb dX3_part_126 (by decide) ?_
            obtain ⟨hk_a0, Hf⟩ := c_g_some Hf
            obtain ⟨r129, T129, hq129, Hf⟩ := c_c_some Hf
            refine r_cV (n := 2) (As := [.int 1, .int 200]) (rest := [.int z2_4, .ref a0]) ⟨hx, hb, hml, hown, hts⟩ (s_X3_takeNumber l X hq129) lkm_X3_64 (by decide +kernel) rfl (by decide) dX3_part_129 rfl rfl ⟨by dsimp only; omega, by dsimp only; omega⟩ hk_a0 rfl hl.1 (Nat.le_of_ble_eq_true rfl) ⟨Nat.le_of_ble_eq_true rfl, Nat.le_of_ble_eq_true rfl⟩ hK hRO hA hP hS (fun H locs hP hS => ?_)
            refine W.eq (g2 := F0 m 132 ls [.int r129, .int z2_4, .ref a0]) rfl ?_
            refine lv_goto hx hb dX3_part_132 (tgt := 136) (by decide) ?_
            exact hJ136 T129 r129 Hf _ _ _ hP hS (lv_sub hl [] rfl)
          have Hf := c_i_t Hf hc
          refine lv_aload_n hx hb dX3_part_87 rfl (lv_at hl 1 rfl) ?_
          refine lv_iconst (v := 2) hx hb dX3_part_88 (by decide) ?_
          refine lv_aload_n hx hb dX3_part_89 rfl (lv_at hl 1 rfl) ?_
          refine lv_iconst (v := 0) hx hb dX3_part_90 (by decide) ?_
          refine lv_ldc hx hb hown (hts _ lkc_X3_104) dX3_part_91 ?_
          obtain ⟨hk_a0, Hf⟩ := c_g_some Hf
          obtain ⟨r93, T93, hq93, Hf⟩ := c_c_some Hf
          refine r_cV (n := 2) (As := [.int 0, .int 2147483647]) (rest := [.int 2, .ref a0]) ⟨hx, hb, hml, hown, hts⟩ (s_X3_takeNumber l X hq93) lkm_X3_64 (by decide +kernel) rfl (by decide) dX3_part_93 rfl rfl ⟨by dsimp only; omega, by dsimp only; omega⟩ hk_a0 rfl hl.1 (Nat.le_of_ble_eq_true rfl) ⟨Nat.le_of_ble_eq_true rfl, Nat.le_of_ble_eq_true rfl⟩ hK hRO hA hP hS (fun H locs hP hS => ?_)
          refine W.eq (g2 := F0 m 96 ls [.int r93, .int 2, .ref a0]) rfl ?_
          obtain ⟨hk_a0, Hf⟩ := c_g_some Hf
          obtain ⟨r96, T96, hq96, Hf⟩ := c_c_some Hf
          refine r_cV (n := 2) (As := [.int 2, .int r93]) (rest := []) ⟨hx, hb, hml, hown, hts⟩ (s_X3_emit l X hq96) lkm_X3_88 (by decide +kernel) rfl (by decide) dX3_part_96 rfl rfl ⟨by dsimp only; omega, by dsimp only; omega⟩ hk_a0 rfl hl.1 (Nat.le_of_ble_eq_true rfl) ⟨Nat.le_of_ble_eq_true rfl, Nat.le_of_ble_eq_true rfl⟩ hK hRO hA hP hS (fun H locs hP hS => ?_)
          refine W.eq (g2 := F0 m 99 ls []) rfl ?_
          refine lv_goto hx hb dX3_part_99 (tgt := 139) (by decide) ?_
          cases Hf
          exact r_vret hx hb hr rfl hlocks dX3_part_139 (Nat.le_of_ble_eq_true rfl) (Nat.le_of_ble_eq_true rfl) hP hS
        have Hf := c_i_t Hf hc
        refine lv_aload_n hx hb dX3_part_62 rfl (lv_at hl 1 rfl) ?_
        refine lv_iconst (v := 3) hx hb dX3_part_63 (by decide) ?_
        obtain ⟨hk_a0, Hf⟩ := c_g_some Hf
        obtain ⟨r64, T64, hq64, Hf⟩ := c_c_some Hf
        refine r_cV (n := 1) (As := [.int 3]) (rest := []) ⟨hx, hb, hml, hown, hts⟩ (s_X3_take l X hq64) lkm_X3_61 (by decide +kernel) rfl (by decide) dX3_part_64 rfl rfl ⟨by dsimp only; omega, by dsimp only; omega⟩ hk_a0 rfl hl.1 (Nat.le_of_ble_eq_true rfl) ⟨Nat.le_of_ble_eq_true rfl, Nat.le_of_ble_eq_true rfl⟩ hK hRO hA hP hS (fun H locs hP hS => ?_)
        refine W.eq (g2 := F0 m 67 ls []) rfl ?_
        refine lv_aload_n hx hb dX3_part_67 rfl (lv_at hl 1 rfl) ?_
        refine lv_iload_n hx hb dX3_part_68 rfl (lv_at hl 2 rfl) ?_
        refine lv_iconst (v := 1) hx hb dX3_part_69 (by decide) ?_
        refine lv_iadd hx hb dX3_part_70 ?_
        obtain ⟨hk_a0, Hf⟩ := c_g_some Hf
        obtain ⟨r71, T71, hq71, Hf⟩ := c_c_some Hf
        refine r_cV (n := 1) (As := [.int (x1 + 1)]) (rest := []) ⟨hx, hb, hml, hown, hts⟩ (hE hq71) lkm_X3_68 (by decide +kernel) rfl (by decide) dX3_part_71 rfl rfl ⟨by dsimp only; omega, by dsimp only; omega⟩ hk_a0 rfl hl.1 (Nat.le_of_ble_eq_true rfl) ⟨Nat.le_of_ble_eq_true rfl, Nat.le_of_ble_eq_true rfl⟩ hK hRO hA hP hS (fun H locs hP hS => ?_)
        refine W.eq (g2 := F0 m 74 ls []) rfl ?_
        refine lv_aload_n hx hb dX3_part_74 rfl (lv_at hl 1 rfl) ?_
        refine lv_iconst (v := 4) hx hb dX3_part_75 (by decide) ?_
        obtain ⟨hk_a0, Hf⟩ := c_g_some Hf
        obtain ⟨r76, T76, hq76, Hf⟩ := c_c_some Hf
        refine r_cV (n := 1) (As := [.int 4]) (rest := []) ⟨hx, hb, hml, hown, hts⟩ (s_X3_take l X hq76) lkm_X3_61 (by decide +kernel) rfl (by decide) dX3_part_76 rfl rfl ⟨by dsimp only; omega, by dsimp only; omega⟩ hk_a0 rfl hl.1 (Nat.le_of_ble_eq_true rfl) ⟨Nat.le_of_ble_eq_true rfl, Nat.le_of_ble_eq_true rfl⟩ hK hRO hA hP hS (fun H locs hP hS => ?_)
        refine W.eq (g2 := F0 m 79 ls []) rfl ?_
        refine lv_goto hx hb dX3_part_79 (tgt := 139) (by decide) ?_
        cases Hf
        exact r_vret hx hb hr rfl hlocks dX3_part_139 (Nat.le_of_ble_eq_true rfl) (Nat.le_of_ble_eq_true rfl) hP hS
      have Hf := c_i_f Hf hc
      refine lv_aload_n hx hb dX3_part_49 rfl (lv_at hl 1 rfl) ?_
      refine lv_iconst (v := 5) hx hb dX3_part_50 (by decide) ?_
      obtain ⟨hk_a0, Hf⟩ := c_g_some Hf
      obtain ⟨r51, T51, hq51, Hf⟩ := c_c_some Hf
      refine r_cV (n := 1) (As := [.int 5]) (rest := []) ⟨hx, hb, hml, hown, hts⟩ (s_X3_fail l X hq51) lkm_X3_58 (by decide +kernel) rfl (by decide) dX3_part_51 rfl rfl ⟨by dsimp only; omega, by dsimp only; omega⟩ hk_a0 rfl hl.1 (Nat.le_of_ble_eq_true rfl) ⟨Nat.le_of_ble_eq_true rfl, Nat.le_of_ble_eq_true rfl⟩ hK hRO hA hP hS (fun H locs hP hS => ?_)
      refine W.eq (g2 := F0 m 54 ls []) rfl ?_
      refine lv_goto hx hb dX3_part_54 (tgt := 139) (by decide) ?_
      cases Hf
      exact r_vret hx hb hr rfl hlocks dX3_part_139 (Nat.le_of_ble_eq_true rfl) (Nat.le_of_ble_eq_true rfl) hP hS
    have Hf := c_i_t Hf hc
    refine lv_aload_n hx hb dX3_part_36 rfl (lv_at hl 1 rfl) ?_
    refine lv_iconst (v := 1) hx hb dX3_part_37 (by decide) ?_
    obtain ⟨hk_a0, Hf⟩ := c_g_some Hf
    obtain ⟨r38, T38, hq38, Hf⟩ := c_c_some Hf
    refine r_cV (n := 1) (As := [.int 1]) (rest := []) ⟨hx, hb, hml, hown, hts⟩ (s_X3_fail l X hq38) lkm_X3_58 (by decide +kernel) rfl (by decide) dX3_part_38 rfl rfl ⟨by dsimp only; omega, by dsimp only; omega⟩ hk_a0 rfl hl.1 (Nat.le_of_ble_eq_true rfl) ⟨Nat.le_of_ble_eq_true rfl, Nat.le_of_ble_eq_true rfl⟩ hK hRO hA hP hS (fun H locs hP hS => ?_)
    refine W.eq (g2 := F0 m 41 ls []) rfl ?_
    refine lv_goto hx hb dX3_part_41 (tgt := 139) (by decide) ?_
    cases Hf
    exact r_vret hx hb hr rfl hlocks dX3_part_139 (Nat.le_of_ble_eq_true rfl) (Nat.le_of_ble_eq_true rfl) hP hS
  have hJ26 : ∀ (S26 : st_T), j_X3_part_26 E a0 x1 z2_4 S26 = some (rr, SE) → ∀ (H : Heap) (locs : List Loc) (ls : Array Slot), st_HP X (st_A S) S26 H → va_S (st_A S) s.heap H locs → lv_has ls 5 [(0, .ref a0), (1, .int x1), (2, .int z2_4)] → W p l e { frames := 4 * d + 11, cells := 0, slots := 0, locals := 120 * d + 230 } s m args below meth c H locs 0 0 (MQ below (st_Q X (st_A S) none SE) args s 0 0 (st_A S)) (F0 m 26 ls []) := by
    intro S26 Hf H locs ls hP hS hl
    unfold j_X3_part_26 at Hf
    refine lv_iconst (v := 1) hx hb dX3_part_26 (by decide) ?_
    refine lv_goto hx hb dX3_part_27 (tgt := 31) (by decide) ?_
    exact hJ31 S26 1 Hf _ _ _ hP hS (lv_sub hl [0, 1, 2] rfl)
  refine lv_icmp_eq hx hb dX3_part_7 (tgt := 26) (by decide) (fun hc => ?_) (fun hc => ?_)
  · have Hf := c_i_t Hf hc
    exact hJ26 S Hf _ _ _ hP hS (lv_sub hl [1, 2, 0] rfl)
  have Hf := c_i_f Hf hc
  refine lv_iload_n hx hb dX3_part_10 rfl (lv_at hl 0 rfl) ?_
  refine lv_iconst (v := 3) hx hb dX3_part_11 (by decide) ?_
  refine lv_icmp_eq hx hb dX3_part_12 (tgt := 26) (by decide) (fun hc => ?_) (fun hc => ?_)
  · have Hf := c_i_t Hf hc
    exact hJ26 S Hf _ _ _ hP hS (lv_sub hl [1, 2, 0] rfl)
  have Hf := c_i_f Hf hc
  refine lv_iload_n hx hb dX3_part_15 rfl (lv_at hl 0 rfl) ?_
  refine lv_bipush (v := 14) hx hb dX3_part_16 (by decide) ?_
  refine lv_bipush (v := 23) hx hb dX3_part_18 (by decide) ?_
  obtain ⟨r20, T20, hq20, Hf⟩ := c_c_some Hf
  refine r_cN (n := 3) (As := [.int z2_4, .int 14, .int 23]) (rest := []) ⟨hx, hb, hml, hown, hts⟩ (s_X8_isWithin l X hq20) lkm_X3_98 lkn_X3_98 (by decide +kernel) dX3_part_20 rfl rfl ⟨by dsimp only; omega, by dsimp only; omega⟩ rfl hl.1 (Nat.le_of_ble_eq_true rfl) ⟨Nat.le_of_ble_eq_true rfl, Nat.le_of_ble_eq_true rfl⟩ hK hRO hA hP hS (fun H locs hP hS => ?_)
  refine W.eq (g2 := F0 m 23 ls [.int r20]) rfl ?_
  refine lv_if_eq hx hb dX3_part_23 (tgt := 30) (by decide) (fun hc => ?_) (fun hc => ?_)
  · have Hf := c_i_t Hf hc
    refine lv_iconst (v := 0) hx hb dX3_part_30 (by decide) ?_
    exact hJ31 T20 0 Hf _ _ _ hP hS (lv_sub hl [1, 2, 0] rfl)
  have Hf := c_i_f Hf hc
  exact hJ26 T20 Hf _ _ _ hP hS (lv_sub hl [1, 2, 0] rfl)

def j_X3_sum_32 (E : st_T → Nat → Int32 → Option (Unit × st_T)) (a0 : Nat) (x1 : Int32) (rec7 : st_T × Int32 → Option (Unit × st_T)) (y2_7 : Int32) (S32 : st_T) : Option (Unit × st_T) :=
  (c_g (st_K S32 a0 = 5) (c_l (st_fi S32 410 a0) (fun (z3_36 : Int32) => (c_c (f_X3_take S32 a0 z3_36) (fun (r39 : Unit) (T39 : st_T) => (c_g (st_K T39 a0 = 5) (c_c (f_X3_part E T39 a0 x1) (fun (r44 : Unit) (T44 : st_T) => (c_g (st_K T44 a0 = 5) (c_c (f_X3_emit T44 a0 z3_36 0) (fun (r50 : Unit) (T50 : st_T) => (rec7 (T50, (y2_7 + 1))))))))))))))
def b_X3_sum_7 (E : st_T → Nat → Int32 → Option (Unit × st_T)) (a0 : Nat) (x1 : Int32) (rec7 : st_T × Int32 → Option (Unit × st_T)) (q : st_T × Int32) : Option (Unit × st_T) :=
  (fun (S7 : st_T) (y2_7 : Int32) =>
  (c_i (800 ≤ y2_7) (some ((), S7)) (c_g (st_K S7 a0 = 5) (c_i ((st_fi S7 410 a0) = 8) (j_X3_sum_32 E a0 x1 rec7 y2_7 S7) (c_i ((st_fi S7 410 a0) = 9) (j_X3_sum_32 E a0 x1 rec7 y2_7 S7) (some ((), S7))))))) q.1 q.2
set_option maxRecDepth 100000 in
def f_X3_sum (E : st_T → Nat → Int32 → Option (Unit × st_T)) (S : st_T) (a0 : Nat) (x1 : Int32) : Option (Unit × st_T) :=
  (c_g (st_K S a0 = 5) (c_c (f_X3_part E S a0 x1) (fun (r2 : Unit) (T2 : st_T) => (c_w (b_X3_sum_7 E a0 x1) c_N (T2, 0)))))
set_option maxRecDepth 100000 in
set_option maxHeartbeats 4000000 in
theorem s_X3_sum (l : Launch) (X : st_I) (E : st_T → Nat → Int32 → Option (Unit × st_T)) (d : Nat) (hE : ∀ {S SE : st_T} {a0 : Nat} {x1 : Int32} {rr : Unit}, E S a0 x1 = some (rr, SE) → Met l yX3_expression (Cond.code yX3_expression cX3_expression 3 (none) :: lw_g) { frames := 4 * d + 10, cells := 0, slots := 0, locals := 120 * d + 200 } (st_P X S [.ref a0, .int x1]) (st_Q X (st_A S) none SE) 0 0 (st_A S)) {S SE : st_T} {a0 : Nat} {x1 : Int32} {rr : Unit} (Hf : f_X3_sum E S a0 x1 = some (rr, SE)) : Met l yX3_sum (Cond.code yX3_sum cX3_sum 4 (none) :: lw_g) { frames := 4 * d + 12, cells := 0, slots := 0, locals := 120 * d + 260 } (st_P X S [.ref a0, .int x1]) (st_Q X (st_A S) none SE) 0 0 (st_A S) := by
  refine st_ofW (by decide) (Nat.le_of_ble_eq_true rfl) ?_
  intro p e s m args below meth c hx hb hr hml hlocks hnm hts hown hK hRO hA hP hS ls hl
  have hown : s.vm.findClass RX3 = some m.cls := hown
  have hl : lv_has ls 4 [(0, .ref a0), (1, .int x1)] := hl
  unfold f_X3_sum at Hf
  refine lv_aload_n hx hb dX3_sum_0 rfl (lv_at hl 0 rfl) ?_
  refine lv_iload_n hx hb dX3_sum_1 rfl (lv_at hl 1 rfl) ?_
  obtain ⟨hk_a0, Hf⟩ := c_g_some Hf
  obtain ⟨r2, T2, hq2, Hf⟩ := c_c_some Hf
  refine r_cV (n := 1) (As := [.int x1]) (rest := []) ⟨hx, hb, hml, hown, hts⟩ (s_X3_part l X E d @hE hq2) lkm_X3_95 (by decide +kernel) rfl (by decide) dX3_sum_2 rfl rfl ⟨by dsimp only; omega, by dsimp only; omega⟩ hk_a0 rfl hl.1 (Nat.le_of_ble_eq_true rfl) ⟨Nat.le_of_ble_eq_true rfl, Nat.le_of_ble_eq_true rfl⟩ hK hRO hA hP hS (fun H locs hP hS => ?_)
  refine W.eq (g2 := F0 m 5 ls []) rfl ?_
  refine lv_iconst (v := 0) hx hb dX3_sum_5 (by decide) ?_
  refine lv_istore_n (lv' := [(2, .int 0), (0, .ref a0), (1, .int x1)]) hx hb dX3_sum_6 rfl hl (by decide) rfl (fun ls hl => ?_)
  refine (c_w_ind (P := fun (q : st_T × Int32) => ∀ (H : Heap) (locs : List Loc) (ls : Array Slot), st_HP X (st_A S) q.1 H → va_S (st_A S) s.heap H locs → lv_has ls 4 [(0, .ref a0), (1, .int x1), (2, .int q.2)] → W p l e { frames := 4 * d + 12, cells := 0, slots := 0, locals := 120 * d + 260 } s m args below meth c H locs 0 0 (MQ below (st_Q X (st_A S) none SE) args s 0 0 (st_A S)) (F0 m 7 ls [])) ?_ _ _ Hf) _ _ _ hP hS (lv_sub hl [1, 2, 0] rfl)
  intro rec7 hrec7 q Hf H locs ls hP hS hl
  obtain ⟨S7, y2_7⟩ := q
  unfold b_X3_sum_7 at Hf
  try dsimp only at Hf
  try dsimp only at hP
  try dsimp only at hl
  try dsimp only
  refine lv_iload_n hx hb dX3_sum_7 rfl (lv_at hl 2 rfl) ?_
  refine lv_sipush (v := 800) hx hb dX3_sum_8 (by decide) ?_
  refine lv_icmp_ge hx hb dX3_sum_11 (tgt := 59) (by decide) (fun hc => ?_) (fun hc => ?_)
  · have Hf := c_i_t Hf hc
    cases Hf
    exact r_vret hx hb hr rfl hlocks dX3_sum_59 (Nat.le_of_ble_eq_true rfl) (Nat.le_of_ble_eq_true rfl) hP hS
  have Hf := c_i_f Hf hc
  refine lv_aload_n hx hb dX3_sum_14 rfl (lv_at hl 0 rfl) ?_
  obtain ⟨hk_a0, Hf⟩ := c_g_some Hf
  refine fg_4_10 hx hb hts hown hK hP hk_a0 lkf_X3_47 dX3_sum_15 ?_
  refine lv_bipush (v := 8) hx hb dX3_sum_18 (by decide) ?_
  have hJ32 : ∀ (S32 : st_T), j_X3_sum_32 E a0 x1 rec7 y2_7 S32 = some (rr, SE) → ∀ (H : Heap) (locs : List Loc) (ls : Array Slot), st_HP X (st_A S) S32 H → va_S (st_A S) s.heap H locs → lv_has ls 4 [(0, .ref a0), (1, .int x1), (2, .int y2_7)] → W p l e { frames := 4 * d + 12, cells := 0, slots := 0, locals := 120 * d + 260 } s m args below meth c H locs 0 0 (MQ below (st_Q X (st_A S) none SE) args s 0 0 (st_A S)) (F0 m 32 ls []) := by
    intro S32 Hf H locs ls hP hS hl
    unfold j_X3_sum_32 at Hf
    refine lv_aload_n hx hb dX3_sum_32 rfl (lv_at hl 0 rfl) ?_
    obtain ⟨hk_a0, Hf⟩ := c_g_some Hf
    refine fg_4_10 hx hb hts hown hK hP hk_a0 lkf_X3_47 dX3_sum_33 ?_
    refine lv_topi (fun z3_36 ez3_36 => ?_)
    have Hf := c_l_ren Hf ez3_36
    refine lv_istore_n (lv' := [(3, .int z3_36), (0, .ref a0), (1, .int x1), (2, .int y2_7)]) hx hb dX3_sum_36 rfl hl (by decide) rfl (fun ls hl => ?_)
    refine lv_aload_n hx hb dX3_sum_37 rfl (lv_at hl 1 rfl) ?_
    refine lv_iload_n hx hb dX3_sum_38 rfl (lv_at hl 0 rfl) ?_
    obtain ⟨r39, T39, hq39, Hf⟩ := c_c_some Hf
    refine r_cV (n := 1) (As := [.int z3_36]) (rest := []) ⟨hx, hb, hml, hown, hts⟩ (s_X3_take l X hq39) lkm_X3_61 (by decide +kernel) rfl (by decide) dX3_sum_39 rfl rfl ⟨by dsimp only; omega, by dsimp only; omega⟩ hk_a0 rfl hl.1 (Nat.le_of_ble_eq_true rfl) ⟨Nat.le_of_ble_eq_true rfl, Nat.le_of_ble_eq_true rfl⟩ hK hRO hA hP hS (fun H locs hP hS => ?_)
    refine W.eq (g2 := F0 m 42 ls []) rfl ?_
    refine lv_aload_n hx hb dX3_sum_42 rfl (lv_at hl 1 rfl) ?_
    refine lv_iload_n hx hb dX3_sum_43 rfl (lv_at hl 2 rfl) ?_
    obtain ⟨hk_a0, Hf⟩ := c_g_some Hf
    obtain ⟨r44, T44, hq44, Hf⟩ := c_c_some Hf
    refine r_cV (n := 1) (As := [.int x1]) (rest := []) ⟨hx, hb, hml, hown, hts⟩ (s_X3_part l X E d @hE hq44) lkm_X3_95 (by decide +kernel) rfl (by decide) dX3_sum_44 rfl rfl ⟨by dsimp only; omega, by dsimp only; omega⟩ hk_a0 rfl hl.1 (Nat.le_of_ble_eq_true rfl) ⟨Nat.le_of_ble_eq_true rfl, Nat.le_of_ble_eq_true rfl⟩ hK hRO hA hP hS (fun H locs hP hS => ?_)
    refine W.eq (g2 := F0 m 47 ls []) rfl ?_
    refine lv_aload_n hx hb dX3_sum_47 rfl (lv_at hl 1 rfl) ?_
    refine lv_iload_n hx hb dX3_sum_48 rfl (lv_at hl 0 rfl) ?_
    refine lv_iconst (v := 0) hx hb dX3_sum_49 (by decide) ?_
    obtain ⟨hk_a0, Hf⟩ := c_g_some Hf
    obtain ⟨r50, T50, hq50, Hf⟩ := c_c_some Hf
    refine r_cV (n := 2) (As := [.int z3_36, .int 0]) (rest := []) ⟨hx, hb, hml, hown, hts⟩ (s_X3_emit l X hq50) lkm_X3_88 (by decide +kernel) rfl (by decide) dX3_sum_50 rfl rfl ⟨by dsimp only; omega, by dsimp only; omega⟩ hk_a0 rfl hl.1 (Nat.le_of_ble_eq_true rfl) ⟨Nat.le_of_ble_eq_true rfl, Nat.le_of_ble_eq_true rfl⟩ hK hRO hA hP hS (fun H locs hP hS => ?_)
    refine W.eq (g2 := F0 m 53 ls []) rfl ?_
    refine lv_iinc (v := (y2_7 + 1)) (lv' := [(2, .int (y2_7 + 1)), (3, .int z3_36), (0, .ref a0), (1, .int x1)]) hx hb dX3_sum_53 hl (k := 3) rfl rfl (by decide) rfl (fun ls hl => ?_)
    refine lv_goto hx hb dX3_sum_56 (tgt := 7) (by decide) ?_
    exact hrec7 (T50, (y2_7 + 1)) Hf _ _ _ hP hS (lv_sub hl [2, 3, 0] rfl)
  refine lv_icmp_eq hx hb dX3_sum_20 (tgt := 32) (by decide) (fun hc => ?_) (fun hc => ?_)
  · have Hf := c_i_t Hf hc
    exact hJ32 S7 Hf _ _ _ hP hS (lv_sub hl [0, 1, 2] rfl)
  have Hf := c_i_f Hf hc
  refine lv_aload_n hx hb dX3_sum_23 rfl (lv_at hl 0 rfl) ?_
  refine fg_4_10 hx hb hts hown hK hP hk_a0 lkf_X3_47 dX3_sum_24 ?_
  refine lv_bipush (v := 9) hx hb dX3_sum_27 (by decide) ?_
  refine lv_icmp_ne hx hb dX3_sum_29 (tgt := 59) (by decide) (fun hc => ?_) (fun hc => ?_)
  · have Hf := c_i_f Hf hc
    cases Hf
    exact r_vret hx hb hr rfl hlocks dX3_sum_59 (Nat.le_of_ble_eq_true rfl) (Nat.le_of_ble_eq_true rfl) hP hS
  have Hf := c_i_t Hf hc
  exact hJ32 S7 Hf _ _ _ hP hS (lv_sub hl [0, 1, 2] rfl)

def j_X3_test_22 (E : st_T → Nat → Int32 → Option (Unit × st_T)) (a0 : Nat) (x1 : Int32) (z2_9 : Int32) (S22 : st_T) : Option (Unit × st_T) :=
  (c_g (st_K S22 a0 = 5) (c_c (f_X3_take S22 a0 z2_9) (fun (r24 : Unit) (T24 : st_T) => (c_g (st_K T24 a0 = 5) (c_c (f_X3_sum E T24 a0 x1) (fun (r29 : Unit) (T29 : st_T) => (c_g (st_K T29 a0 = 5) (c_c (f_X3_emit T29 a0 z2_9 0) (fun (r35 : Unit) (T35 : st_T) => (some ((), T35)))))))))))
set_option maxRecDepth 100000 in
def f_X3_test (E : st_T → Nat → Int32 → Option (Unit × st_T)) (S : st_T) (a0 : Nat) (x1 : Int32) : Option (Unit × st_T) :=
  (c_g (st_K S a0 = 5) (c_c (f_X3_sum E S a0 x1) (fun (r2 : Unit) (T2 : st_T) => (c_g (st_K T2 a0 = 5) (c_l (st_fi T2 410 a0) (fun (z2_9 : Int32) => (c_i (z2_9 = 6) (j_X3_test_22 E a0 x1 z2_9 T2) (c_i (z2_9 = 7) (j_X3_test_22 E a0 x1 z2_9 T2) (some ((), T2))))))))))
set_option maxRecDepth 100000 in
set_option maxHeartbeats 4000000 in
theorem s_X3_test (l : Launch) (X : st_I) (E : st_T → Nat → Int32 → Option (Unit × st_T)) (d : Nat) (hE : ∀ {S SE : st_T} {a0 : Nat} {x1 : Int32} {rr : Unit}, E S a0 x1 = some (rr, SE) → Met l yX3_expression (Cond.code yX3_expression cX3_expression 3 (none) :: lw_g) { frames := 4 * d + 10, cells := 0, slots := 0, locals := 120 * d + 200 } (st_P X S [.ref a0, .int x1]) (st_Q X (st_A S) none SE) 0 0 (st_A S)) {S SE : st_T} {a0 : Nat} {x1 : Int32} {rr : Unit} (Hf : f_X3_test E S a0 x1 = some (rr, SE)) : Met l yX3_test (Cond.code yX3_test cX3_test 3 (none) :: lw_g) { frames := 4 * d + 13, cells := 0, slots := 0, locals := 120 * d + 290 } (st_P X S [.ref a0, .int x1]) (st_Q X (st_A S) none SE) 0 0 (st_A S) := by
  refine st_ofW (by decide) (Nat.le_of_ble_eq_true rfl) ?_
  intro p e s m args below meth c hx hb hr hml hlocks hnm hts hown hK hRO hA hP hS ls hl
  have hown : s.vm.findClass RX3 = some m.cls := hown
  have hl : lv_has ls 3 [(0, .ref a0), (1, .int x1)] := hl
  unfold f_X3_test at Hf
  refine lv_aload_n hx hb dX3_test_0 rfl (lv_at hl 0 rfl) ?_
  refine lv_iload_n hx hb dX3_test_1 rfl (lv_at hl 1 rfl) ?_
  obtain ⟨hk_a0, Hf⟩ := c_g_some Hf
  obtain ⟨r2, T2, hq2, Hf⟩ := c_c_some Hf
  refine r_cV (n := 1) (As := [.int x1]) (rest := []) ⟨hx, hb, hml, hown, hts⟩ (s_X3_sum l X E d @hE hq2) lkm_X3_92 (by decide +kernel) rfl (by decide) dX3_test_2 rfl rfl ⟨by dsimp only; omega, by dsimp only; omega⟩ hk_a0 rfl hl.1 (Nat.le_of_ble_eq_true rfl) ⟨Nat.le_of_ble_eq_true rfl, Nat.le_of_ble_eq_true rfl⟩ hK hRO hA hP hS (fun H locs hP hS => ?_)
  refine W.eq (g2 := F0 m 5 ls []) rfl ?_
  refine lv_aload_n hx hb dX3_test_5 rfl (lv_at hl 0 rfl) ?_
  obtain ⟨hk_a0, Hf⟩ := c_g_some Hf
  refine fg_4_10 hx hb hts hown hK hP hk_a0 lkf_X3_47 dX3_test_6 ?_
  refine lv_topi (fun z2_9 ez2_9 => ?_)
  have Hf := c_l_ren Hf ez2_9
  refine lv_istore_n (lv' := [(2, .int z2_9), (0, .ref a0), (1, .int x1)]) hx hb dX3_test_9 rfl hl (by decide) rfl (fun ls hl => ?_)
  refine lv_iload_n hx hb dX3_test_10 rfl (lv_at hl 0 rfl) ?_
  refine lv_bipush (v := 6) hx hb dX3_test_11 (by decide) ?_
  have hJ22 : ∀ (S22 : st_T), j_X3_test_22 E a0 x1 z2_9 S22 = some (rr, SE) → ∀ (H : Heap) (locs : List Loc) (ls : Array Slot), st_HP X (st_A S) S22 H → va_S (st_A S) s.heap H locs → lv_has ls 3 [(0, .ref a0), (1, .int x1), (2, .int z2_9)] → W p l e { frames := 4 * d + 13, cells := 0, slots := 0, locals := 120 * d + 290 } s m args below meth c H locs 0 0 (MQ below (st_Q X (st_A S) none SE) args s 0 0 (st_A S)) (F0 m 22 ls []) := by
    intro S22 Hf H locs ls hP hS hl
    unfold j_X3_test_22 at Hf
    refine lv_aload_n hx hb dX3_test_22 rfl (lv_at hl 0 rfl) ?_
    refine lv_iload_n hx hb dX3_test_23 rfl (lv_at hl 2 rfl) ?_
    obtain ⟨hk_a0, Hf⟩ := c_g_some Hf
    obtain ⟨r24, T24, hq24, Hf⟩ := c_c_some Hf
    refine r_cV (n := 1) (As := [.int z2_9]) (rest := []) ⟨hx, hb, hml, hown, hts⟩ (s_X3_take l X hq24) lkm_X3_61 (by decide +kernel) rfl (by decide) dX3_test_24 rfl rfl ⟨by dsimp only; omega, by dsimp only; omega⟩ hk_a0 rfl hl.1 (Nat.le_of_ble_eq_true rfl) ⟨Nat.le_of_ble_eq_true rfl, Nat.le_of_ble_eq_true rfl⟩ hK hRO hA hP hS (fun H locs hP hS => ?_)
    refine W.eq (g2 := F0 m 27 ls []) rfl ?_
    refine lv_aload_n hx hb dX3_test_27 rfl (lv_at hl 0 rfl) ?_
    refine lv_iload_n hx hb dX3_test_28 rfl (lv_at hl 1 rfl) ?_
    obtain ⟨hk_a0, Hf⟩ := c_g_some Hf
    obtain ⟨r29, T29, hq29, Hf⟩ := c_c_some Hf
    refine r_cV (n := 1) (As := [.int x1]) (rest := []) ⟨hx, hb, hml, hown, hts⟩ (s_X3_sum l X E d @hE hq29) lkm_X3_92 (by decide +kernel) rfl (by decide) dX3_test_29 rfl rfl ⟨by dsimp only; omega, by dsimp only; omega⟩ hk_a0 rfl hl.1 (Nat.le_of_ble_eq_true rfl) ⟨Nat.le_of_ble_eq_true rfl, Nat.le_of_ble_eq_true rfl⟩ hK hRO hA hP hS (fun H locs hP hS => ?_)
    refine W.eq (g2 := F0 m 32 ls []) rfl ?_
    refine lv_aload_n hx hb dX3_test_32 rfl (lv_at hl 0 rfl) ?_
    refine lv_iload_n hx hb dX3_test_33 rfl (lv_at hl 2 rfl) ?_
    refine lv_iconst (v := 0) hx hb dX3_test_34 (by decide) ?_
    obtain ⟨hk_a0, Hf⟩ := c_g_some Hf
    obtain ⟨r35, T35, hq35, Hf⟩ := c_c_some Hf
    refine r_cV (n := 2) (As := [.int z2_9, .int 0]) (rest := []) ⟨hx, hb, hml, hown, hts⟩ (s_X3_emit l X hq35) lkm_X3_88 (by decide +kernel) rfl (by decide) dX3_test_35 rfl rfl ⟨by dsimp only; omega, by dsimp only; omega⟩ hk_a0 rfl hl.1 (Nat.le_of_ble_eq_true rfl) ⟨Nat.le_of_ble_eq_true rfl, Nat.le_of_ble_eq_true rfl⟩ hK hRO hA hP hS (fun H locs hP hS => ?_)
    refine W.eq (g2 := F0 m 38 ls []) rfl ?_
    cases Hf
    exact r_vret hx hb hr rfl hlocks dX3_test_38 (Nat.le_of_ble_eq_true rfl) (Nat.le_of_ble_eq_true rfl) hP hS
  refine lv_icmp_eq hx hb dX3_test_13 (tgt := 22) (by decide) (fun hc => ?_) (fun hc => ?_)
  · have Hf := c_i_t Hf hc
    exact hJ22 T2 Hf _ _ _ hP hS (lv_sub hl [1, 2, 0] rfl)
  have Hf := c_i_f Hf hc
  refine lv_iload_n hx hb dX3_test_16 rfl (lv_at hl 0 rfl) ?_
  refine lv_bipush (v := 7) hx hb dX3_test_17 (by decide) ?_
  refine lv_icmp_ne hx hb dX3_test_19 (tgt := 38) (by decide) (fun hc => ?_) (fun hc => ?_)
  · have Hf := c_i_f Hf hc
    cases Hf
    exact r_vret hx hb hr rfl hlocks dX3_test_38 (Nat.le_of_ble_eq_true rfl) (Nat.le_of_ble_eq_true rfl) hP hS
  have Hf := c_i_t Hf hc
  exact hJ22 T2 Hf _ _ _ hP hS (lv_sub hl [1, 2, 0] rfl)

def b_X3_expression_7 (E : st_T → Nat → Int32 → Option (Unit × st_T)) (a0 : Nat) (x1 : Int32) (rec7 : st_T × Int32 → Option (Unit × st_T)) (q : st_T × Int32) : Option (Unit × st_T) :=
  (fun (S7 : st_T) (y2_7 : Int32) =>
  (c_i (800 ≤ y2_7) (some ((), S7)) (c_g (st_K S7 a0 = 5) (c_i ((st_fi S7 410 a0) = 10) (c_c (f_X3_take S7 a0 10) (fun (r26 : Unit) (T26 : st_T) => (c_g (st_K T26 a0 = 5) (c_c (f_X3_test E T26 a0 x1) (fun (r31 : Unit) (T31 : st_T) => (c_g (st_K T31 a0 = 5) (c_c (f_X3_emit T31 a0 10 0) (fun (r38 : Unit) (T38 : st_T) => (rec7 (T38, (y2_7 + 1))))))))))) (some ((), S7)))))) q.1 q.2
set_option maxRecDepth 100000 in
def f_X3_expression (E : st_T → Nat → Int32 → Option (Unit × st_T)) (S : st_T) (a0 : Nat) (x1 : Int32) : Option (Unit × st_T) :=
  (c_g (st_K S a0 = 5) (c_c (f_X3_test E S a0 x1) (fun (r2 : Unit) (T2 : st_T) => (c_w (b_X3_expression_7 E a0 x1) c_N (T2, 0)))))
set_option maxRecDepth 100000 in
set_option maxHeartbeats 4000000 in
theorem s_X3_expression (l : Launch) (X : st_I) (E : st_T → Nat → Int32 → Option (Unit × st_T)) (d : Nat) (hE : ∀ {S SE : st_T} {a0 : Nat} {x1 : Int32} {rr : Unit}, E S a0 x1 = some (rr, SE) → Met l yX3_expression (Cond.code yX3_expression cX3_expression 3 (none) :: lw_g) { frames := 4 * d + 10, cells := 0, slots := 0, locals := 120 * d + 200 } (st_P X S [.ref a0, .int x1]) (st_Q X (st_A S) none SE) 0 0 (st_A S)) {S SE : st_T} {a0 : Nat} {x1 : Int32} {rr : Unit} (Hf : f_X3_expression E S a0 x1 = some (rr, SE)) : Met l yX3_expression (Cond.code yX3_expression cX3_expression 3 (none) :: lw_g) { frames := 4 * d + 14, cells := 0, slots := 0, locals := 120 * d + 320 } (st_P X S [.ref a0, .int x1]) (st_Q X (st_A S) none SE) 0 0 (st_A S) := by
  refine st_ofW (by decide) (Nat.le_of_ble_eq_true rfl) ?_
  intro p e s m args below meth c hx hb hr hml hlocks hnm hts hown hK hRO hA hP hS ls hl
  have hown : s.vm.findClass RX3 = some m.cls := hown
  have hl : lv_has ls 3 [(0, .ref a0), (1, .int x1)] := hl
  unfold f_X3_expression at Hf
  refine lv_aload_n hx hb dX3_expression_0 rfl (lv_at hl 0 rfl) ?_
  refine lv_iload_n hx hb dX3_expression_1 rfl (lv_at hl 1 rfl) ?_
  obtain ⟨hk_a0, Hf⟩ := c_g_some Hf
  obtain ⟨r2, T2, hq2, Hf⟩ := c_c_some Hf
  refine r_cV (n := 1) (As := [.int x1]) (rest := []) ⟨hx, hb, hml, hown, hts⟩ (s_X3_test l X E d @hE hq2) lkm_X3_85 (by decide +kernel) rfl (by decide) dX3_expression_2 rfl rfl ⟨by dsimp only; omega, by dsimp only; omega⟩ hk_a0 rfl hl.1 (Nat.le_of_ble_eq_true rfl) ⟨Nat.le_of_ble_eq_true rfl, Nat.le_of_ble_eq_true rfl⟩ hK hRO hA hP hS (fun H locs hP hS => ?_)
  refine W.eq (g2 := F0 m 5 ls []) rfl ?_
  refine lv_iconst (v := 0) hx hb dX3_expression_5 (by decide) ?_
  refine lv_istore_n (lv' := [(2, .int 0), (0, .ref a0), (1, .int x1)]) hx hb dX3_expression_6 rfl hl (by decide) rfl (fun ls hl => ?_)
  refine (c_w_ind (P := fun (q : st_T × Int32) => ∀ (H : Heap) (locs : List Loc) (ls : Array Slot), st_HP X (st_A S) q.1 H → va_S (st_A S) s.heap H locs → lv_has ls 3 [(0, .ref a0), (1, .int x1), (2, .int q.2)] → W p l e { frames := 4 * d + 14, cells := 0, slots := 0, locals := 120 * d + 320 } s m args below meth c H locs 0 0 (MQ below (st_Q X (st_A S) none SE) args s 0 0 (st_A S)) (F0 m 7 ls [])) ?_ _ _ Hf) _ _ _ hP hS (lv_sub hl [1, 2, 0] rfl)
  intro rec7 hrec7 q Hf H locs ls hP hS hl
  obtain ⟨S7, y2_7⟩ := q
  unfold b_X3_expression_7 at Hf
  try dsimp only at Hf
  try dsimp only at hP
  try dsimp only at hl
  try dsimp only
  refine lv_iload_n hx hb dX3_expression_7 rfl (lv_at hl 2 rfl) ?_
  refine lv_sipush (v := 800) hx hb dX3_expression_8 (by decide) ?_
  refine lv_icmp_ge hx hb dX3_expression_11 (tgt := 47) (by decide) (fun hc => ?_) (fun hc => ?_)
  · have Hf := c_i_t Hf hc
    cases Hf
    exact r_vret hx hb hr rfl hlocks dX3_expression_47 (Nat.le_of_ble_eq_true rfl) (Nat.le_of_ble_eq_true rfl) hP hS
  have Hf := c_i_f Hf hc
  refine lv_aload_n hx hb dX3_expression_14 rfl (lv_at hl 0 rfl) ?_
  obtain ⟨hk_a0, Hf⟩ := c_g_some Hf
  refine fg_4_10 hx hb hts hown hK hP hk_a0 lkf_X3_47 dX3_expression_15 ?_
  refine lv_bipush (v := 10) hx hb dX3_expression_18 (by decide) ?_
  refine lv_icmp_ne hx hb dX3_expression_20 (tgt := 47) (by decide) (fun hc => ?_) (fun hc => ?_)
  · have Hf := c_i_f Hf hc
    cases Hf
    exact r_vret hx hb hr rfl hlocks dX3_expression_47 (Nat.le_of_ble_eq_true rfl) (Nat.le_of_ble_eq_true rfl) hP hS
  have Hf := c_i_t Hf hc
  refine lv_aload_n hx hb dX3_expression_23 rfl (lv_at hl 0 rfl) ?_
  refine lv_bipush (v := 10) hx hb dX3_expression_24 (by decide) ?_
  obtain ⟨r26, T26, hq26, Hf⟩ := c_c_some Hf
  refine r_cV (n := 1) (As := [.int 10]) (rest := []) ⟨hx, hb, hml, hown, hts⟩ (s_X3_take l X hq26) lkm_X3_61 (by decide +kernel) rfl (by decide) dX3_expression_26 rfl rfl ⟨by dsimp only; omega, by dsimp only; omega⟩ hk_a0 rfl hl.1 (Nat.le_of_ble_eq_true rfl) ⟨Nat.le_of_ble_eq_true rfl, Nat.le_of_ble_eq_true rfl⟩ hK hRO hA hP hS (fun H locs hP hS => ?_)
  refine W.eq (g2 := F0 m 29 ls []) rfl ?_
  refine lv_aload_n hx hb dX3_expression_29 rfl (lv_at hl 0 rfl) ?_
  refine lv_iload_n hx hb dX3_expression_30 rfl (lv_at hl 1 rfl) ?_
  obtain ⟨hk_a0, Hf⟩ := c_g_some Hf
  obtain ⟨r31, T31, hq31, Hf⟩ := c_c_some Hf
  refine r_cV (n := 1) (As := [.int x1]) (rest := []) ⟨hx, hb, hml, hown, hts⟩ (s_X3_test l X E d @hE hq31) lkm_X3_85 (by decide +kernel) rfl (by decide) dX3_expression_31 rfl rfl ⟨by dsimp only; omega, by dsimp only; omega⟩ hk_a0 rfl hl.1 (Nat.le_of_ble_eq_true rfl) ⟨Nat.le_of_ble_eq_true rfl, Nat.le_of_ble_eq_true rfl⟩ hK hRO hA hP hS (fun H locs hP hS => ?_)
  refine W.eq (g2 := F0 m 34 ls []) rfl ?_
  refine lv_aload_n hx hb dX3_expression_34 rfl (lv_at hl 0 rfl) ?_
  refine lv_bipush (v := 10) hx hb dX3_expression_35 (by decide) ?_
  refine lv_iconst (v := 0) hx hb dX3_expression_37 (by decide) ?_
  obtain ⟨hk_a0, Hf⟩ := c_g_some Hf
  obtain ⟨r38, T38, hq38, Hf⟩ := c_c_some Hf
  refine r_cV (n := 2) (As := [.int 10, .int 0]) (rest := []) ⟨hx, hb, hml, hown, hts⟩ (s_X3_emit l X hq38) lkm_X3_88 (by decide +kernel) rfl (by decide) dX3_expression_38 rfl rfl ⟨by dsimp only; omega, by dsimp only; omega⟩ hk_a0 rfl hl.1 (Nat.le_of_ble_eq_true rfl) ⟨Nat.le_of_ble_eq_true rfl, Nat.le_of_ble_eq_true rfl⟩ hK hRO hA hP hS (fun H locs hP hS => ?_)
  refine W.eq (g2 := F0 m 41 ls []) rfl ?_
  refine lv_iinc (v := (y2_7 + 1)) (lv' := [(2, .int (y2_7 + 1)), (0, .ref a0), (1, .int x1)]) hx hb dX3_expression_41 hl (k := 2) rfl rfl (by decide) rfl (fun ls hl => ?_)
  refine lv_goto hx hb dX3_expression_44 (tgt := 7) (by decide) ?_
  exact hrec7 (T38, (y2_7 + 1)) Hf _ _ _ hP hS (lv_sub hl [1, 2, 0] rfl)

def f_X3_expr : Nat → st_T → Nat → Int32 → Option (Unit × st_T)
  | 0 => fun _ _ _ => none
  | d + 1 => f_X3_expression (f_X3_expr d)
theorem s_X3_expr (l : Launch) (X : st_I) : ∀ (d : Nat) {S SE : st_T} {a0 : Nat} {x1 : Int32} {rr : Unit}, f_X3_expr d S a0 x1 = some (rr, SE) → Met l yX3_expression (Cond.code yX3_expression cX3_expression 3 (none) :: lw_g) { frames := 4 * d + 10, cells := 0, slots := 0, locals := 120 * d + 200 } (st_P X S [.ref a0, .int x1]) (st_Q X (st_A S) none SE) 0 0 (st_A S) := by
  intro d
  induction d with
  | zero => intro S SE a0 x1 rr h; cases h
  | succ d ih =>
    intro S SE a0 x1 rr h
    have h1 := s_X3_expression l X (f_X3_expr d) d @ih h
    rw [show 4 * (d + 1) + 10 = 4 * d + 14 by omega, show 120 * (d + 1) + 200 = 120 * d + 320 by omega]
    exact h1

def j_X3_read_153 (a0 : Nat) (S153 : st_T) : Option (Int32 × st_T) :=
  (c_g (st_K S153 a0 = 5) (some ((st_fi S153 408 a0), S153)))
def j_X3_read_140 (a0 : Nat) (S140 : st_T) : Option (Int32 × st_T) :=
  (c_g (st_K S140 a0 = 5) (c_i ((st_fi S140 410 a0) = 1) (j_X3_read_153 a0 S140) (c_c (f_X3_fail S140 a0 1) (fun (r150 : Unit) (T150 : st_T) => (j_X3_read_153 a0 T150)))))
def j_X3_read_108 (a0 : Nat) (S108 : st_T) : Option (Int32 × st_T) :=
  (c_g (st_K S108 a0 = 5) (c_i ((st_fi S108 410 a0) = 13) (c_c (f_X3_take S108 a0 13) (fun (r120 : Unit) (T120 : st_T) => (c_g (st_K T120 a0 = 5) (c_c (f_X3_takeNumber T120 a0 1 143) (fun (r129 : Int32) (T129 : st_T) => (c_g (st_K T129 a0 = 5) (c_l (st_pi T129 407 a0 r129) (fun (S_132 : st_T) => (c_c (f_X3_take S_132 a0 5) (fun (r137 : Unit) (T137 : st_T) => (j_X3_read_140 a0 T137))))))))))) (j_X3_read_140 a0 S108)))
def b_X3_read_35 (a0 : Nat) (rec35 : st_T × Int32 → Option (Int32 × st_T)) (q : st_T × Int32) : Option (Int32 × st_T) :=
  (fun (S35 : st_T) (y2_35 : Int32) =>
  (c_i (24 < y2_35) (j_X3_read_108 a0 S35) (c_g (st_K S35 a0 = 5) (c_i ((st_fi S35 410 a0) = 11) (c_i ((st_fi S35 405 a0) < 24) (c_c (f_X3_take S35 a0 11) (fun (r70 : Unit) (T70 : st_T) => (c_g (st_K T70 a0 = 5) (c_c (f_X3_takeNumber T70 a0 0 49) (fun (r77 : Int32) (T77 : st_T) => (c_g (st_K T77 a0 = 5) (c_c (f_X3_take T77 a0 12) (fun (r84 : Unit) (T84 : st_T) => (c_g (st_K T84 a0 = 5) (c_c (f_X3_expr 8 T84 a0 0) (fun (r89 : Unit) (T89 : st_T) => (c_g (st_K T89 a0 = 5) (c_c (f_X3_take T89 a0 5) (fun (r94 : Unit) (T94 : st_T) => (c_g (st_K T94 a0 = 5) (c_c (f_X3_endRule T94 a0 r77) (fun (r99 : Unit) (T99 : st_T) => (rec35 (T99, (y2_35 + 1)))))))))))))))))))) (c_c (f_X3_fail S35 a0 5) (fun (r61 : Unit) (T61 : st_T) => (j_X3_read_108 a0 T61)))) (j_X3_read_108 a0 S35))))) q.1 q.2
set_option maxRecDepth 100000 in
def f_X3_read (S : st_T) (a0 : Nat) (x1 : Nat) : Option (Int32 × st_T) :=
  (c_g (st_K S a0 = 5) (c_n (st_fr S 400 a0) (fun (q1 : Nat) => (c_g (st_K S q1 = 8) (c_c (f_X6_scan S q1 x1) (fun (r5 : Unit) (T5 : st_T) => (c_g (st_K T5 a0 = 5) (c_l (st_pi T5 405 a0 0) (fun (S_10 : st_T) => (c_l (st_pi S_10 406 a0 0) (fun (S_15 : st_T) => (c_l (st_pi S_15 407 a0 0) (fun (S_20 : st_T) => (c_l (st_pi S_20 408 a0 0) (fun (S_25 : st_T) => (c_c (f_X3_moveTo S_25 a0 0) (fun (r30 : Unit) (T30 : st_T) => (c_w (b_X3_read_35 a0) c_N (T30, 0)))))))))))))))))))
set_option maxRecDepth 100000 in
set_option maxHeartbeats 4000000 in
theorem s_X3_read (l : Launch) (X : st_I) {S SE : st_T} {a0 : Nat} {x1 : Nat} {rr : Int32} (Hf : f_X3_read S a0 x1 = some (rr, SE)) : Met l yX3_read (Cond.code yX3_read cX3_read 4 (some .int) :: lw_g) { frames := 43, cells := 0, slots := 0, locals := 1182 } (st_P X S [.ref a0, .ref x1]) (st_Q X (st_A S) (some (.int rr)) SE) 0 0 (st_A S) := by
  refine st_ofW (by decide) (Nat.le_of_ble_eq_true rfl) ?_
  intro p e s m args below meth c hx hb hr hml hlocks hnm hts hown hK hRO hA hP hS ls hl
  have hown : s.vm.findClass RX3 = some m.cls := hown
  have hl : lv_has ls 4 [(0, .ref a0), (1, .ref x1)] := hl
  unfold f_X3_read at Hf
  refine lv_aload_n hx hb dX3_read_0 rfl (lv_at hl 0 rfl) ?_
  obtain ⟨hk_a0, Hf⟩ := c_g_some Hf
  obtain ⟨q1, hq1, Hf⟩ := c_n_some Hf
  refine fg_4_0 hx hb hts hown hK hP hk_a0 lkf_X3_12 hq1 dX3_read_1 ?_
  refine lv_aload_n hx hb dX3_read_4 rfl (lv_at hl 1 rfl) ?_
  obtain ⟨hk_q1, Hf⟩ := c_g_some Hf
  obtain ⟨r5, T5, hq5, Hf⟩ := c_c_some Hf
  refine r_cV (n := 1) (As := [.ref x1]) (rest := []) ⟨hx, hb, hml, hown, hts⟩ (s_X6_scan l X hq5) lkm_X3_50 (by decide +kernel) rfl (by decide) dX3_read_5 rfl rfl ⟨Nat.le_of_ble_eq_true rfl, Nat.le_of_ble_eq_true rfl⟩ hk_q1 rfl hl.1 (Nat.le_of_ble_eq_true rfl) ⟨Nat.le_of_ble_eq_true rfl, Nat.le_of_ble_eq_true rfl⟩ hK hRO hA hP hS (fun H locs hP hS => ?_)
  refine W.eq (g2 := F0 m 8 ls []) rfl ?_
  refine lv_aload_n hx hb dX3_read_8 rfl (lv_at hl 0 rfl) ?_
  refine lv_iconst (v := 0) hx hb dX3_read_9 (by decide) ?_
  obtain ⟨hk_a0, Hf⟩ := c_g_some Hf
  refine fp_4_5 hx hb hts hown hK hP hS hk_a0 lkf_X3_31 dX3_read_10 (fun H locs hP hS => ?_)
  obtain ⟨S_10, eS_10, Hf⟩ := c_l_ex Hf
  have hP : st_HP X (st_A S) S_10 H := by rw [eS_10]; exact hP
  refine lv_aload_n hx hb dX3_read_13 rfl (lv_at hl 0 rfl) ?_
  refine lv_iconst (v := 0) hx hb dX3_read_14 (by decide) ?_
  have hk_a0 : st_K S_10 a0 = 5 := by rw [kp_pi eS_10]; exact hk_a0
  refine fp_4_6 hx hb hts hown hK hP hS hk_a0 lkf_X3_35 dX3_read_15 (fun H locs hP hS => ?_)
  obtain ⟨S_15, eS_15, Hf⟩ := c_l_ex Hf
  have hP : st_HP X (st_A S) S_15 H := by rw [eS_15]; exact hP
  refine lv_aload_n hx hb dX3_read_18 rfl (lv_at hl 0 rfl) ?_
  refine lv_iconst (v := 0) hx hb dX3_read_19 (by decide) ?_
  have hk_a0 : st_K S_15 a0 = 5 := by rw [kp_pi eS_15]; exact hk_a0
  refine fp_4_7 hx hb hts hown hK hP hS hk_a0 lkf_X3_38 dX3_read_20 (fun H locs hP hS => ?_)
  obtain ⟨S_20, eS_20, Hf⟩ := c_l_ex Hf
  have hP : st_HP X (st_A S) S_20 H := by rw [eS_20]; exact hP
  refine lv_aload_n hx hb dX3_read_23 rfl (lv_at hl 0 rfl) ?_
  refine lv_iconst (v := 0) hx hb dX3_read_24 (by decide) ?_
  have hk_a0 : st_K S_20 a0 = 5 := by rw [kp_pi eS_20]; exact hk_a0
  refine fp_4_8 hx hb hts hown hK hP hS hk_a0 lkf_X3_41 dX3_read_25 (fun H locs hP hS => ?_)
  obtain ⟨S_25, eS_25, Hf⟩ := c_l_ex Hf
  have hP : st_HP X (st_A S) S_25 H := by rw [eS_25]; exact hP
  refine lv_aload_n hx hb dX3_read_28 rfl (lv_at hl 0 rfl) ?_
  refine lv_iconst (v := 0) hx hb dX3_read_29 (by decide) ?_
  have hk_a0 : st_K S_25 a0 = 5 := by rw [kp_pi eS_25]; exact hk_a0
  obtain ⟨r30, T30, hq30, Hf⟩ := c_c_some Hf
  refine r_cV (n := 1) (As := [.int 0]) (rest := []) ⟨hx, hb, hml, hown, hts⟩ (s_X3_moveTo l X hq30) lkm_X3_54 (by decide +kernel) rfl (by decide) dX3_read_30 rfl rfl ⟨Nat.le_of_ble_eq_true rfl, Nat.le_of_ble_eq_true rfl⟩ hk_a0 rfl hl.1 (Nat.le_of_ble_eq_true rfl) ⟨Nat.le_of_ble_eq_true rfl, Nat.le_of_ble_eq_true rfl⟩ hK hRO hA hP hS (fun H locs hP hS => ?_)
  refine W.eq (g2 := F0 m 33 ls []) rfl ?_
  refine lv_iconst (v := 0) hx hb dX3_read_33 (by decide) ?_
  refine lv_istore_n (lv' := [(2, .int 0), (0, .ref a0), (1, .ref x1)]) hx hb dX3_read_34 rfl hl (by decide) rfl (fun ls hl => ?_)
  refine (c_w_ind (P := fun (q : st_T × Int32) => ∀ (H : Heap) (locs : List Loc) (ls : Array Slot), st_HP X (st_A S) q.1 H → va_S (st_A S) s.heap H locs → lv_has ls 4 [(0, .ref a0), (2, .int q.2)] → W p l e { frames := 43, cells := 0, slots := 0, locals := 1182 } s m args below meth c H locs 0 0 (MQ below (st_Q X (st_A S) (some (.int rr)) SE) args s 0 0 (st_A S)) (F0 m 35 ls [])) ?_ _ _ Hf) _ _ _ hP hS (lv_sub hl [1, 0] rfl)
  intro rec35 hrec35 q Hf H locs ls hP hS hl
  obtain ⟨S35, y2_35⟩ := q
  unfold b_X3_read_35 at Hf
  try dsimp only at Hf
  try dsimp only at hP
  try dsimp only at hl
  try dsimp only
  refine lv_iload_n hx hb dX3_read_35 rfl (lv_at hl 1 rfl) ?_
  refine lv_bipush (v := 24) hx hb dX3_read_36 (by decide) ?_
  have hJ108 : ∀ (S108 : st_T), j_X3_read_108 a0 S108 = some (rr, SE) → ∀ (H : Heap) (locs : List Loc) (ls : Array Slot), st_HP X (st_A S) S108 H → va_S (st_A S) s.heap H locs → lv_has ls 4 [(0, .ref a0)] → W p l e { frames := 43, cells := 0, slots := 0, locals := 1182 } s m args below meth c H locs 0 0 (MQ below (st_Q X (st_A S) (some (.int rr)) SE) args s 0 0 (st_A S)) (F0 m 108 ls []) := by
    intro S108 Hf H locs ls hP hS hl
    unfold j_X3_read_108 at Hf
    refine lv_aload_n hx hb dX3_read_108 rfl (lv_at hl 0 rfl) ?_
    obtain ⟨hk_a0, Hf⟩ := c_g_some Hf
    refine fg_4_10 hx hb hts hown hK hP hk_a0 lkf_X3_47 dX3_read_109 ?_
    refine lv_bipush (v := 13) hx hb dX3_read_112 (by decide) ?_
    have hJ140 : ∀ (S140 : st_T), j_X3_read_140 a0 S140 = some (rr, SE) → ∀ (H : Heap) (locs : List Loc) (ls : Array Slot), st_HP X (st_A S) S140 H → va_S (st_A S) s.heap H locs → lv_has ls 4 [(0, .ref a0)] → W p l e { frames := 43, cells := 0, slots := 0, locals := 1182 } s m args below meth c H locs 0 0 (MQ below (st_Q X (st_A S) (some (.int rr)) SE) args s 0 0 (st_A S)) (F0 m 140 ls []) := by
      intro S140 Hf H locs ls hP hS hl
      unfold j_X3_read_140 at Hf
      refine lv_aload_n hx hb dX3_read_140 rfl (lv_at hl 0 rfl) ?_
      obtain ⟨hk_a0, Hf⟩ := c_g_some Hf
      refine fg_4_10 hx hb hts hown hK hP hk_a0 lkf_X3_47 dX3_read_141 ?_
      refine lv_iconst (v := 1) hx hb dX3_read_144 (by decide) ?_
      have hJ153 : ∀ (S153 : st_T), j_X3_read_153 a0 S153 = some (rr, SE) → ∀ (H : Heap) (locs : List Loc) (ls : Array Slot), st_HP X (st_A S) S153 H → va_S (st_A S) s.heap H locs → lv_has ls 4 [(0, .ref a0)] → W p l e { frames := 43, cells := 0, slots := 0, locals := 1182 } s m args below meth c H locs 0 0 (MQ below (st_Q X (st_A S) (some (.int rr)) SE) args s 0 0 (st_A S)) (F0 m 153 ls []) := by
        intro S153 Hf H locs ls hP hS hl
        unfold j_X3_read_153 at Hf
        refine lv_aload_n hx hb dX3_read_153 rfl (lv_at hl 0 rfl) ?_
        obtain ⟨hk_a0, Hf⟩ := c_g_some Hf
        refine fg_4_8 hx hb hts hown hK hP hk_a0 lkf_X3_41 dX3_read_154 ?_
        cases Hf
        exact r_iret hx hb hr rfl hlocks dX3_read_157 (Nat.le_of_ble_eq_true rfl) (Nat.le_of_ble_eq_true rfl) hP hS
      refine lv_icmp_eq hx hb dX3_read_145 (tgt := 153) (by decide) (fun hc => ?_) (fun hc => ?_)
      · have Hf := c_i_t Hf hc
        exact hJ153 S140 Hf _ _ _ hP hS (lv_sub hl [0] rfl)
      have Hf := c_i_f Hf hc
      refine lv_aload_n hx hb dX3_read_148 rfl (lv_at hl 0 rfl) ?_
      refine lv_iconst (v := 1) hx hb dX3_read_149 (by decide) ?_
      obtain ⟨r150, T150, hq150, Hf⟩ := c_c_some Hf
      refine r_cV (n := 1) (As := [.int 1]) (rest := []) ⟨hx, hb, hml, hown, hts⟩ (s_X3_fail l X hq150) lkm_X3_58 (by decide +kernel) rfl (by decide) dX3_read_150 rfl rfl ⟨Nat.le_of_ble_eq_true rfl, Nat.le_of_ble_eq_true rfl⟩ hk_a0 rfl hl.1 (Nat.le_of_ble_eq_true rfl) ⟨Nat.le_of_ble_eq_true rfl, Nat.le_of_ble_eq_true rfl⟩ hK hRO hA hP hS (fun H locs hP hS => ?_)
      refine W.eq (g2 := F0 m 153 ls []) rfl ?_
      exact hJ153 T150 Hf _ _ _ hP hS (lv_sub hl [0] rfl)
    refine lv_icmp_ne hx hb dX3_read_114 (tgt := 140) (by decide) (fun hc => ?_) (fun hc => ?_)
    · have Hf := c_i_f Hf hc
      exact hJ140 S108 Hf _ _ _ hP hS (lv_sub hl [0] rfl)
    have Hf := c_i_t Hf hc
    refine lv_aload_n hx hb dX3_read_117 rfl (lv_at hl 0 rfl) ?_
    refine lv_bipush (v := 13) hx hb dX3_read_118 (by decide) ?_
    obtain ⟨r120, T120, hq120, Hf⟩ := c_c_some Hf
    refine r_cV (n := 1) (As := [.int 13]) (rest := []) ⟨hx, hb, hml, hown, hts⟩ (s_X3_take l X hq120) lkm_X3_61 (by decide +kernel) rfl (by decide) dX3_read_120 rfl rfl ⟨Nat.le_of_ble_eq_true rfl, Nat.le_of_ble_eq_true rfl⟩ hk_a0 rfl hl.1 (Nat.le_of_ble_eq_true rfl) ⟨Nat.le_of_ble_eq_true rfl, Nat.le_of_ble_eq_true rfl⟩ hK hRO hA hP hS (fun H locs hP hS => ?_)
    refine W.eq (g2 := F0 m 123 ls []) rfl ?_
    refine lv_aload_n hx hb dX3_read_123 rfl (lv_at hl 0 rfl) ?_
    refine lv_aload_n hx hb dX3_read_124 rfl (lv_at hl 0 rfl) ?_
    refine lv_iconst (v := 1) hx hb dX3_read_125 (by decide) ?_
    refine lv_sipush (v := 143) hx hb dX3_read_126 (by decide) ?_
    obtain ⟨hk_a0, Hf⟩ := c_g_some Hf
    obtain ⟨r129, T129, hq129, Hf⟩ := c_c_some Hf
    refine r_cV (n := 2) (As := [.int 1, .int 143]) (rest := [.ref a0]) ⟨hx, hb, hml, hown, hts⟩ (s_X3_takeNumber l X hq129) lkm_X3_64 (by decide +kernel) rfl (by decide) dX3_read_129 rfl rfl ⟨Nat.le_of_ble_eq_true rfl, Nat.le_of_ble_eq_true rfl⟩ hk_a0 rfl hl.1 (Nat.le_of_ble_eq_true rfl) ⟨Nat.le_of_ble_eq_true rfl, Nat.le_of_ble_eq_true rfl⟩ hK hRO hA hP hS (fun H locs hP hS => ?_)
    refine W.eq (g2 := F0 m 132 ls [.int r129, .ref a0]) rfl ?_
    obtain ⟨hk_a0, Hf⟩ := c_g_some Hf
    refine fp_4_7 hx hb hts hown hK hP hS hk_a0 lkf_X3_38 dX3_read_132 (fun H locs hP hS => ?_)
    obtain ⟨S_132, eS_132, Hf⟩ := c_l_ex Hf
    have hP : st_HP X (st_A S) S_132 H := by rw [eS_132]; exact hP
    refine lv_aload_n hx hb dX3_read_135 rfl (lv_at hl 0 rfl) ?_
    refine lv_iconst (v := 5) hx hb dX3_read_136 (by decide) ?_
    have hk_a0 : st_K S_132 a0 = 5 := by rw [kp_pi eS_132]; exact hk_a0
    obtain ⟨r137, T137, hq137, Hf⟩ := c_c_some Hf
    refine r_cV (n := 1) (As := [.int 5]) (rest := []) ⟨hx, hb, hml, hown, hts⟩ (s_X3_take l X hq137) lkm_X3_61 (by decide +kernel) rfl (by decide) dX3_read_137 rfl rfl ⟨Nat.le_of_ble_eq_true rfl, Nat.le_of_ble_eq_true rfl⟩ hk_a0 rfl hl.1 (Nat.le_of_ble_eq_true rfl) ⟨Nat.le_of_ble_eq_true rfl, Nat.le_of_ble_eq_true rfl⟩ hK hRO hA hP hS (fun H locs hP hS => ?_)
    refine W.eq (g2 := F0 m 140 ls []) rfl ?_
    exact hJ140 T137 Hf _ _ _ hP hS (lv_sub hl [0] rfl)
  refine lv_icmp_gt hx hb dX3_read_38 (tgt := 108) (by decide) (fun hc => ?_) (fun hc => ?_)
  · have Hf := c_i_t Hf hc
    exact hJ108 S35 Hf _ _ _ hP hS (lv_sub hl [0] rfl)
  have Hf := c_i_f Hf hc
  refine lv_aload_n hx hb dX3_read_41 rfl (lv_at hl 0 rfl) ?_
  obtain ⟨hk_a0, Hf⟩ := c_g_some Hf
  refine fg_4_10 hx hb hts hown hK hP hk_a0 lkf_X3_47 dX3_read_42 ?_
  refine lv_bipush (v := 11) hx hb dX3_read_45 (by decide) ?_
  refine lv_icmp_ne hx hb dX3_read_47 (tgt := 108) (by decide) (fun hc => ?_) (fun hc => ?_)
  · have Hf := c_i_f Hf hc
    exact hJ108 S35 Hf _ _ _ hP hS (lv_sub hl [0] rfl)
  have Hf := c_i_t Hf hc
  refine lv_aload_n hx hb dX3_read_50 rfl (lv_at hl 0 rfl) ?_
  refine fg_4_5 hx hb hts hown hK hP hk_a0 lkf_X3_31 dX3_read_51 ?_
  refine lv_bipush (v := 24) hx hb dX3_read_54 (by decide) ?_
  refine lv_icmp_lt hx hb dX3_read_56 (tgt := 67) (by decide) (fun hc => ?_) (fun hc => ?_)
  · have Hf := c_i_t Hf hc
    refine lv_aload_n hx hb dX3_read_67 rfl (lv_at hl 0 rfl) ?_
    refine lv_bipush (v := 11) hx hb dX3_read_68 (by decide) ?_
    obtain ⟨r70, T70, hq70, Hf⟩ := c_c_some Hf
    refine r_cV (n := 1) (As := [.int 11]) (rest := []) ⟨hx, hb, hml, hown, hts⟩ (s_X3_take l X hq70) lkm_X3_61 (by decide +kernel) rfl (by decide) dX3_read_70 rfl rfl ⟨Nat.le_of_ble_eq_true rfl, Nat.le_of_ble_eq_true rfl⟩ hk_a0 rfl hl.1 (Nat.le_of_ble_eq_true rfl) ⟨Nat.le_of_ble_eq_true rfl, Nat.le_of_ble_eq_true rfl⟩ hK hRO hA hP hS (fun H locs hP hS => ?_)
    refine W.eq (g2 := F0 m 73 ls []) rfl ?_
    refine lv_aload_n hx hb dX3_read_73 rfl (lv_at hl 0 rfl) ?_
    refine lv_iconst (v := 0) hx hb dX3_read_74 (by decide) ?_
    refine lv_bipush (v := 49) hx hb dX3_read_75 (by decide) ?_
    obtain ⟨hk_a0, Hf⟩ := c_g_some Hf
    obtain ⟨r77, T77, hq77, Hf⟩ := c_c_some Hf
    refine r_cV (n := 2) (As := [.int 0, .int 49]) (rest := []) ⟨hx, hb, hml, hown, hts⟩ (s_X3_takeNumber l X hq77) lkm_X3_64 (by decide +kernel) rfl (by decide) dX3_read_77 rfl rfl ⟨Nat.le_of_ble_eq_true rfl, Nat.le_of_ble_eq_true rfl⟩ hk_a0 rfl hl.1 (Nat.le_of_ble_eq_true rfl) ⟨Nat.le_of_ble_eq_true rfl, Nat.le_of_ble_eq_true rfl⟩ hK hRO hA hP hS (fun H locs hP hS => ?_)
    refine W.eq (g2 := F0 m 80 ls [.int r77]) rfl ?_
    refine lv_istore_n (lv' := [(3, .int r77), (0, .ref a0), (2, .int y2_35)]) hx hb dX3_read_80 rfl hl (by decide) rfl (fun ls hl => ?_)
    refine lv_aload_n hx hb dX3_read_81 rfl (lv_at hl 1 rfl) ?_
    refine lv_bipush (v := 12) hx hb dX3_read_82 (by decide) ?_
    obtain ⟨hk_a0, Hf⟩ := c_g_some Hf
    obtain ⟨r84, T84, hq84, Hf⟩ := c_c_some Hf
    refine r_cV (n := 1) (As := [.int 12]) (rest := []) ⟨hx, hb, hml, hown, hts⟩ (s_X3_take l X hq84) lkm_X3_61 (by decide +kernel) rfl (by decide) dX3_read_84 rfl rfl ⟨Nat.le_of_ble_eq_true rfl, Nat.le_of_ble_eq_true rfl⟩ hk_a0 rfl hl.1 (Nat.le_of_ble_eq_true rfl) ⟨Nat.le_of_ble_eq_true rfl, Nat.le_of_ble_eq_true rfl⟩ hK hRO hA hP hS (fun H locs hP hS => ?_)
    refine W.eq (g2 := F0 m 87 ls []) rfl ?_
    refine lv_aload_n hx hb dX3_read_87 rfl (lv_at hl 1 rfl) ?_
    refine lv_iconst (v := 0) hx hb dX3_read_88 (by decide) ?_
    obtain ⟨hk_a0, Hf⟩ := c_g_some Hf
    obtain ⟨r89, T89, hq89, Hf⟩ := c_c_some Hf
    refine r_cV (n := 1) (As := [.int 0]) (rest := []) ⟨hx, hb, hml, hown, hts⟩ (s_X3_expr l X 8 hq89) lkm_X3_68 (by decide +kernel) rfl (by decide) dX3_read_89 rfl rfl ⟨Nat.le_of_ble_eq_true rfl, Nat.le_of_ble_eq_true rfl⟩ hk_a0 rfl hl.1 (Nat.le_of_ble_eq_true rfl) ⟨Nat.le_of_ble_eq_true rfl, Nat.le_of_ble_eq_true rfl⟩ hK hRO hA hP hS (fun H locs hP hS => ?_)
    refine W.eq (g2 := F0 m 92 ls []) rfl ?_
    refine lv_aload_n hx hb dX3_read_92 rfl (lv_at hl 1 rfl) ?_
    refine lv_iconst (v := 5) hx hb dX3_read_93 (by decide) ?_
    obtain ⟨hk_a0, Hf⟩ := c_g_some Hf
    obtain ⟨r94, T94, hq94, Hf⟩ := c_c_some Hf
    refine r_cV (n := 1) (As := [.int 5]) (rest := []) ⟨hx, hb, hml, hown, hts⟩ (s_X3_take l X hq94) lkm_X3_61 (by decide +kernel) rfl (by decide) dX3_read_94 rfl rfl ⟨Nat.le_of_ble_eq_true rfl, Nat.le_of_ble_eq_true rfl⟩ hk_a0 rfl hl.1 (Nat.le_of_ble_eq_true rfl) ⟨Nat.le_of_ble_eq_true rfl, Nat.le_of_ble_eq_true rfl⟩ hK hRO hA hP hS (fun H locs hP hS => ?_)
    refine W.eq (g2 := F0 m 97 ls []) rfl ?_
    refine lv_aload_n hx hb dX3_read_97 rfl (lv_at hl 1 rfl) ?_
    refine lv_iload_n hx hb dX3_read_98 rfl (lv_at hl 0 rfl) ?_
    obtain ⟨hk_a0, Hf⟩ := c_g_some Hf
    obtain ⟨r99, T99, hq99, Hf⟩ := c_c_some Hf
    refine r_cV (n := 1) (As := [.int r77]) (rest := []) ⟨hx, hb, hml, hown, hts⟩ (s_X3_endRule l X hq99) lkm_X3_71 (by decide +kernel) rfl (by decide) dX3_read_99 rfl rfl ⟨Nat.le_of_ble_eq_true rfl, Nat.le_of_ble_eq_true rfl⟩ hk_a0 rfl hl.1 (Nat.le_of_ble_eq_true rfl) ⟨Nat.le_of_ble_eq_true rfl, Nat.le_of_ble_eq_true rfl⟩ hK hRO hA hP hS (fun H locs hP hS => ?_)
    refine W.eq (g2 := F0 m 102 ls []) rfl ?_
    refine lv_iinc (v := (y2_35 + 1)) (lv' := [(2, .int (y2_35 + 1)), (3, .int r77), (0, .ref a0)]) hx hb dX3_read_102 hl (k := 2) rfl rfl (by decide) rfl (fun ls hl => ?_)
    refine lv_goto hx hb dX3_read_105 (tgt := 35) (by decide) ?_
    exact hrec35 (T99, (y2_35 + 1)) Hf _ _ _ hP hS (lv_sub hl [2, 0] rfl)
  have Hf := c_i_f Hf hc
  refine lv_aload_n hx hb dX3_read_59 rfl (lv_at hl 0 rfl) ?_
  refine lv_iconst (v := 5) hx hb dX3_read_60 (by decide) ?_
  obtain ⟨r61, T61, hq61, Hf⟩ := c_c_some Hf
  refine r_cV (n := 1) (As := [.int 5]) (rest := []) ⟨hx, hb, hml, hown, hts⟩ (s_X3_fail l X hq61) lkm_X3_58 (by decide +kernel) rfl (by decide) dX3_read_61 rfl rfl ⟨Nat.le_of_ble_eq_true rfl, Nat.le_of_ble_eq_true rfl⟩ hk_a0 rfl hl.1 (Nat.le_of_ble_eq_true rfl) ⟨Nat.le_of_ble_eq_true rfl, Nat.le_of_ble_eq_true rfl⟩ hK hRO hA hP hS (fun H locs hP hS => ?_)
  refine W.eq (g2 := F0 m 64 ls []) rfl ?_
  refine lv_goto hx hb dX3_read_64 (tgt := 108) (by decide) ?_
  exact hJ108 T61 Hf _ _ _ hP hS (lv_sub hl [0] rfl)

set_option maxRecDepth 100000 in
def f_X8_text (S : st_T) (a0 : Nat) : Option (Int32 × st_T) :=
  (c_g (st_K S a0 = 10) (c_n (st_fr S 902 a0) (fun (q1 : Nat) => (c_g (st_K S q1 = 1) (c_c (f_Jx4a65c_size_8abf5 S q1) (fun (r4 : Int32) (T4 : st_T) => (c_i (r4 < 8) (c_g (st_K T4 a0 = 10) (c_n (st_fr T4 905 a0) (fun (q23 : Nat) => (c_n (st_fr T4 904 a0) (fun (q27 : Nat) => (c_g (st_K T4 q23 = 5) (c_c (f_X3_read T4 q23 q27) (fun (r30 : Int32) (T30 : st_T) => (c_g (st_K T30 a0 = 10) (c_n (st_fr T30 904 a0) (fun (q35 : Nat) => (c_g (st_K T30 q35 = 6) (c_l (st_pi T30 501 q35 0) (fun (S_39 : st_T) => (c_i (r30 = 0) (c_n (st_fr S_39 902 a0) (fun (q47 : Nat) => (c_n (st_fr S_39 905 a0) (fun (q51 : Nat) => (c_g (st_K S_39 q51 = 5) (c_c (f_X3_makeText S_39 q51) (fun (r54 : Option Nat) (T54 : st_T) => (c_n r54 (fun (p54 : Nat) => (c_g (st_K T54 q47 = 1) (c_c (f_Jx4a65c_add_9ea2d T54 q47 p54) (fun (r57 : Int32) (T57 : st_T) => (c_g (st_K T57 a0 = 10) (c_n (st_fr T57 902 a0) (fun (q63 : Nat) => (c_g (st_K T57 q63 = 1) (c_c (f_Jx4a65c_size_8abf5 T57 q63) (fun (r66 : Int32) (T66 : st_T) => (c_g (st_K T66 a0 = 10) (c_c (f_X8_putInForce T66 a0 (r66 - 1)) (fun (r71 : Unit) (T71 : st_T) => (some (r30, T71))))))))))))))))))))))) (some (r30, S_39))))))))))))))))) (c_g (st_K T4 a0 = 10) (c_n (st_fr T4 904 a0) (fun (q13 : Nat) => (c_g (st_K T4 q13 = 6) (c_l (st_pi T4 501 q13 0) (fun (S_17 : st_T) => (some ((-1), S_17)))))))))))))))
set_option maxRecDepth 100000 in
set_option maxHeartbeats 4000000 in
theorem s_X8_text (l : Launch) (X : st_I) {S SE : st_T} {a0 : Nat} {rr : Int32} (Hf : f_X8_text S a0 = some (rr, SE)) : Met l yX8_text (Cond.code yX8_text cX8_text 2 (some .int) :: lw_g) { frames := 44, cells := 6, slots := 3269, locals := 1205 } (st_P X S [.ref a0]) (st_Q X (st_A S) (some (.int rr)) SE) 6 3269 (st_A S) := by
  refine st_ofW (by decide) (Nat.le_of_ble_eq_true rfl) ?_
  intro p e s m args below meth c hx hb hr hml hlocks hnm hts hown hK hRO hA hP hS ls hl
  have hown : s.vm.findClass RX8 = some m.cls := hown
  have hl : lv_has ls 2 [(0, .ref a0)] := hl
  unfold f_X8_text at Hf
  refine lv_aload_n hx hb dX8_text_0 rfl (lv_at hl 0 rfl) ?_
  obtain ⟨hk_a0, Hf⟩ := c_g_some Hf
  obtain ⟨q1, hq1, Hf⟩ := c_n_some Hf
  refine fg_9_2 hx hb hts hown hK hP hk_a0 lkf_X8_23 hq1 dX8_text_1 ?_
  obtain ⟨hk_q1, Hf⟩ := c_g_some Hf
  obtain ⟨r4, T4, hq4, Hf⟩ := c_c_some Hf
  refine r_cV (n := 0) (As := []) (rest := []) ⟨hx, hb, hml, hown, hts⟩ (s_Jx4a65c_size_8abf5 l X hq4) lkm_X8_81 (by decide +kernel) rfl (by decide) dX8_text_4 rfl rfl ⟨Nat.le_of_ble_eq_true rfl, Nat.le_of_ble_eq_true rfl⟩ hk_q1 rfl hl.1 (Nat.le_of_ble_eq_true rfl) ⟨Nat.le_of_ble_eq_true rfl, Nat.le_of_ble_eq_true rfl⟩ hK hRO hA hP hS (fun H locs hP hS => ?_)
  refine W.eq (g2 := F0 m 7 ls [.int r4]) rfl ?_
  refine lv_bipush (v := 8) hx hb dX8_text_7 (by decide) ?_
  refine lv_icmp_lt hx hb dX8_text_9 (tgt := 22) (by decide) (fun hc => ?_) (fun hc => ?_)
  · have Hf := c_i_t Hf hc
    refine lv_aload_n hx hb dX8_text_22 rfl (lv_at hl 0 rfl) ?_
    obtain ⟨hk_a0, Hf⟩ := c_g_some Hf
    obtain ⟨q23, hq23, Hf⟩ := c_n_some Hf
    refine fg_9_5 hx hb hts hown hK hP hk_a0 lkf_X8_45 hq23 dX8_text_23 ?_
    refine lv_aload_n hx hb dX8_text_26 rfl (lv_at hl 0 rfl) ?_
    obtain ⟨q27, hq27, Hf⟩ := c_n_some Hf
    refine fg_9_4 hx hb hts hown hK hP hk_a0 lkf_X8_38 hq27 dX8_text_27 ?_
    obtain ⟨hk_q23, Hf⟩ := c_g_some Hf
    obtain ⟨r30, T30, hq30, Hf⟩ := c_c_some Hf
    refine r_cV (n := 1) (As := [.ref q27]) (rest := []) ⟨hx, hb, hml, hown, hts⟩ (s_X3_read l X hq30) lkm_X8_129 (by decide +kernel) rfl (by decide) dX8_text_30 rfl rfl ⟨Nat.le_of_ble_eq_true rfl, Nat.le_of_ble_eq_true rfl⟩ hk_q23 rfl hl.1 (Nat.le_of_ble_eq_true rfl) ⟨Nat.le_of_ble_eq_true rfl, Nat.le_of_ble_eq_true rfl⟩ hK hRO hA hP hS (fun H locs hP hS => ?_)
    refine W.eq (g2 := F0 m 33 ls [.int r30]) rfl ?_
    refine lv_istore_n (lv' := [(1, .int r30), (0, .ref a0)]) hx hb dX8_text_33 rfl hl (by decide) rfl (fun ls hl => ?_)
    refine lv_aload_n hx hb dX8_text_34 rfl (lv_at hl 1 rfl) ?_
    obtain ⟨hk_a0, Hf⟩ := c_g_some Hf
    obtain ⟨q35, hq35, Hf⟩ := c_n_some Hf
    refine fg_9_4 hx hb hts hown hK hP hk_a0 lkf_X8_38 hq35 dX8_text_35 ?_
    refine lv_iconst (v := 0) hx hb dX8_text_38 (by decide) ?_
    obtain ⟨hk_q35, Hf⟩ := c_g_some Hf
    refine fp_5_1 hx hb hts hown hK hP hS hk_q35 lkf_X8_127 dX8_text_39 (fun H locs hP hS => ?_)
    obtain ⟨S_39, eS_39, Hf⟩ := c_l_ex Hf
    have hP : st_HP X (st_A S) S_39 H := by rw [eS_39]; exact hP
    refine lv_iload_n hx hb dX8_text_42 rfl (lv_at hl 0 rfl) ?_
    refine lv_if_ne hx hb dX8_text_43 (tgt := 74) (by decide) (fun hc => ?_) (fun hc => ?_)
    · have Hf := c_i_f Hf hc
      refine lv_iload_n hx hb dX8_text_74 rfl (lv_at hl 0 rfl) ?_
      cases Hf
      exact r_iret hx hb hr rfl hlocks dX8_text_75 (Nat.le_of_ble_eq_true rfl) (Nat.le_of_ble_eq_true rfl) hP hS
    have Hf := c_i_t Hf hc
    refine lv_aload_n hx hb dX8_text_46 rfl (lv_at hl 1 rfl) ?_
    have hk_a0 : st_K S_39 a0 = 10 := by rw [kp_pi eS_39]; exact hk_a0
    obtain ⟨q47, hq47, Hf⟩ := c_n_some Hf
    refine fg_9_2 hx hb hts hown hK hP hk_a0 lkf_X8_23 hq47 dX8_text_47 ?_
    refine lv_aload_n hx hb dX8_text_50 rfl (lv_at hl 1 rfl) ?_
    obtain ⟨q51, hq51, Hf⟩ := c_n_some Hf
    refine fg_9_5 hx hb hts hown hK hP hk_a0 lkf_X8_45 hq51 dX8_text_51 ?_
    obtain ⟨hk_q51, Hf⟩ := c_g_some Hf
    obtain ⟨r54, T54, hq54, Hf⟩ := c_c_some Hf
    refine r_cV (n := 0) (As := []) (rest := [.ref q47]) ⟨hx, hb, hml, hown, hts⟩ (s_X3_makeText l X hq54) lkm_X8_133 (by decide +kernel) rfl (by decide) dX8_text_54 rfl rfl ⟨Nat.le_of_ble_eq_true rfl, Nat.le_of_ble_eq_true rfl⟩ hk_q51 rfl hl.1 (Nat.le_of_ble_eq_true rfl) ⟨Nat.le_of_ble_eq_true rfl, Nat.le_of_ble_eq_true rfl⟩ hK hRO hA hP hS (fun H locs hP hS => ?_)
    obtain ⟨p54, ep54, Hf⟩ := c_n_some Hf
    subst ep54
    refine W.eq (g2 := F0 m 57 ls [.ref p54, .ref q47]) rfl ?_
    obtain ⟨hk_q47, Hf⟩ := c_g_some Hf
    obtain ⟨r57, T57, hq57, Hf⟩ := c_c_some Hf
    refine r_cV (n := 1) (As := [.ref p54]) (rest := []) ⟨hx, hb, hml, hown, hts⟩ (s_Jx4a65c_add_9ea2d l X hq57) lkm_X8_100 (by decide +kernel) rfl (by decide) dX8_text_57 rfl rfl ⟨Nat.le_of_ble_eq_true rfl, Nat.le_of_ble_eq_true rfl⟩ hk_q47 rfl hl.1 (Nat.le_of_ble_eq_true rfl) ⟨Nat.le_of_ble_eq_true rfl, Nat.le_of_ble_eq_true rfl⟩ hK hRO hA hP hS (fun H locs hP hS => ?_)
    refine W.eq (g2 := F0 m 60 ls [.int r57]) rfl ?_
    refine lv_pop hx hb dX8_text_60 rfl ?_
    refine lv_aload_n hx hb dX8_text_61 rfl (lv_at hl 1 rfl) ?_
    refine lv_aload_n hx hb dX8_text_62 rfl (lv_at hl 1 rfl) ?_
    obtain ⟨hk_a0, Hf⟩ := c_g_some Hf
    obtain ⟨q63, hq63, Hf⟩ := c_n_some Hf
    refine fg_9_2 hx hb hts hown hK hP hk_a0 lkf_X8_23 hq63 dX8_text_63 ?_
    obtain ⟨hk_q63, Hf⟩ := c_g_some Hf
    obtain ⟨r66, T66, hq66, Hf⟩ := c_c_some Hf
    refine r_cV (n := 0) (As := []) (rest := [.ref a0]) ⟨hx, hb, hml, hown, hts⟩ (s_Jx4a65c_size_8abf5 l X hq66) lkm_X8_81 (by decide +kernel) rfl (by decide) dX8_text_66 rfl rfl ⟨Nat.le_of_ble_eq_true rfl, Nat.le_of_ble_eq_true rfl⟩ hk_q63 rfl hl.1 (Nat.le_of_ble_eq_true rfl) ⟨Nat.le_of_ble_eq_true rfl, Nat.le_of_ble_eq_true rfl⟩ hK hRO hA hP hS (fun H locs hP hS => ?_)
    refine W.eq (g2 := F0 m 69 ls [.int r66, .ref a0]) rfl ?_
    refine lv_iconst (v := 1) hx hb dX8_text_69 (by decide) ?_
    refine lv_isub hx hb dX8_text_70 ?_
    obtain ⟨hk_a0, Hf⟩ := c_g_some Hf
    obtain ⟨r71, T71, hq71, Hf⟩ := c_c_some Hf
    refine r_cV (n := 1) (As := [.int (r66 - 1)]) (rest := []) ⟨hx, hb, hml, hown, hts⟩ (s_X8_putInForce l X hq71) lkm_X8_137 (by decide +kernel) rfl (by decide) dX8_text_71 rfl rfl ⟨Nat.le_of_ble_eq_true rfl, Nat.le_of_ble_eq_true rfl⟩ hk_a0 rfl hl.1 (Nat.le_of_ble_eq_true rfl) ⟨Nat.le_of_ble_eq_true rfl, Nat.le_of_ble_eq_true rfl⟩ hK hRO hA hP hS (fun H locs hP hS => ?_)
    refine W.eq (g2 := F0 m 74 ls []) rfl ?_
    refine lv_iload_n hx hb dX8_text_74 rfl (lv_at hl 0 rfl) ?_
    cases Hf
    exact r_iret hx hb hr rfl hlocks dX8_text_75 (Nat.le_of_ble_eq_true rfl) (Nat.le_of_ble_eq_true rfl) hP hS
  have Hf := c_i_f Hf hc
  refine lv_aload_n hx hb dX8_text_12 rfl (lv_at hl 0 rfl) ?_
  obtain ⟨hk_a0, Hf⟩ := c_g_some Hf
  obtain ⟨q13, hq13, Hf⟩ := c_n_some Hf
  refine fg_9_4 hx hb hts hown hK hP hk_a0 lkf_X8_38 hq13 dX8_text_13 ?_
  refine lv_iconst (v := 0) hx hb dX8_text_16 (by decide) ?_
  obtain ⟨hk_q13, Hf⟩ := c_g_some Hf
  refine fp_5_1 hx hb hts hown hK hP hS hk_q13 lkf_X8_127 dX8_text_17 (fun H locs hP hS => ?_)
  obtain ⟨S_17, eS_17, Hf⟩ := c_l_ex Hf
  have hP : st_HP X (st_A S) S_17 H := by rw [eS_17]; exact hP
  refine lv_iconst (v := (-1)) hx hb dX8_text_20 (by decide) ?_
  cases Hf
  exact r_iret hx hb hr rfl hlocks dX8_text_21 (Nat.le_of_ble_eq_true rfl) (Nat.le_of_ble_eq_true rfl) hP hS
