set_option maxRecDepth 100000 in
def f_X0_joinTop (S : st_T) (a0 : Nat) (x1 : Int32) : Option (Unit × st_T) :=
  (c_g (st_K S a0 = 2) (c_i ((st_fi S 102 a0) < 2) (some ((), S)) (c_i (16 < (st_fi S 102 a0)) (some ((), S)) (c_l (st_pi S 102 a0 ((st_fi S 102 a0) - 1)) (fun (S_24 : st_T) => (c_n (st_fr S_24 101 a0) (fun (q28 : Nat) => (c_g (st_K S_24 q28 = 20) (c_g (c_in ((st_fi S_24 102 a0) - 1) (st_ln S_24 q28)) (c_g (c_in (st_fi S_24 102 a0) (st_ln S_24 q28)) (c_c (f_X0_joined S_24 x1 (st_ri S_24 q28 (((st_fi S_24 102 a0) - 1) : Int32).toNatClampNeg) (st_ri S_24 q28 ((st_fi S_24 102 a0) : Int32).toNatClampNeg)) (fun (r58 : Int32) (T58 : st_T) => (c_g (st_K T58 q28 = 20) (c_g (c_in ((st_fi S_24 102 a0) - 1) (st_ln T58 q28)) (c_l (st_wi T58 q28 (((st_fi S_24 102 a0) - 1) : Int32).toNatClampNeg r58) (fun (S_61 : st_T) => (some ((), S_61))))))))))))))))))
set_option maxRecDepth 100000 in
set_option maxHeartbeats 4000000 in
theorem s_X0_joinTop (l : Launch) (X : st_I) {S SE : st_T} {a0 : Nat} {x1 : Int32} {rr : Unit} (Hf : f_X0_joinTop S a0 x1 = some (rr, SE)) : Met l yX0_joinTop (Cond.code yX0_joinTop cX0_joinTop 2 (none) :: lw_g) { frames := 2, cells := 0, slots := 0, locals := 42 } (st_P X S [.ref a0, .int x1]) (st_Q X (st_A S) none SE) 0 0 (st_A S) := by
  refine st_ofW (by decide) (Nat.le_of_ble_eq_true rfl) ?_
  intro p e s m args below meth c hx hb hr hml hlocks hnm hts hown hK hRO hA hP hS ls hl
  have hown : s.vm.findClass RX0 = some m.cls := hown
  have hl : lv_has ls 2 [(0, .ref a0), (1, .int x1)] := hl
  unfold f_X0_joinTop at Hf
  refine lv_aload_n hx hb dX0_joinTop_0 rfl (lv_at hl 0 rfl) ?_
  obtain ⟨hk_a0, Hf⟩ := c_g_some Hf
  refine fg_1_2 hx hb hts hown hK hP hk_a0 lkf_X0_15 dX0_joinTop_1 ?_
  refine lv_iconst (v := 2) hx hb dX0_joinTop_4 (by decide) ?_
  refine lv_icmp_lt hx hb dX0_joinTop_5 (tgt := 62) (by decide) (fun hc => ?_) (fun hc => ?_)
  · have Hf := c_i_t Hf hc
    cases Hf
    exact r_vret hx hb hr rfl hlocks dX0_joinTop_62 (Nat.le_of_ble_eq_true rfl) (Nat.le_of_ble_eq_true rfl) hP hS
  have Hf := c_i_f Hf hc
  refine lv_aload_n hx hb dX0_joinTop_8 rfl (lv_at hl 0 rfl) ?_
  refine fg_1_2 hx hb hts hown hK hP hk_a0 lkf_X0_15 dX0_joinTop_9 ?_
  refine lv_bipush (v := 16) hx hb dX0_joinTop_12 (by decide) ?_
  refine lv_icmp_gt hx hb dX0_joinTop_14 (tgt := 62) (by decide) (fun hc => ?_) (fun hc => ?_)
  · have Hf := c_i_t Hf hc
    cases Hf
    exact r_vret hx hb hr rfl hlocks dX0_joinTop_62 (Nat.le_of_ble_eq_true rfl) (Nat.le_of_ble_eq_true rfl) hP hS
  have Hf := c_i_f Hf hc
  refine lv_aload_n hx hb dX0_joinTop_17 rfl (lv_at hl 0 rfl) ?_
  refine lv_dup hx hb dX0_joinTop_18 rfl ?_
  refine fg_1_2 hx hb hts hown hK hP hk_a0 lkf_X0_15 dX0_joinTop_19 ?_
  refine lv_iconst (v := 1) hx hb dX0_joinTop_22 (by decide) ?_
  refine lv_isub hx hb dX0_joinTop_23 ?_
  refine fp_1_2 hx hb hts hown hK hP hS hk_a0 lkf_X0_15 dX0_joinTop_24 (fun H locs hP hS => ?_)
  obtain ⟨S_24, eS_24, Hf⟩ := c_l_ex Hf
  have hP : st_HP X (st_A S) S_24 H := by rw [eS_24]; exact hP
  refine lv_aload_n hx hb dX0_joinTop_27 rfl (lv_at hl 0 rfl) ?_
  have hk_a0 : st_K S_24 a0 = 2 := by rw [kp_pi eS_24]; exact hk_a0
  obtain ⟨q28, hq28, Hf⟩ := c_n_some Hf
  refine fg_1_1 hx hb hts hown hK hP hk_a0 lkf_X0_9 hq28 dX0_joinTop_28 ?_
  refine lv_aload_n hx hb dX0_joinTop_31 rfl (lv_at hl 0 rfl) ?_
  refine fg_1_2 hx hb hts hown hK hP hk_a0 lkf_X0_15 dX0_joinTop_32 ?_
  refine lv_iconst (v := 1) hx hb dX0_joinTop_35 (by decide) ?_
  refine lv_isub hx hb dX0_joinTop_36 ?_
  refine lv_iload_n hx hb dX0_joinTop_37 rfl (lv_at hl 1 rfl) ?_
  refine lv_aload_n hx hb dX0_joinTop_38 rfl (lv_at hl 0 rfl) ?_
  refine fg_1_1 hx hb hts hown hK hP hk_a0 lkf_X0_9 hq28 dX0_joinTop_39 ?_
  refine lv_aload_n hx hb dX0_joinTop_42 rfl (lv_at hl 0 rfl) ?_
  refine fg_1_2 hx hb hts hown hK hP hk_a0 lkf_X0_15 dX0_joinTop_43 ?_
  refine lv_iconst (v := 1) hx hb dX0_joinTop_46 (by decide) ?_
  refine lv_isub hx hb dX0_joinTop_47 ?_
  obtain ⟨hk_q28, Hf⟩ := c_g_some Hf
  obtain ⟨hi48, Hf⟩ := c_g_some Hf
  refine r_iald hx hb hK hP hk_q28 hi48 dX0_joinTop_48 ?_
  refine lv_aload_n hx hb dX0_joinTop_49 rfl (lv_at hl 0 rfl) ?_
  refine fg_1_1 hx hb hts hown hK hP hk_a0 lkf_X0_9 hq28 dX0_joinTop_50 ?_
  refine lv_aload_n hx hb dX0_joinTop_53 rfl (lv_at hl 0 rfl) ?_
  refine fg_1_2 hx hb hts hown hK hP hk_a0 lkf_X0_15 dX0_joinTop_54 ?_
  obtain ⟨hi57, Hf⟩ := c_g_some Hf
  refine r_iald hx hb hK hP hk_q28 hi57 dX0_joinTop_57 ?_
  obtain ⟨r58, T58, hq58, Hf⟩ := c_c_some Hf
  refine r_cS (n := 3) (As := [.int x1, .int (st_ri S_24 q28 (((st_fi S_24 102 a0) - 1) : Int32).toNatClampNeg), .int (st_ri S_24 q28 ((st_fi S_24 102 a0) : Int32).toNatClampNeg)]) (rest := [.int ((st_fi S_24 102 a0) - 1), .ref q28]) ⟨hx, hb, hml, hown, hts⟩ (s_X0_joined l X hq58) lkm_X0_122 (by decide +kernel) dX0_joinTop_58 rfl rfl ⟨Nat.le_of_ble_eq_true rfl, Nat.le_of_ble_eq_true rfl⟩ rfl hl.1 (Nat.le_of_ble_eq_true rfl) ⟨Nat.le_of_ble_eq_true rfl, Nat.le_of_ble_eq_true rfl⟩ hK hRO hA hP hS (fun H locs hP hS => ?_)
  refine W.eq (g2 := F0 m 61 ls [.int r58, .int ((st_fi S_24 102 a0) - 1), .ref q28]) rfl ?_
  obtain ⟨hk_q28, Hf⟩ := c_g_some Hf
  obtain ⟨hi61, Hf⟩ := c_g_some Hf
  refine r_iast hx hb hK hP hS hk_q28 hi61 dX0_joinTop_61 (fun H locs hP hS => ?_)
  obtain ⟨S_61, eS_61, Hf⟩ := c_l_ex Hf
  have hP : st_HP X (st_A S) S_61 H := by rw [eS_61]; exact hP
  cases Hf
  exact r_vret hx hb hr rfl hlocks dX0_joinTop_62 (Nat.le_of_ble_eq_true rfl) (Nat.le_of_ble_eq_true rfl) hP hS

set_option maxRecDepth 100000 in
def f_X0_partOf (S : st_T) (a0 : Nat) (x1 : Int32) (x2 : Int32) (x3 : Nat) (x4 : Nat) : Option (Int32 × st_T) :=
  (c_i (x1 = 14) (c_g (st_K S a0 = 2) (c_n (st_fr S 100 a0) (fun (q57 : Nat) => (c_g (st_K S q57 = 9) (c_c (f_X7_isUnder S q57 (st_fi S 103 a0) x2) (fun (r65 : Int32) (T65 : st_T) => (c_c (f_X0_oneIf T65 r65) (fun (r68 : Int32) (T68 : st_T) => (some (r68, T68)))))))))) (c_i (x1 = 15) (c_g (st_K S a0 = 2) (c_n (st_fr S 100 a0) (fun (q73 : Nat) => (c_g (st_K S q73 = 9) (c_c (f_X7_isUnder S q73 (st_fi S 104 a0) x2) (fun (r81 : Int32) (T81 : st_T) => (c_c (f_X0_oneIf T81 r81) (fun (r84 : Int32) (T84 : st_T) => (some (r84, T84)))))))))) (c_i (x1 = 16) (c_g (st_K S a0 = 2) (c_n (st_fr S 100 a0) (fun (q89 : Nat) => (c_g (st_K S q89 = 9) (c_c (f_X7_isUnder S q89 (st_fi S 105 a0) x2) (fun (r97 : Int32) (T97 : st_T) => (c_c (f_X0_oneIf T97 r97) (fun (r100 : Int32) (T100 : st_T) => (some (r100, T100)))))))))) (c_i (x1 = 17) (c_g (st_K S x3 = 4) (some ((st_fi S 304 x3), S))) (c_i (x1 = 18) (c_g (st_K S x3 = 4) (c_c (f_J6_bitCount_0f7a4 S (st_fi S 305 x3)) (fun (r113 : Int32) (T113 : st_T) => (some (r113, T113))))) (c_i (x1 = 19) (c_g (st_K S x3 = 4) (some ((st_fi S 300 x3), S))) (c_i (x1 = 20) (c_g (st_K S x3 = 4) (c_c (f_X2_length S x3) (fun (r123 : Int32) (T123 : st_T) => (some (r123, T123))))) (c_i (x1 = 21) (c_g (st_K S a0 = 2) (some ((st_fi S 106 a0), S))) (c_i (x1 = 22) (c_g (st_K S x4 = 3) (some ((st_fi S 203 x4), S))) (c_i (x1 = 23) (c_g (st_K S x4 = 3) (some ((st_fi S 202 x4), S))) (some (x2, S))))))))))))
set_option maxRecDepth 100000 in
set_option maxHeartbeats 4000000 in
theorem s_X0_partOf (l : Launch) (X : st_I) {S SE : st_T} {a0 : Nat} {x1 : Int32} {x2 : Int32} {x3 : Nat} {x4 : Nat} {rr : Int32} (Hf : f_X0_partOf S a0 x1 x2 x3 x4 = some (rr, SE)) : Met l yX0_partOf (Cond.code yX0_partOf cX0_partOf 5 (some .int) :: lw_g) { frames := 1, cells := 0, slots := 0, locals := 24 } (st_P X S [.ref a0, .int x1, .int x2, .ref x3, .ref x4]) (st_Q X (st_A S) (some (.int rr)) SE) 0 0 (st_A S) := by
  refine st_ofW (by decide) (Nat.le_of_ble_eq_true rfl) ?_
  intro p e s m args below meth c hx hb hr hml hlocks hnm hts hown hK hRO hA hP hS ls hl
  have hown : s.vm.findClass RX0 = some m.cls := hown
  have hl : lv_has ls 5 [(0, .ref a0), (1, .int x1), (2, .int x2), (3, .ref x3), (4, .ref x4)] := hl
  unfold f_X0_partOf at Hf
  refine lv_iload_n hx hb dX0_partOf_0 rfl (lv_at hl 1 rfl) ?_
  by_cases hs14 : x1 = 14
  · have Hf := c_i_t Hf hs14
    refine lv_tableIn hx hb dX0_partOf_1 (by rw [hs14]; decide) (by rw [hs14]; decide) (off := 55) (by rw [hs14]; rfl) (tgt := 56) (by decide) ?_
    refine lv_aload_n hx hb dX0_partOf_56 rfl (lv_at hl 0 rfl) ?_
    obtain ⟨hk_a0, Hf⟩ := c_g_some Hf
    obtain ⟨q57, hq57, Hf⟩ := c_n_some Hf
    refine fg_1_0 hx hb hts hown hK hP hk_a0 lkf_X0_31 hq57 dX0_partOf_57 ?_
    refine lv_aload_n hx hb dX0_partOf_60 rfl (lv_at hl 0 rfl) ?_
    refine fg_1_3 hx hb hts hown hK hP hk_a0 lkf_X0_19 dX0_partOf_61 ?_
    refine lv_iload_n hx hb dX0_partOf_64 rfl (lv_at hl 2 rfl) ?_
    obtain ⟨hk_q57, Hf⟩ := c_g_some Hf
    obtain ⟨r65, T65, hq65, Hf⟩ := c_c_some Hf
    refine r_cV (n := 2) (As := [.int (st_fi S 103 a0), .int x2]) (rest := []) ⟨hx, hb, hml, hown, hts⟩ (s_X7_isUnder l X hq65) lkm_X0_130 (by decide +kernel) rfl (by decide) dX0_partOf_65 rfl rfl ⟨Nat.le_of_ble_eq_true rfl, Nat.le_of_ble_eq_true rfl⟩ hk_q57 rfl hl.1 (Nat.le_of_ble_eq_true rfl) ⟨Nat.le_of_ble_eq_true rfl, Nat.le_of_ble_eq_true rfl⟩ hK hRO hA hP hS (fun H locs hP hS => ?_)
    refine W.eq (g2 := F0 m 68 ls [.int r65]) rfl ?_
    obtain ⟨r68, T68, hq68, Hf⟩ := c_c_some Hf
    refine r_cS (n := 1) (As := [.int r65]) (rest := []) ⟨hx, hb, hml, hown, hts⟩ (s_X0_oneIf l X hq68) lkm_X0_126 (by decide +kernel) dX0_partOf_68 rfl rfl ⟨Nat.le_of_ble_eq_true rfl, Nat.le_of_ble_eq_true rfl⟩ rfl hl.1 (Nat.le_of_ble_eq_true rfl) ⟨Nat.le_of_ble_eq_true rfl, Nat.le_of_ble_eq_true rfl⟩ hK hRO hA hP hS (fun H locs hP hS => ?_)
    refine W.eq (g2 := F0 m 71 ls [.int r68]) rfl ?_
    cases Hf
    exact r_iret hx hb hr rfl hlocks dX0_partOf_71 (Nat.le_of_ble_eq_true rfl) (Nat.le_of_ble_eq_true rfl) hP hS
  have Hf := c_i_f Hf hs14
  by_cases hs15 : x1 = 15
  · have Hf := c_i_t Hf hs15
    refine lv_tableIn hx hb dX0_partOf_1 (by rw [hs15]; decide) (by rw [hs15]; decide) (off := 71) (by rw [hs15]; rfl) (tgt := 72) (by decide) ?_
    refine lv_aload_n hx hb dX0_partOf_72 rfl (lv_at hl 0 rfl) ?_
    obtain ⟨hk_a0, Hf⟩ := c_g_some Hf
    obtain ⟨q73, hq73, Hf⟩ := c_n_some Hf
    refine fg_1_0 hx hb hts hown hK hP hk_a0 lkf_X0_31 hq73 dX0_partOf_73 ?_
    refine lv_aload_n hx hb dX0_partOf_76 rfl (lv_at hl 0 rfl) ?_
    refine fg_1_4 hx hb hts hown hK hP hk_a0 lkf_X0_22 dX0_partOf_77 ?_
    refine lv_iload_n hx hb dX0_partOf_80 rfl (lv_at hl 2 rfl) ?_
    obtain ⟨hk_q73, Hf⟩ := c_g_some Hf
    obtain ⟨r81, T81, hq81, Hf⟩ := c_c_some Hf
    refine r_cV (n := 2) (As := [.int (st_fi S 104 a0), .int x2]) (rest := []) ⟨hx, hb, hml, hown, hts⟩ (s_X7_isUnder l X hq81) lkm_X0_130 (by decide +kernel) rfl (by decide) dX0_partOf_81 rfl rfl ⟨Nat.le_of_ble_eq_true rfl, Nat.le_of_ble_eq_true rfl⟩ hk_q73 rfl hl.1 (Nat.le_of_ble_eq_true rfl) ⟨Nat.le_of_ble_eq_true rfl, Nat.le_of_ble_eq_true rfl⟩ hK hRO hA hP hS (fun H locs hP hS => ?_)
    refine W.eq (g2 := F0 m 84 ls [.int r81]) rfl ?_
    obtain ⟨r84, T84, hq84, Hf⟩ := c_c_some Hf
    refine r_cS (n := 1) (As := [.int r81]) (rest := []) ⟨hx, hb, hml, hown, hts⟩ (s_X0_oneIf l X hq84) lkm_X0_126 (by decide +kernel) dX0_partOf_84 rfl rfl ⟨Nat.le_of_ble_eq_true rfl, Nat.le_of_ble_eq_true rfl⟩ rfl hl.1 (Nat.le_of_ble_eq_true rfl) ⟨Nat.le_of_ble_eq_true rfl, Nat.le_of_ble_eq_true rfl⟩ hK hRO hA hP hS (fun H locs hP hS => ?_)
    refine W.eq (g2 := F0 m 87 ls [.int r84]) rfl ?_
    cases Hf
    exact r_iret hx hb hr rfl hlocks dX0_partOf_87 (Nat.le_of_ble_eq_true rfl) (Nat.le_of_ble_eq_true rfl) hP hS
  have Hf := c_i_f Hf hs15
  by_cases hs16 : x1 = 16
  · have Hf := c_i_t Hf hs16
    refine lv_tableIn hx hb dX0_partOf_1 (by rw [hs16]; decide) (by rw [hs16]; decide) (off := 87) (by rw [hs16]; rfl) (tgt := 88) (by decide) ?_
    refine lv_aload_n hx hb dX0_partOf_88 rfl (lv_at hl 0 rfl) ?_
    obtain ⟨hk_a0, Hf⟩ := c_g_some Hf
    obtain ⟨q89, hq89, Hf⟩ := c_n_some Hf
    refine fg_1_0 hx hb hts hown hK hP hk_a0 lkf_X0_31 hq89 dX0_partOf_89 ?_
    refine lv_aload_n hx hb dX0_partOf_92 rfl (lv_at hl 0 rfl) ?_
    refine fg_1_5 hx hb hts hown hK hP hk_a0 lkf_X0_25 dX0_partOf_93 ?_
    refine lv_iload_n hx hb dX0_partOf_96 rfl (lv_at hl 2 rfl) ?_
    obtain ⟨hk_q89, Hf⟩ := c_g_some Hf
    obtain ⟨r97, T97, hq97, Hf⟩ := c_c_some Hf
    refine r_cV (n := 2) (As := [.int (st_fi S 105 a0), .int x2]) (rest := []) ⟨hx, hb, hml, hown, hts⟩ (s_X7_isUnder l X hq97) lkm_X0_130 (by decide +kernel) rfl (by decide) dX0_partOf_97 rfl rfl ⟨Nat.le_of_ble_eq_true rfl, Nat.le_of_ble_eq_true rfl⟩ hk_q89 rfl hl.1 (Nat.le_of_ble_eq_true rfl) ⟨Nat.le_of_ble_eq_true rfl, Nat.le_of_ble_eq_true rfl⟩ hK hRO hA hP hS (fun H locs hP hS => ?_)
    refine W.eq (g2 := F0 m 100 ls [.int r97]) rfl ?_
    obtain ⟨r100, T100, hq100, Hf⟩ := c_c_some Hf
    refine r_cS (n := 1) (As := [.int r97]) (rest := []) ⟨hx, hb, hml, hown, hts⟩ (s_X0_oneIf l X hq100) lkm_X0_126 (by decide +kernel) dX0_partOf_100 rfl rfl ⟨Nat.le_of_ble_eq_true rfl, Nat.le_of_ble_eq_true rfl⟩ rfl hl.1 (Nat.le_of_ble_eq_true rfl) ⟨Nat.le_of_ble_eq_true rfl, Nat.le_of_ble_eq_true rfl⟩ hK hRO hA hP hS (fun H locs hP hS => ?_)
    refine W.eq (g2 := F0 m 103 ls [.int r100]) rfl ?_
    cases Hf
    exact r_iret hx hb hr rfl hlocks dX0_partOf_103 (Nat.le_of_ble_eq_true rfl) (Nat.le_of_ble_eq_true rfl) hP hS
  have Hf := c_i_f Hf hs16
  by_cases hs17 : x1 = 17
  · have Hf := c_i_t Hf hs17
    refine lv_tableIn hx hb dX0_partOf_1 (by rw [hs17]; decide) (by rw [hs17]; decide) (off := 103) (by rw [hs17]; rfl) (tgt := 104) (by decide) ?_
    refine lv_aload_n hx hb dX0_partOf_104 rfl (lv_at hl 3 rfl) ?_
    obtain ⟨hk_x3, Hf⟩ := c_g_some Hf
    refine fg_3_4 hx hb hts hown hK hP hk_x3 lkf_X0_136 dX0_partOf_105 ?_
    cases Hf
    exact r_iret hx hb hr rfl hlocks dX0_partOf_108 (Nat.le_of_ble_eq_true rfl) (Nat.le_of_ble_eq_true rfl) hP hS
  have Hf := c_i_f Hf hs17
  by_cases hs18 : x1 = 18
  · have Hf := c_i_t Hf hs18
    refine lv_tableIn hx hb dX0_partOf_1 (by rw [hs18]; decide) (by rw [hs18]; decide) (off := 108) (by rw [hs18]; rfl) (tgt := 109) (by decide) ?_
    refine lv_aload_n hx hb dX0_partOf_109 rfl (lv_at hl 3 rfl) ?_
    obtain ⟨hk_x3, Hf⟩ := c_g_some Hf
    refine fg_3_5 hx hb hts hown hK hP hk_x3 lkf_X0_139 dX0_partOf_110 ?_
    obtain ⟨r113, T113, hq113, Hf⟩ := c_c_some Hf
    refine r_cX (n := 1) (As := [.int (st_fi S 305 x3)]) (rest := []) ⟨hx, hb, hml, hown, hts⟩ (s_J6_bitCount_0f7a4 l X hq113) lkm_X0_142 (by decide +kernel) dX0_partOf_113 rfl rfl ⟨Nat.le_of_ble_eq_true rfl, Nat.le_of_ble_eq_true rfl⟩ rfl hl.1 (Nat.le_of_ble_eq_true rfl) ⟨Nat.le_of_ble_eq_true rfl, Nat.le_of_ble_eq_true rfl⟩ hK hRO hA hP hS (fun H locs hP hS => ?_)
    refine W.eq (g2 := F0 m 116 ls [.int r113]) rfl ?_
    cases Hf
    exact r_iret hx hb hr rfl hlocks dX0_partOf_116 (Nat.le_of_ble_eq_true rfl) (Nat.le_of_ble_eq_true rfl) hP hS
  have Hf := c_i_f Hf hs18
  by_cases hs19 : x1 = 19
  · have Hf := c_i_t Hf hs19
    refine lv_tableIn hx hb dX0_partOf_1 (by rw [hs19]; decide) (by rw [hs19]; decide) (off := 116) (by rw [hs19]; rfl) (tgt := 117) (by decide) ?_
    refine lv_aload_n hx hb dX0_partOf_117 rfl (lv_at hl 3 rfl) ?_
    obtain ⟨hk_x3, Hf⟩ := c_g_some Hf
    refine fg_3_0 hx hb hts hown hK hP hk_x3 lkf_X0_68 dX0_partOf_118 ?_
    cases Hf
    exact r_iret hx hb hr rfl hlocks dX0_partOf_121 (Nat.le_of_ble_eq_true rfl) (Nat.le_of_ble_eq_true rfl) hP hS
  have Hf := c_i_f Hf hs19
  by_cases hs20 : x1 = 20
  · have Hf := c_i_t Hf hs20
    refine lv_tableIn hx hb dX0_partOf_1 (by rw [hs20]; decide) (by rw [hs20]; decide) (off := 121) (by rw [hs20]; rfl) (tgt := 122) (by decide) ?_
    refine lv_aload_n hx hb dX0_partOf_122 rfl (lv_at hl 3 rfl) ?_
    obtain ⟨hk_x3, Hf⟩ := c_g_some Hf
    obtain ⟨r123, T123, hq123, Hf⟩ := c_c_some Hf
    refine r_cV (n := 0) (As := []) (rest := []) ⟨hx, hb, hml, hown, hts⟩ (s_X2_length l X hq123) lkm_X0_148 (by decide +kernel) rfl (by decide) dX0_partOf_123 rfl rfl ⟨Nat.le_of_ble_eq_true rfl, Nat.le_of_ble_eq_true rfl⟩ hk_x3 rfl hl.1 (Nat.le_of_ble_eq_true rfl) ⟨Nat.le_of_ble_eq_true rfl, Nat.le_of_ble_eq_true rfl⟩ hK hRO hA hP hS (fun H locs hP hS => ?_)
    refine W.eq (g2 := F0 m 126 ls [.int r123]) rfl ?_
    cases Hf
    exact r_iret hx hb hr rfl hlocks dX0_partOf_126 (Nat.le_of_ble_eq_true rfl) (Nat.le_of_ble_eq_true rfl) hP hS
  have Hf := c_i_f Hf hs20
  by_cases hs21 : x1 = 21
  · have Hf := c_i_t Hf hs21
    refine lv_tableIn hx hb dX0_partOf_1 (by rw [hs21]; decide) (by rw [hs21]; decide) (off := 126) (by rw [hs21]; rfl) (tgt := 127) (by decide) ?_
    refine lv_aload_n hx hb dX0_partOf_127 rfl (lv_at hl 0 rfl) ?_
    obtain ⟨hk_a0, Hf⟩ := c_g_some Hf
    refine fg_1_6 hx hb hts hown hK hP hk_a0 lkf_X0_28 dX0_partOf_128 ?_
    cases Hf
    exact r_iret hx hb hr rfl hlocks dX0_partOf_131 (Nat.le_of_ble_eq_true rfl) (Nat.le_of_ble_eq_true rfl) hP hS
  have Hf := c_i_f Hf hs21
  by_cases hs22 : x1 = 22
  · have Hf := c_i_t Hf hs22
    refine lv_tableIn hx hb dX0_partOf_1 (by rw [hs22]; decide) (by rw [hs22]; decide) (off := 131) (by rw [hs22]; rfl) (tgt := 132) (by decide) ?_
    refine lv_aload hx hb dX0_partOf_132 (lv_at hl 4 rfl) ?_
    obtain ⟨hk_x4, Hf⟩ := c_g_some Hf
    refine fg_2_3 hx hb hts hown hK hP hk_x4 lkf_X0_151 dX0_partOf_134 ?_
    cases Hf
    exact r_iret hx hb hr rfl hlocks dX0_partOf_137 (Nat.le_of_ble_eq_true rfl) (Nat.le_of_ble_eq_true rfl) hP hS
  have Hf := c_i_f Hf hs22
  by_cases hs23 : x1 = 23
  · have Hf := c_i_t Hf hs23
    refine lv_tableIn hx hb dX0_partOf_1 (by rw [hs23]; decide) (by rw [hs23]; decide) (off := 137) (by rw [hs23]; rfl) (tgt := 138) (by decide) ?_
    refine lv_aload hx hb dX0_partOf_138 (lv_at hl 4 rfl) ?_
    obtain ⟨hk_x4, Hf⟩ := c_g_some Hf
    refine fg_2_2 hx hb hts hown hK hP hk_x4 lkf_X0_154 dX0_partOf_140 ?_
    cases Hf
    exact r_iret hx hb hr rfl hlocks dX0_partOf_143 (Nat.le_of_ble_eq_true rfl) (Nat.le_of_ble_eq_true rfl) hP hS
  have Hf := c_i_f Hf hs23
  refine lv_tableOut hx hb dX0_partOf_1 (by have n14 := sw_ne 14 hs14 (n := 14) rfl; have n15 := sw_ne 15 hs15 (n := 15) rfl; have n16 := sw_ne 16 hs16 (n := 16) rfl; have n17 := sw_ne 17 hs17 (n := 17) rfl; have n18 := sw_ne 18 hs18 (n := 18) rfl; have n19 := sw_ne 19 hs19 (n := 19) rfl; have n20 := sw_ne 20 hs20 (n := 20) rfl; have n21 := sw_ne 21 hs21 (n := 21) rfl; have n22 := sw_ne 22 hs22 (n := 22) rfl; have n23 := sw_ne 23 hs23 (n := 23) rfl; omega) (tgt := 144) (by decide) ?_
  refine lv_iload_n hx hb dX0_partOf_144 rfl (lv_at hl 2 rfl) ?_
  cases Hf
  exact r_iret hx hb hr rfl hlocks dX0_partOf_145 (Nat.le_of_ble_eq_true rfl) (Nat.le_of_ble_eq_true rfl) hP hS

def j_X0_valueOf_89 (rec31 : st_T × Int32 → Option (Int32 × st_T)) (y7_31 : Int32) (S89 : st_T) : Option (Int32 × st_T) :=
  (rec31 (S89, (y7_31 + 1)))
def b_X0_valueOf_31 (a0 : Nat) (x1 : Nat) (x4 : Nat) (x5 : Nat) (z6_22 : Int32) (rec31 : st_T × Int32 → Option (Int32 × st_T)) (q : st_T × Int32) : Option (Int32 × st_T) :=
  (fun (S31 : st_T) (y7_31 : Int32) =>
  (c_i (z6_22 ≤ y7_31) (c_g (st_K S31 a0 = 2) (c_i ((st_fi S31 102 a0) = 1) (c_n (st_fr S31 101 a0) (fun (q104 : Nat) => (c_g (st_K S31 q104 = 20) (c_g (c_in 0 (st_ln S31 q104)) (some ((st_ri S31 q104 (0 : Int32).toNatClampNeg), S31)))))) (some (0, S31)))) (c_g (st_K S31 x1 = 7) (c_n (st_fr S31 602 x1) (fun (q39 : Nat) => (c_g (st_K S31 q39 = 20) (c_g (c_in y7_31 (st_ln S31 q39)) (c_l (st_ri S31 q39 (y7_31 : Int32).toNatClampNeg) (fun (z8_45 : Int32) => (c_c (f_X8_isWithin S31 z8_45 6 10) (fun (r53 : Int32) (T53 : st_T) => (c_i (r53 = 0) (c_g (st_K T53 x1 = 7) (c_n (st_fr T53 603 x1) (fun (q73 : Nat) => (c_g (st_K T53 q73 = 20) (c_g (c_in y7_31 (st_ln T53 q73)) (c_g (st_K T53 a0 = 2) (c_c (f_X0_partOf T53 a0 z8_45 (st_ri T53 q73 (y7_31 : Int32).toNatClampNeg) x4 x5) (fun (r83 : Int32) (T83 : st_T) => (c_g (st_K T83 a0 = 2) (c_c (f_X0_push T83 a0 r83) (fun (r86 : Unit) (T86 : st_T) => (j_X0_valueOf_89 rec31 y7_31 T86)))))))))))) (c_g (st_K T53 a0 = 2) (c_c (f_X0_joinTop T53 a0 z8_45) (fun (r62 : Unit) (T62 : st_T) => (j_X0_valueOf_89 rec31 y7_31 T62)))))))))))))))) q.1 q.2
set_option maxRecDepth 100000 in
def f_X0_valueOf (S : st_T) (a0 : Nat) (x1 : Nat) (x2 : Int32) (x3 : Int32) (x4 : Nat) (x5 : Nat) : Option (Int32 × st_T) :=
  (c_g (st_K S a0 = 2) (c_l (st_pi S 102 a0 0) (fun (S_2 : st_T) => (c_g (st_K S_2 x1 = 7) (c_n (st_fr S_2 602 x1) (fun (q7 : Nat) => (c_g ((20 ≤ st_K S_2 q7 ∧ st_K S_2 q7 < 25) ∨ st_K S_2 q7 = 30) (c_n (st_fr S_2 603 x1) (fun (q12 : Nat) => (c_g ((20 ≤ st_K S_2 q12 ∧ st_K S_2 q12 < 25) ∨ st_K S_2 q12 = 30) (c_l (if (if (nI (st_ln S_2 q12)) < (nI (st_ln S_2 q7)) then (nI (st_ln S_2 q12)) else (nI (st_ln S_2 q7))) < x3 then (if (nI (st_ln S_2 q12)) < (nI (st_ln S_2 q7)) then (nI (st_ln S_2 q12)) else (nI (st_ln S_2 q7))) else x3) (fun (z6_22 : Int32) => (c_l (if 0 < x2 then x2 else 0) (fun (z7_29 : Int32) => (c_w (b_X0_valueOf_31 a0 x1 x4 x5 z6_22) c_N (S_2, z7_29))))))))))))))))
set_option maxRecDepth 100000 in
set_option maxHeartbeats 4000000 in
theorem s_X0_valueOf (l : Launch) (X : st_I) {S SE : st_T} {a0 : Nat} {x1 : Nat} {x2 : Int32} {x3 : Int32} {x4 : Nat} {x5 : Nat} {rr : Int32} (Hf : f_X0_valueOf S a0 x1 x2 x3 x4 x5 = some (rr, SE)) : Met l yX0_valueOf (Cond.code yX0_valueOf cX0_valueOf 9 (some .int) :: lw_g) { frames := 3, cells := 0, slots := 0, locals := 63 } (st_P X S [.ref a0, .ref x1, .int x2, .int x3, .ref x4, .ref x5]) (st_Q X (st_A S) (some (.int rr)) SE) 0 0 (st_A S) := by
  refine st_ofW (by decide) (Nat.le_of_ble_eq_true rfl) ?_
  intro p e s m args below meth c hx hb hr hml hlocks hnm hts hown hK hRO hA hP hS ls hl
  have hown : s.vm.findClass RX0 = some m.cls := hown
  have hl : lv_has ls 9 [(0, .ref a0), (1, .ref x1), (2, .int x2), (3, .int x3), (4, .ref x4), (5, .ref x5)] := hl
  unfold f_X0_valueOf at Hf
  refine lv_aload_n hx hb dX0_valueOf_0 rfl (lv_at hl 0 rfl) ?_
  refine lv_iconst (v := 0) hx hb dX0_valueOf_1 (by decide) ?_
  obtain ⟨hk_a0, Hf⟩ := c_g_some Hf
  refine fp_1_2 hx hb hts hown hK hP hS hk_a0 lkf_X0_15 dX0_valueOf_2 (fun H locs hP hS => ?_)
  obtain ⟨S_2, eS_2, Hf⟩ := c_l_ex Hf
  have hP : st_HP X (st_A S) S_2 H := by rw [eS_2]; exact hP
  refine lv_iload_n hx hb dX0_valueOf_5 rfl (lv_at hl 3 rfl) ?_
  refine lv_aload_n hx hb dX0_valueOf_6 rfl (lv_at hl 1 rfl) ?_
  obtain ⟨hk_x1, Hf⟩ := c_g_some Hf
  obtain ⟨q7, hq7, Hf⟩ := c_n_some Hf
  refine fg_6_2 hx hb hts hown hK hP hk_x1 lkf_X0_92 hq7 dX0_valueOf_7 ?_
  obtain ⟨hl10, Hf⟩ := c_g_some Hf
  refine r_alen2 hx hb hK hRO hP hS hl10 dX0_valueOf_10 ?_
  refine lv_aload_n hx hb dX0_valueOf_11 rfl (lv_at hl 1 rfl) ?_
  obtain ⟨q12, hq12, Hf⟩ := c_n_some Hf
  refine fg_6_3 hx hb hts hown hK hP hk_x1 lkf_X0_95 hq12 dX0_valueOf_12 ?_
  obtain ⟨hl15, Hf⟩ := c_g_some Hf
  refine r_alen2 hx hb hK hRO hP hS hl15 dX0_valueOf_15 ?_
  refine va_mmin hx hb (hml.trans hl.1.symm) hown (hts _ (lg_1 737 rfl rfl)) (hts _ (lg_1 438 rfl rfl)) (hts _ (lg_1 80 rfl rfl)) (hts _ (lg_1 439 rfl rfl)) (Nat.le_of_ble_eq_true rfl) (Nat.le_of_ble_eq_true rfl) (Nat.le_of_ble_eq_true rfl) (Nat.le_of_ble_eq_true rfl) dX0_valueOf_16 ?_
  refine va_mmin hx hb (hml.trans hl.1.symm) hown (hts _ (lg_1 737 rfl rfl)) (hts _ (lg_1 438 rfl rfl)) (hts _ (lg_1 80 rfl rfl)) (hts _ (lg_1 439 rfl rfl)) (Nat.le_of_ble_eq_true rfl) (Nat.le_of_ble_eq_true rfl) (Nat.le_of_ble_eq_true rfl) (Nat.le_of_ble_eq_true rfl) dX0_valueOf_19 ?_
  refine lv_topi (fun z6_22 ez6_22 => ?_)
  have Hf := c_l_ren Hf ez6_22
  refine lv_istore (lv' := [(6, .int z6_22), (0, .ref a0), (1, .ref x1), (2, .int x2), (3, .int x3), (4, .ref x4), (5, .ref x5)]) hx hb dX0_valueOf_22 hl (by decide) rfl (fun ls hl => ?_)
  refine lv_iconst (v := 0) hx hb dX0_valueOf_24 (by decide) ?_
  refine lv_iload_n hx hb dX0_valueOf_25 rfl (lv_at hl 3 rfl) ?_
  refine va_mmax hx hb (hml.trans hl.1.symm) hown (hts _ (lg_1 738 rfl rfl)) (hts _ (lg_1 406 rfl rfl)) (hts _ (lg_1 80 rfl rfl)) (hts _ (lg_1 407 rfl rfl)) (Nat.le_of_ble_eq_true rfl) (Nat.le_of_ble_eq_true rfl) (Nat.le_of_ble_eq_true rfl) (Nat.le_of_ble_eq_true rfl) dX0_valueOf_26 ?_
  refine lv_topi (fun z7_29 ez7_29 => ?_)
  have Hf := c_l_ren Hf ez7_29
  refine lv_istore (lv' := [(7, .int z7_29), (6, .int z6_22), (0, .ref a0), (1, .ref x1), (2, .int x2), (3, .int x3), (4, .ref x4), (5, .ref x5)]) hx hb dX0_valueOf_29 hl (by decide) rfl (fun ls hl => ?_)
  refine (c_w_ind (P := fun (q : st_T × Int32) => ∀ (H : Heap) (locs : List Loc) (ls : Array Slot), st_HP X (st_A S) q.1 H → va_S (st_A S) s.heap H locs → lv_has ls 9 [(0, .ref a0), (1, .ref x1), (4, .ref x4), (5, .ref x5), (6, .int z6_22), (7, .int q.2)] → W p l e { frames := 3, cells := 0, slots := 0, locals := 63 } s m args below meth c H locs 0 0 (MQ below (st_Q X (st_A S) (some (.int rr)) SE) args s 0 0 (st_A S)) (F0 m 31 ls [])) ?_ _ _ Hf) _ _ _ hP hS (lv_sub hl [2, 3, 6, 7, 1, 0] rfl)
  intro rec31 hrec31 q Hf H locs ls hP hS hl
  obtain ⟨S31, y7_31⟩ := q
  unfold b_X0_valueOf_31 at Hf
  try dsimp only at Hf
  try dsimp only at hP
  try dsimp only at hl
  try dsimp only
  refine lv_iload hx hb dX0_valueOf_31 (lv_at hl 5 rfl) ?_
  refine lv_iload hx hb dX0_valueOf_33 (lv_at hl 4 rfl) ?_
  refine lv_icmp_ge hx hb dX0_valueOf_35 (tgt := 95) (by decide) (fun hc => ?_) (fun hc => ?_)
  · have Hf := c_i_t Hf hc
    refine lv_aload_n hx hb dX0_valueOf_95 rfl (lv_at hl 0 rfl) ?_
    obtain ⟨hk_a0, Hf⟩ := c_g_some Hf
    refine fg_1_2 hx hb hts hown hK hP hk_a0 lkf_X0_15 dX0_valueOf_96 ?_
    refine lv_iconst (v := 1) hx hb dX0_valueOf_99 (by decide) ?_
    refine lv_icmp_ne hx hb dX0_valueOf_100 (tgt := 112) (by decide) (fun hc => ?_) (fun hc => ?_)
    · have Hf := c_i_f Hf hc
      refine lv_iconst (v := 0) hx hb dX0_valueOf_112 (by decide) ?_
      cases Hf
      exact r_iret hx hb hr rfl hlocks dX0_valueOf_113 (Nat.le_of_ble_eq_true rfl) (Nat.le_of_ble_eq_true rfl) hP hS
    have Hf := c_i_t Hf hc
    refine lv_aload_n hx hb dX0_valueOf_103 rfl (lv_at hl 0 rfl) ?_
    obtain ⟨q104, hq104, Hf⟩ := c_n_some Hf
    refine fg_1_1 hx hb hts hown hK hP hk_a0 lkf_X0_9 hq104 dX0_valueOf_104 ?_
    refine lv_iconst (v := 0) hx hb dX0_valueOf_107 (by decide) ?_
    obtain ⟨hk_q104, Hf⟩ := c_g_some Hf
    obtain ⟨hi108, Hf⟩ := c_g_some Hf
    refine r_iald hx hb hK hP hk_q104 hi108 dX0_valueOf_108 ?_
    refine lv_goto hx hb dX0_valueOf_109 (tgt := 113) (by decide) ?_
    cases Hf
    exact r_iret hx hb hr rfl hlocks dX0_valueOf_113 (Nat.le_of_ble_eq_true rfl) (Nat.le_of_ble_eq_true rfl) hP hS
  have Hf := c_i_f Hf hc
  refine lv_aload_n hx hb dX0_valueOf_38 rfl (lv_at hl 1 rfl) ?_
  obtain ⟨hk_x1, Hf⟩ := c_g_some Hf
  obtain ⟨q39, hq39, Hf⟩ := c_n_some Hf
  refine fg_6_2 hx hb hts hown hK hP hk_x1 lkf_X0_92 hq39 dX0_valueOf_39 ?_
  refine lv_iload hx hb dX0_valueOf_42 (lv_at hl 5 rfl) ?_
  obtain ⟨hk_q39, Hf⟩ := c_g_some Hf
  obtain ⟨hi44, Hf⟩ := c_g_some Hf
  refine r_iald hx hb hK hP hk_q39 hi44 dX0_valueOf_44 ?_
  refine lv_topi (fun z8_45 ez8_45 => ?_)
  have Hf := c_l_ren Hf ez8_45
  refine lv_istore (lv' := [(8, .int z8_45), (0, .ref a0), (1, .ref x1), (4, .ref x4), (5, .ref x5), (6, .int z6_22), (7, .int y7_31)]) hx hb dX0_valueOf_45 hl (by decide) rfl (fun ls hl => ?_)
  refine lv_iload hx hb dX0_valueOf_47 (lv_at hl 0 rfl) ?_
  refine lv_bipush (v := 6) hx hb dX0_valueOf_49 (by decide) ?_
  refine lv_bipush (v := 10) hx hb dX0_valueOf_51 (by decide) ?_
  obtain ⟨r53, T53, hq53, Hf⟩ := c_c_some Hf
  refine r_cN (n := 3) (As := [.int z8_45, .int 6, .int 10]) (rest := []) ⟨hx, hb, hml, hown, hts⟩ (s_X8_isWithin l X hq53) lkm_X0_107 lkn_X0_107 (by decide +kernel) dX0_valueOf_53 rfl rfl ⟨Nat.le_of_ble_eq_true rfl, Nat.le_of_ble_eq_true rfl⟩ rfl hl.1 (Nat.le_of_ble_eq_true rfl) ⟨Nat.le_of_ble_eq_true rfl, Nat.le_of_ble_eq_true rfl⟩ hK hRO hA hP hS (fun H locs hP hS => ?_)
  refine W.eq (g2 := F0 m 56 ls [.int r53]) rfl ?_
  have hJ89 : ∀ (S89 : st_T), j_X0_valueOf_89 rec31 y7_31 S89 = some (rr, SE) → ∀ (H : Heap) (locs : List Loc) (ls : Array Slot), st_HP X (st_A S) S89 H → va_S (st_A S) s.heap H locs → lv_has ls 9 [(0, .ref a0), (1, .ref x1), (4, .ref x4), (5, .ref x5), (6, .int z6_22), (7, .int y7_31)] → W p l e { frames := 3, cells := 0, slots := 0, locals := 63 } s m args below meth c H locs 0 0 (MQ below (st_Q X (st_A S) (some (.int rr)) SE) args s 0 0 (st_A S)) (F0 m 89 ls []) := by
    intro S89 Hf H locs ls hP hS hl
    unfold j_X0_valueOf_89 at Hf
    refine lv_iinc (v := (y7_31 + 1)) (lv' := [(7, .int (y7_31 + 1)), (0, .ref a0), (1, .ref x1), (4, .ref x4), (5, .ref x5), (6, .int z6_22)]) hx hb dX0_valueOf_89 hl (k := 5) rfl rfl (by decide) rfl (fun ls hl => ?_)
    refine lv_goto hx hb dX0_valueOf_92 (tgt := 31) (by decide) ?_
    exact hrec31 (S89, (y7_31 + 1)) Hf _ _ _ hP hS (lv_sub hl [1, 2, 3, 4, 5, 0] rfl)
  refine lv_if_eq hx hb dX0_valueOf_56 (tgt := 68) (by decide) (fun hc => ?_) (fun hc => ?_)
  · have Hf := c_i_t Hf hc
    refine lv_aload_n hx hb dX0_valueOf_68 rfl (lv_at hl 1 rfl) ?_
    refine lv_aload_n hx hb dX0_valueOf_69 rfl (lv_at hl 1 rfl) ?_
    refine lv_iload hx hb dX0_valueOf_70 (lv_at hl 0 rfl) ?_
    refine lv_aload_n hx hb dX0_valueOf_72 rfl (lv_at hl 2 rfl) ?_
    obtain ⟨hk_x1, Hf⟩ := c_g_some Hf
    obtain ⟨q73, hq73, Hf⟩ := c_n_some Hf
    refine fg_6_3 hx hb hts hown hK hP hk_x1 lkf_X0_95 hq73 dX0_valueOf_73 ?_
    refine lv_iload hx hb dX0_valueOf_76 (lv_at hl 6 rfl) ?_
    obtain ⟨hk_q73, Hf⟩ := c_g_some Hf
    obtain ⟨hi78, Hf⟩ := c_g_some Hf
    refine r_iald hx hb hK hP hk_q73 hi78 dX0_valueOf_78 ?_
    refine lv_aload hx hb dX0_valueOf_79 (lv_at hl 3 rfl) ?_
    refine lv_aload hx hb dX0_valueOf_81 (lv_at hl 4 rfl) ?_
    obtain ⟨hk_a0, Hf⟩ := c_g_some Hf
    obtain ⟨r83, T83, hq83, Hf⟩ := c_c_some Hf
    refine r_cV (n := 4) (As := [.int z8_45, .int (st_ri T53 q73 (y7_31 : Int32).toNatClampNeg), .ref x4, .ref x5]) (rest := [.ref a0]) ⟨hx, hb, hml, hown, hts⟩ (s_X0_partOf l X hq83) lkm_X0_115 (by decide +kernel) rfl (by decide) dX0_valueOf_83 rfl rfl ⟨Nat.le_of_ble_eq_true rfl, Nat.le_of_ble_eq_true rfl⟩ hk_a0 rfl hl.1 (Nat.le_of_ble_eq_true rfl) ⟨Nat.le_of_ble_eq_true rfl, Nat.le_of_ble_eq_true rfl⟩ hK hRO hA hP hS (fun H locs hP hS => ?_)
    refine W.eq (g2 := F0 m 86 ls [.int r83, .ref a0]) rfl ?_
    obtain ⟨hk_a0, Hf⟩ := c_g_some Hf
    obtain ⟨r86, T86, hq86, Hf⟩ := c_c_some Hf
    refine r_cV (n := 1) (As := [.int r83]) (rest := []) ⟨hx, hb, hml, hown, hts⟩ (s_X0_push l X hq86) lkm_X0_119 (by decide +kernel) rfl (by decide) dX0_valueOf_86 rfl rfl ⟨Nat.le_of_ble_eq_true rfl, Nat.le_of_ble_eq_true rfl⟩ hk_a0 rfl hl.1 (Nat.le_of_ble_eq_true rfl) ⟨Nat.le_of_ble_eq_true rfl, Nat.le_of_ble_eq_true rfl⟩ hK hRO hA hP hS (fun H locs hP hS => ?_)
    refine W.eq (g2 := F0 m 89 ls []) rfl ?_
    exact hJ89 T86 Hf _ _ _ hP hS (lv_sub hl [1, 2, 3, 4, 5, 6] rfl)
  have Hf := c_i_f Hf hc
  refine lv_aload_n hx hb dX0_valueOf_59 rfl (lv_at hl 1 rfl) ?_
  refine lv_iload hx hb dX0_valueOf_60 (lv_at hl 0 rfl) ?_
  obtain ⟨hk_a0, Hf⟩ := c_g_some Hf
  obtain ⟨r62, T62, hq62, Hf⟩ := c_c_some Hf
  refine r_cV (n := 1) (As := [.int z8_45]) (rest := []) ⟨hx, hb, hml, hown, hts⟩ (s_X0_joinTop l X hq62) lkm_X0_111 (by decide +kernel) rfl (by decide) dX0_valueOf_62 rfl rfl ⟨Nat.le_of_ble_eq_true rfl, Nat.le_of_ble_eq_true rfl⟩ hk_a0 rfl hl.1 (Nat.le_of_ble_eq_true rfl) ⟨Nat.le_of_ble_eq_true rfl, Nat.le_of_ble_eq_true rfl⟩ hK hRO hA hP hS (fun H locs hP hS => ?_)
  refine W.eq (g2 := F0 m 65 ls []) rfl ?_
  refine lv_goto hx hb dX0_valueOf_65 (tgt := 89) (by decide) ?_
  exact hJ89 T62 Hf _ _ _ hP hS (lv_sub hl [1, 2, 3, 4, 5, 6] rfl)

def b_X0_codeAs_16 (a0 : Nat) (x3 : Nat) (x4 : Nat) (x5 : Nat) (rec16 : st_T × Int32 × Int32 → Option (Int32 × st_T)) (q : st_T × Int32 × Int32) : Option (Int32 × st_T) :=
  (fun (S16 : st_T) (y6_16 : Int32) (y7_16 : Int32) =>
  (c_g (st_K S16 x5 = 7) (c_n (st_fr S16 600 x5) (fun (q20 : Nat) => (c_g ((20 ≤ st_K S16 q20 ∧ st_K S16 q20 < 25) ∨ st_K S16 q20 = 30) (c_i ((nI (st_ln S16 q20)) ≤ y7_16) (some ((-1), S16)) (c_n (st_fr S16 601 x5) (fun (q31 : Nat) => (c_g ((20 ≤ st_K S16 q31 ∧ st_K S16 q31 < 25) ∨ st_K S16 q31 = 30) (c_i ((nI (st_ln S16 q31)) ≤ y7_16) (some ((-1), S16)) (c_g (st_K S16 q31 = 20) (c_g (c_in y7_16 (st_ln S16 q31)) (c_g (st_K S16 a0 = 2) (c_c (f_X0_valueOf S16 a0 x5 y6_16 (st_ri S16 q31 (y7_16 : Int32).toNatClampNeg) x3 x4) (fun (r54 : Int32) (T54 : st_T) => (c_i (r54 = 0) (c_g (st_K T54 x5 = 7) (c_n (st_fr T54 601 x5) (fun (q71 : Nat) => (c_g (st_K T54 q71 = 20) (c_g (c_in y7_16 (st_ln T54 q71)) (c_l (st_ri T54 q71 (y7_16 : Int32).toNatClampNeg) (fun (z6_77 : Int32) => (rec16 (T54, z6_77, (y7_16 + 1)))))))))) (c_g (st_K T54 x5 = 7) (c_n (st_fr T54 600 x5) (fun (q62 : Nat) => (c_g (st_K T54 q62 = 20) (c_g (c_in y7_16 (st_ln T54 q62)) (some ((st_ri T54 q62 (y7_16 : Int32).toNatClampNeg), T54))))))))))))))))))))))) q.1 q.2.1 q.2.2
set_option maxRecDepth 100000 in
def f_X0_codeAs (S : st_T) (a0 : Nat) (x1 : Int32) (x2 : Int32) (x3 : Nat) (x4 : Nat) (x5 : Nat) : Option (Int32 × st_T) :=
  (c_g (st_K S a0 = 2) (c_l (st_pi S 103 a0 x1) (fun (S_2 : st_T) => (c_l (st_pi S_2 104 a0 x2) (fun (S_7 : st_T) => (c_w (b_X0_codeAs_16 a0 x3 x4 x5) c_N (S_7, 0, 0)))))))
set_option maxRecDepth 100000 in
set_option maxHeartbeats 4000000 in
theorem s_X0_codeAs (l : Launch) (X : st_I) {S SE : st_T} {a0 : Nat} {x1 : Int32} {x2 : Int32} {x3 : Nat} {x4 : Nat} {x5 : Nat} {rr : Int32} (Hf : f_X0_codeAs S a0 x1 x2 x3 x4 x5 = some (rr, SE)) : Met l yX0_codeAs (Cond.code yX0_codeAs cX0_codeAs 8 (some .int) :: lw_g) { frames := 4, cells := 0, slots := 0, locals := 91 } (st_P X S [.ref a0, .int x1, .int x2, .ref x3, .ref x4, .ref x5]) (st_Q X (st_A S) (some (.int rr)) SE) 0 0 (st_A S) := by
  refine st_ofW (by decide) (Nat.le_of_ble_eq_true rfl) ?_
  intro p e s m args below meth c hx hb hr hml hlocks hnm hts hown hK hRO hA hP hS ls hl
  have hown : s.vm.findClass RX0 = some m.cls := hown
  have hl : lv_has ls 8 [(0, .ref a0), (1, .int x1), (2, .int x2), (3, .ref x3), (4, .ref x4), (5, .ref x5)] := hl
  unfold f_X0_codeAs at Hf
  refine lv_aload_n hx hb dX0_codeAs_0 rfl (lv_at hl 0 rfl) ?_
  refine lv_iload_n hx hb dX0_codeAs_1 rfl (lv_at hl 1 rfl) ?_
  obtain ⟨hk_a0, Hf⟩ := c_g_some Hf
  refine fp_1_3 hx hb hts hown hK hP hS hk_a0 lkf_X0_19 dX0_codeAs_2 (fun H locs hP hS => ?_)
  obtain ⟨S_2, eS_2, Hf⟩ := c_l_ex Hf
  have hP : st_HP X (st_A S) S_2 H := by rw [eS_2]; exact hP
  refine lv_aload_n hx hb dX0_codeAs_5 rfl (lv_at hl 0 rfl) ?_
  refine lv_iload_n hx hb dX0_codeAs_6 rfl (lv_at hl 2 rfl) ?_
  have hk_a0 : st_K S_2 a0 = 2 := by rw [kp_pi eS_2]; exact hk_a0
  refine fp_1_4 hx hb hts hown hK hP hS hk_a0 lkf_X0_22 dX0_codeAs_7 (fun H locs hP hS => ?_)
  obtain ⟨S_7, eS_7, Hf⟩ := c_l_ex Hf
  have hP : st_HP X (st_A S) S_7 H := by rw [eS_7]; exact hP
  refine lv_iconst (v := 0) hx hb dX0_codeAs_10 (by decide) ?_
  refine lv_istore (lv' := [(6, .int 0), (0, .ref a0), (1, .int x1), (2, .int x2), (3, .ref x3), (4, .ref x4), (5, .ref x5)]) hx hb dX0_codeAs_11 hl (by decide) rfl (fun ls hl => ?_)
  refine lv_iconst (v := 0) hx hb dX0_codeAs_13 (by decide) ?_
  refine lv_istore (lv' := [(7, .int 0), (6, .int 0), (0, .ref a0), (1, .int x1), (2, .int x2), (3, .ref x3), (4, .ref x4), (5, .ref x5)]) hx hb dX0_codeAs_14 hl (by decide) rfl (fun ls hl => ?_)
  refine (c_w_ind (P := fun (q : st_T × Int32 × Int32) => ∀ (H : Heap) (locs : List Loc) (ls : Array Slot), st_HP X (st_A S) q.1 H → va_S (st_A S) s.heap H locs → lv_has ls 8 [(0, .ref a0), (3, .ref x3), (4, .ref x4), (5, .ref x5), (6, .int q.2.1), (7, .int q.2.2)] → W p l e { frames := 4, cells := 0, slots := 0, locals := 91 } s m args below meth c H locs 0 0 (MQ below (st_Q X (st_A S) (some (.int rr)) SE) args s 0 0 (st_A S)) (F0 m 16 ls [])) ?_ _ _ Hf) _ _ _ hP hS (lv_sub hl [2, 5, 6, 7, 1, 0] rfl)
  intro rec16 hrec16 q Hf H locs ls hP hS hl
  obtain ⟨S16, y6_16, y7_16⟩ := q
  unfold b_X0_codeAs_16 at Hf
  try dsimp only at Hf
  try dsimp only at hP
  try dsimp only at hl
  try dsimp only
  refine lv_iload hx hb dX0_codeAs_16 (lv_at hl 5 rfl) ?_
  refine lv_aload hx hb dX0_codeAs_18 (lv_at hl 3 rfl) ?_
  obtain ⟨hk_x5, Hf⟩ := c_g_some Hf
  obtain ⟨q20, hq20, Hf⟩ := c_n_some Hf
  refine fg_6_0 hx hb hts hown hK hP hk_x5 lkf_X0_82 hq20 dX0_codeAs_20 ?_
  obtain ⟨hl23, Hf⟩ := c_g_some Hf
  refine r_alen2 hx hb hK hRO hP hS hl23 dX0_codeAs_23 ?_
  refine lv_icmp_ge hx hb dX0_codeAs_24 (tgt := 85) (by decide) (fun hc => ?_) (fun hc => ?_)
  · have Hf := c_i_t Hf hc
    refine lv_iconst (v := (-1)) hx hb dX0_codeAs_85 (by decide) ?_
    cases Hf
    exact r_iret hx hb hr rfl hlocks dX0_codeAs_86 (Nat.le_of_ble_eq_true rfl) (Nat.le_of_ble_eq_true rfl) hP hS
  have Hf := c_i_f Hf hc
  refine lv_iload hx hb dX0_codeAs_27 (lv_at hl 5 rfl) ?_
  refine lv_aload hx hb dX0_codeAs_29 (lv_at hl 3 rfl) ?_
  obtain ⟨q31, hq31, Hf⟩ := c_n_some Hf
  refine fg_6_1 hx hb hts hown hK hP hk_x5 lkf_X0_85 hq31 dX0_codeAs_31 ?_
  obtain ⟨hl34, Hf⟩ := c_g_some Hf
  refine r_alen2 hx hb hK hRO hP hS hl34 dX0_codeAs_34 ?_
  refine lv_icmp_ge hx hb dX0_codeAs_35 (tgt := 85) (by decide) (fun hc => ?_) (fun hc => ?_)
  · have Hf := c_i_t Hf hc
    refine lv_iconst (v := (-1)) hx hb dX0_codeAs_85 (by decide) ?_
    cases Hf
    exact r_iret hx hb hr rfl hlocks dX0_codeAs_86 (Nat.le_of_ble_eq_true rfl) (Nat.le_of_ble_eq_true rfl) hP hS
  have Hf := c_i_f Hf hc
  refine lv_aload_n hx hb dX0_codeAs_38 rfl (lv_at hl 0 rfl) ?_
  refine lv_aload hx hb dX0_codeAs_39 (lv_at hl 3 rfl) ?_
  refine lv_iload hx hb dX0_codeAs_41 (lv_at hl 4 rfl) ?_
  refine lv_aload hx hb dX0_codeAs_43 (lv_at hl 3 rfl) ?_
  refine fg_6_1 hx hb hts hown hK hP hk_x5 lkf_X0_85 hq31 dX0_codeAs_45 ?_
  refine lv_iload hx hb dX0_codeAs_48 (lv_at hl 5 rfl) ?_
  obtain ⟨hk_q31, Hf⟩ := c_g_some Hf
  obtain ⟨hi50, Hf⟩ := c_g_some Hf
  refine r_iald hx hb hK hP hk_q31 hi50 dX0_codeAs_50 ?_
  refine lv_aload_n hx hb dX0_codeAs_51 rfl (lv_at hl 1 rfl) ?_
  refine lv_aload hx hb dX0_codeAs_52 (lv_at hl 2 rfl) ?_
  obtain ⟨hk_a0, Hf⟩ := c_g_some Hf
  obtain ⟨r54, T54, hq54, Hf⟩ := c_c_some Hf
  refine r_cV (n := 5) (As := [.ref x5, .int y6_16, .int (st_ri S16 q31 (y7_16 : Int32).toNatClampNeg), .ref x3, .ref x4]) (rest := []) ⟨hx, hb, hml, hown, hts⟩ (s_X0_valueOf l X hq54) lkm_X0_88 (by decide +kernel) rfl (by decide) dX0_codeAs_54 rfl rfl ⟨Nat.le_of_ble_eq_true rfl, Nat.le_of_ble_eq_true rfl⟩ hk_a0 rfl hl.1 (Nat.le_of_ble_eq_true rfl) ⟨Nat.le_of_ble_eq_true rfl, Nat.le_of_ble_eq_true rfl⟩ hK hRO hA hP hS (fun H locs hP hS => ?_)
  refine W.eq (g2 := F0 m 57 ls [.int r54]) rfl ?_
  refine lv_if_eq hx hb dX0_codeAs_57 (tgt := 69) (by decide) (fun hc => ?_) (fun hc => ?_)
  · have Hf := c_i_t Hf hc
    refine lv_aload hx hb dX0_codeAs_69 (lv_at hl 3 rfl) ?_
    obtain ⟨hk_x5, Hf⟩ := c_g_some Hf
    obtain ⟨q71, hq71, Hf⟩ := c_n_some Hf
    refine fg_6_1 hx hb hts hown hK hP hk_x5 lkf_X0_85 hq71 dX0_codeAs_71 ?_
    refine lv_iload hx hb dX0_codeAs_74 (lv_at hl 5 rfl) ?_
    obtain ⟨hk_q71, Hf⟩ := c_g_some Hf
    obtain ⟨hi76, Hf⟩ := c_g_some Hf
    refine r_iald hx hb hK hP hk_q71 hi76 dX0_codeAs_76 ?_
    refine lv_topi (fun z6_77 ez6_77 => ?_)
    have Hf := c_l_ren Hf ez6_77
    refine lv_istore (lv' := [(6, .int z6_77), (0, .ref a0), (3, .ref x3), (4, .ref x4), (5, .ref x5), (7, .int y7_16)]) hx hb dX0_codeAs_77 hl (by decide) rfl (fun ls hl => ?_)
    refine lv_iinc (v := (y7_16 + 1)) (lv' := [(7, .int (y7_16 + 1)), (6, .int z6_77), (0, .ref a0), (3, .ref x3), (4, .ref x4), (5, .ref x5)]) hx hb dX0_codeAs_79 hl (k := 5) rfl rfl (by decide) rfl (fun ls hl => ?_)
    refine lv_goto hx hb dX0_codeAs_82 (tgt := 16) (by decide) ?_
    exact hrec16 (T54, z6_77, (y7_16 + 1)) Hf _ _ _ hP hS (lv_sub hl [2, 3, 4, 5, 1, 0] rfl)
  have Hf := c_i_f Hf hc
  refine lv_aload hx hb dX0_codeAs_60 (lv_at hl 3 rfl) ?_
  obtain ⟨hk_x5, Hf⟩ := c_g_some Hf
  obtain ⟨q62, hq62, Hf⟩ := c_n_some Hf
  refine fg_6_0 hx hb hts hown hK hP hk_x5 lkf_X0_82 hq62 dX0_codeAs_62 ?_
  refine lv_iload hx hb dX0_codeAs_65 (lv_at hl 5 rfl) ?_
  obtain ⟨hk_q62, Hf⟩ := c_g_some Hf
  obtain ⟨hi67, Hf⟩ := c_g_some Hf
  refine r_iald hx hb hK hP hk_q62 hi67 dX0_codeAs_67 ?_
  cases Hf
  exact r_iret hx hb hr rfl hlocks dX0_codeAs_68 (Nat.le_of_ble_eq_true rfl) (Nat.le_of_ble_eq_true rfl) hP hS

def j_X0_refresh_206 (a0 : Nat) (rec25 : st_T × Int32 × Int32 → Option (Unit × st_T)) (y5_25 : Int32) (p43 : Nat) (S206 : st_T) (u0_206 : Int32) : Option (Unit × st_T) :=
  (c_g (st_K S206 p43 = 4) (c_l (st_pi S206 308 p43 u0_206) (fun (S_206 : st_T) => (c_g (st_K S_206 a0 = 2) (c_l (st_pi S_206 106 a0 (st_fi S_206 306 p43)) (fun (S_215 : st_T) => (c_l (st_fi S_215 301 p43) (fun (z4_223 : Int32) => (rec25 (S_215, z4_223, (y5_25 + 1)))))))))))
def j_X0_refresh_191 (a0 : Nat) (rec25 : st_T × Int32 × Int32 → Option (Unit × st_T)) (y5_25 : Int32) (p43 : Nat) (z7_154 : Int32) (S191 : st_T) (u0_191 : Int32) : Option (Unit × st_T) :=
  (c_i (u0_191 = 0) (j_X0_refresh_206 a0 rec25 y5_25 p43 S191 0) (j_X0_refresh_206 a0 rec25 y5_25 p43 S191 z7_154))
def j_X0_refresh_190 (a0 : Nat) (rec25 : st_T × Int32 × Int32 → Option (Unit × st_T)) (y5_25 : Int32) (p43 : Nat) (z7_154 : Int32) (S190 : st_T) : Option (Unit × st_T) :=
  (j_X0_refresh_191 a0 rec25 y5_25 p43 z7_154 S190 0)
def j_X0_refresh_141 (a0 : Nat) (x2 : Nat) (rec25 : st_T × Int32 × Int32 → Option (Unit × st_T)) (y4_25 : Int32) (y5_25 : Int32) (p43 : Nat) (S141 : st_T) (u0_141 : Int32) : Option (Unit × st_T) :=
  (c_g (st_K S141 p43 = 4) (c_l (st_pi S141 307 p43 u0_141) (fun (S_141 : st_T) => (c_l (((st_fi S_141 300 p43) - y4_25) - 1) (fun (z7_154 : Int32) => (c_i ((st_fi S_141 306 p43) = (-1)) (j_X0_refresh_190 a0 rec25 y5_25 p43 z7_154 S_141) (c_g (st_K S_141 a0 = 2) (c_i ((st_fi S_141 306 p43) = (st_fi S_141 106 a0)) (c_g (st_K S_141 x2 = 7) (c_i ((st_fi S_141 604 x2) < z7_154) (j_X0_refresh_190 a0 rec25 y5_25 p43 z7_154 S_141) (j_X0_refresh_191 a0 rec25 y5_25 p43 z7_154 S_141 1))) (j_X0_refresh_190 a0 rec25 y5_25 p43 z7_154 S_141)))))))))
def j_X0_refresh_87 (a0 : Nat) (x1 : Nat) (x2 : Nat) (rec25 : st_T × Int32 × Int32 → Option (Unit × st_T)) (y4_25 : Int32) (y5_25 : Int32) (p43 : Nat) (S87 : st_T) (u0_87 : Int32) : Option (Unit × st_T) :=
  (c_g (st_K S87 a0 = 2) (c_l (st_pi S87 105 a0 u0_87) (fun (S_87 : st_T) => (c_g (st_K S_87 p43 = 4) (c_c (f_X0_codeAs S_87 a0 (st_fi S_87 302 p43) (st_fi S_87 303 p43) p43 x1 x2) (fun (r107 : Int32) (T107 : st_T) => (c_g (st_K T107 p43 = 4) (c_l (st_pi T107 306 p43 r107) (fun (S_110 : st_T) => (c_i ((st_fi S_110 303 p43) = 0) (j_X0_refresh_141 a0 x2 rec25 y4_25 y5_25 p43 S_110 (-1)) (c_g (st_K S_110 a0 = 2) (c_c (f_X0_codeAs S_110 a0 (st_fi S_110 303 p43) 0 p43 x1 x2) (fun (r138 : Int32) (T138 : st_T) => (j_X0_refresh_141 a0 x2 rec25 y4_25 y5_25 p43 T138 r138))))))))))))))
def b_X0_refresh_25 (a0 : Nat) (x1 : Nat) (x2 : Nat) (rec25 : st_T × Int32 × Int32 → Option (Unit × st_T)) (q : st_T × Int32 × Int32) : Option (Unit × st_T) :=
  (fun (S25 : st_T) (y4_25 : Int32) (y5_25 : Int32) =>
  (c_g (st_K S25 x1 = 3) (c_n (st_fr S25 204 x1) (fun (q28 : Nat) => (c_g (st_K S25 q28 = 1) (c_c (f_Jx4a65c_size_8abf5 S25 q28) (fun (r31 : Int32) (T31 : st_T) => (c_i (r31 ≤ y5_25) (some ((), T31)) (c_g (st_K T31 x1 = 3) (c_n (st_fr T31 204 x1) (fun (q38 : Nat) => (c_g (st_K T31 q38 = 1) (c_c (f_Jx4a65c_get_915e3 T31 q38 y5_25) (fun (r43 : Option Nat) (T43 : st_T) => (c_n r43 (fun (p43 : Nat) => (c_g (st_K T43 p43 = 4) (c_g (st_K T43 x1 = 3) (c_n (st_fr T43 204 x1) (fun (q57 : Nat) => (c_g (st_K T43 q57 = 1) (c_c (f_Jx4a65c_size_8abf5 T43 q57) (fun (r60 : Int32) (T60 : st_T) => (c_i (r60 ≤ (y5_25 + 1)) (j_X0_refresh_87 a0 x1 x2 rec25 y4_25 y5_25 p43 T60 0) (c_g (st_K T60 x1 = 3) (c_n (st_fr T60 204 x1) (fun (q67 : Nat) => (c_g (st_K T60 q67 = 1) (c_c (f_Jx4a65c_get_915e3 T60 q67 (y5_25 + 1)) (fun (r74 : Option Nat) (T74 : st_T) => (c_n r74 (fun (p74 : Nat) => (c_g (st_K T74 p74 = 4) (j_X0_refresh_87 a0 x1 x2 rec25 y4_25 y5_25 p43 T74 (st_fi T74 302 p74))))))))))))))))))))))))))))))))))) q.1 q.2.1 q.2.2
set_option maxRecDepth 100000 in
def f_X0_refresh (S : st_T) (a0 : Nat) (x1 : Nat) (x2 : Nat) (x3 : Int32) : Option (Unit × st_T) :=
  (c_g (st_K S x1 = 3) (c_i ((st_fi S 206 x1) = x3) (some ((), S)) (c_l (st_pi S 206 x1 x3) (fun (S_11 : st_T) => (c_g (st_K S_11 a0 = 2) (c_l (st_pi S_11 106 a0 (-1)) (fun (S_16 : st_T) => (c_w (b_X0_refresh_25 a0 x1 x2) c_N (S_16, (-1), 0)))))))))
set_option maxRecDepth 100000 in
set_option maxHeartbeats 4000000 in
theorem s_X0_refresh (l : Launch) (X : st_I) {S SE : st_T} {a0 : Nat} {x1 : Nat} {x2 : Nat} {x3 : Int32} {rr : Unit} (Hf : f_X0_refresh S a0 x1 x2 x3 = some (rr, SE)) : Met l yX0_refresh (Cond.code yX0_refresh cX0_refresh 9 (none) :: lw_g) { frames := 5, cells := 0, slots := 0, locals := 118 } (st_P X S [.ref a0, .ref x1, .ref x2, .int x3]) (st_Q X (st_A S) none SE) 0 0 (st_A S) := by
  refine st_ofW (by decide) (Nat.le_of_ble_eq_true rfl) ?_
  intro p e s m args below meth c hx hb hr hml hlocks hnm hts hown hK hRO hA hP hS ls hl
  have hown : s.vm.findClass RX0 = some m.cls := hown
  have hl : lv_has ls 9 [(0, .ref a0), (1, .ref x1), (2, .ref x2), (3, .int x3)] := hl
  unfold f_X0_refresh at Hf
  refine lv_aload_n hx hb dX0_refresh_0 rfl (lv_at hl 1 rfl) ?_
  obtain ⟨hk_x1, Hf⟩ := c_g_some Hf
  refine fg_2_6 hx hb hts hown hK hP hk_x1 lkf_X0_35 dX0_refresh_1 ?_
  refine lv_iload_n hx hb dX0_refresh_4 rfl (lv_at hl 3 rfl) ?_
  refine lv_icmp_ne hx hb dX0_refresh_5 (tgt := 9) (by decide) (fun hc => ?_) (fun hc => ?_)
  · have Hf := c_i_f Hf hc
    refine lv_aload_n hx hb dX0_refresh_9 rfl (lv_at hl 1 rfl) ?_
    refine lv_iload_n hx hb dX0_refresh_10 rfl (lv_at hl 3 rfl) ?_
    refine fp_2_6 hx hb hts hown hK hP hS hk_x1 lkf_X0_35 dX0_refresh_11 (fun H locs hP hS => ?_)
    obtain ⟨S_11, eS_11, Hf⟩ := c_l_ex Hf
    have hP : st_HP X (st_A S) S_11 H := by rw [eS_11]; exact hP
    refine lv_aload_n hx hb dX0_refresh_14 rfl (lv_at hl 0 rfl) ?_
    refine lv_iconst (v := (-1)) hx hb dX0_refresh_15 (by decide) ?_
    obtain ⟨hk_a0, Hf⟩ := c_g_some Hf
    refine fp_1_6 hx hb hts hown hK hP hS hk_a0 lkf_X0_28 dX0_refresh_16 (fun H locs hP hS => ?_)
    obtain ⟨S_16, eS_16, Hf⟩ := c_l_ex Hf
    have hP : st_HP X (st_A S) S_16 H := by rw [eS_16]; exact hP
    refine lv_iconst (v := (-1)) hx hb dX0_refresh_19 (by decide) ?_
    refine lv_istore (lv' := [(4, .int (-1)), (0, .ref a0), (1, .ref x1), (2, .ref x2), (3, .int x3)]) hx hb dX0_refresh_20 hl (by decide) rfl (fun ls hl => ?_)
    refine lv_iconst (v := 0) hx hb dX0_refresh_22 (by decide) ?_
    refine lv_istore (lv' := [(5, .int 0), (4, .int (-1)), (0, .ref a0), (1, .ref x1), (2, .ref x2), (3, .int x3)]) hx hb dX0_refresh_23 hl (by decide) rfl (fun ls hl => ?_)
    refine (c_w_ind (P := fun (q : st_T × Int32 × Int32) => ∀ (H : Heap) (locs : List Loc) (ls : Array Slot), st_HP X (st_A S) q.1 H → va_S (st_A S) s.heap H locs → lv_has ls 9 [(0, .ref a0), (1, .ref x1), (2, .ref x2), (4, .int q.2.1), (5, .int q.2.2)] → W p l e { frames := 5, cells := 0, slots := 0, locals := 118 } s m args below meth c H locs 0 0 (MQ below (st_Q X (st_A S) none SE) args s 0 0 (st_A S)) (F0 m 25 ls [])) ?_ _ _ Hf) _ _ _ hP hS (lv_sub hl [2, 3, 4, 1, 0] rfl)
    intro rec25 hrec25 q Hf H locs ls hP hS hl
    obtain ⟨S25, y4_25, y5_25⟩ := q
    unfold b_X0_refresh_25 at Hf
    try dsimp only at Hf
    try dsimp only at hP
    try dsimp only at hl
    try dsimp only
    refine lv_iload hx hb dX0_refresh_25 (lv_at hl 4 rfl) ?_
    refine lv_aload_n hx hb dX0_refresh_27 rfl (lv_at hl 1 rfl) ?_
    obtain ⟨hk_x1, Hf⟩ := c_g_some Hf
    obtain ⟨q28, hq28, Hf⟩ := c_n_some Hf
    refine fg_2_4 hx hb hts hown hK hP hk_x1 lkf_X0_40 hq28 dX0_refresh_28 ?_
    obtain ⟨hk_q28, Hf⟩ := c_g_some Hf
    obtain ⟨r31, T31, hq31, Hf⟩ := c_c_some Hf
    refine r_cV (n := 0) (As := []) (rest := [.int y5_25]) ⟨hx, hb, hml, hown, hts⟩ (s_Jx4a65c_size_8abf5 l X hq31) lkm_X0_44 (by decide +kernel) rfl (by decide) dX0_refresh_31 rfl rfl ⟨Nat.le_of_ble_eq_true rfl, Nat.le_of_ble_eq_true rfl⟩ hk_q28 rfl hl.1 (Nat.le_of_ble_eq_true rfl) ⟨Nat.le_of_ble_eq_true rfl, Nat.le_of_ble_eq_true rfl⟩ hK hRO hA hP hS (fun H locs hP hS => ?_)
    refine W.eq (g2 := F0 m 34 ls [.int r31, .int y5_25]) rfl ?_
    refine lv_icmp_ge hx hb dX0_refresh_34 (tgt := 231) (by decide) (fun hc => ?_) (fun hc => ?_)
    · have Hf := c_i_t Hf hc
      cases Hf
      exact r_vret hx hb hr rfl hlocks dX0_refresh_231 (Nat.le_of_ble_eq_true rfl) (Nat.le_of_ble_eq_true rfl) hP hS
    have Hf := c_i_f Hf hc
    refine lv_aload_n hx hb dX0_refresh_37 rfl (lv_at hl 1 rfl) ?_
    obtain ⟨hk_x1, Hf⟩ := c_g_some Hf
    obtain ⟨q38, hq38, Hf⟩ := c_n_some Hf
    refine fg_2_4 hx hb hts hown hK hP hk_x1 lkf_X0_40 hq38 dX0_refresh_38 ?_
    refine lv_iload hx hb dX0_refresh_41 (lv_at hl 4 rfl) ?_
    obtain ⟨hk_q38, Hf⟩ := c_g_some Hf
    obtain ⟨r43, T43, hq43, Hf⟩ := c_c_some Hf
    refine r_cV (n := 1) (As := [.int y5_25]) (rest := []) ⟨hx, hb, hml, hown, hts⟩ (s_Jx4a65c_get_915e3 l X hq43) lkm_X0_50 (by decide +kernel) rfl (by decide) dX0_refresh_43 rfl rfl ⟨Nat.le_of_ble_eq_true rfl, Nat.le_of_ble_eq_true rfl⟩ hk_q38 rfl hl.1 (Nat.le_of_ble_eq_true rfl) ⟨Nat.le_of_ble_eq_true rfl, Nat.le_of_ble_eq_true rfl⟩ hK hRO hA hP hS (fun H locs hP hS => ?_)
    obtain ⟨p43, ep43, Hf⟩ := c_n_some Hf
    subst ep43
    refine W.eq (g2 := F0 m 46 ls [.ref p43]) rfl ?_
    obtain ⟨hk_p43, Hf⟩ := c_g_some Hf
    refine va_castE hx hb hown (hts _ (lg_1 728 rfl rfl)) (st_recv hK hP hk_p43 (by decide) rfl) dX0_refresh_46 ?_
    refine lv_astore (lv' := [(6, .ref p43), (0, .ref a0), (1, .ref x1), (2, .ref x2), (4, .int y4_25), (5, .int y5_25)]) hx hb dX0_refresh_49 hl (by decide) rfl (fun ls hl => ?_)
    refine lv_aload_n hx hb dX0_refresh_51 rfl (lv_at hl 1 rfl) ?_
    refine lv_iload hx hb dX0_refresh_52 (lv_at hl 5 rfl) ?_
    refine lv_iconst (v := 1) hx hb dX0_refresh_54 (by decide) ?_
    refine lv_iadd hx hb dX0_refresh_55 ?_
    refine lv_aload_n hx hb dX0_refresh_56 rfl (lv_at hl 2 rfl) ?_
    obtain ⟨hk_x1, Hf⟩ := c_g_some Hf
    obtain ⟨q57, hq57, Hf⟩ := c_n_some Hf
    refine fg_2_4 hx hb hts hown hK hP hk_x1 lkf_X0_40 hq57 dX0_refresh_57 ?_
    obtain ⟨hk_q57, Hf⟩ := c_g_some Hf
    obtain ⟨r60, T60, hq60, Hf⟩ := c_c_some Hf
    refine r_cV (n := 0) (As := []) (rest := [.int (y5_25 + 1), .ref a0]) ⟨hx, hb, hml, hown, hts⟩ (s_Jx4a65c_size_8abf5 l X hq60) lkm_X0_44 (by decide +kernel) rfl (by decide) dX0_refresh_60 rfl rfl ⟨Nat.le_of_ble_eq_true rfl, Nat.le_of_ble_eq_true rfl⟩ hk_q57 rfl hl.1 (Nat.le_of_ble_eq_true rfl) ⟨Nat.le_of_ble_eq_true rfl, Nat.le_of_ble_eq_true rfl⟩ hK hRO hA hP hS (fun H locs hP hS => ?_)
    refine W.eq (g2 := F0 m 63 ls [.int r60, .int (y5_25 + 1), .ref a0]) rfl ?_
    have hJ87 : ∀ (S87 : st_T) (u0_87 : Int32), j_X0_refresh_87 a0 x1 x2 rec25 y4_25 y5_25 p43 S87 u0_87 = some (rr, SE) → ∀ (H : Heap) (locs : List Loc) (ls : Array Slot), st_HP X (st_A S) S87 H → va_S (st_A S) s.heap H locs → lv_has ls 9 [(0, .ref a0), (1, .ref x1), (2, .ref x2), (4, .int y4_25), (5, .int y5_25), (6, .ref p43)] → W p l e { frames := 5, cells := 0, slots := 0, locals := 118 } s m args below meth c H locs 0 0 (MQ below (st_Q X (st_A S) none SE) args s 0 0 (st_A S)) (F0 m 87 ls [.int u0_87, .ref a0]) := by
      intro S87 u0_87 Hf H locs ls hP hS hl
      unfold j_X0_refresh_87 at Hf
      obtain ⟨hk_a0, Hf⟩ := c_g_some Hf
      refine fp_1_5 hx hb hts hown hK hP hS hk_a0 lkf_X0_25 dX0_refresh_87 (fun H locs hP hS => ?_)
      obtain ⟨S_87, eS_87, Hf⟩ := c_l_ex Hf
      have hP : st_HP X (st_A S) S_87 H := by rw [eS_87]; exact hP
      refine lv_aload hx hb dX0_refresh_90 (lv_at hl 5 rfl) ?_
      refine lv_aload_n hx hb dX0_refresh_92 rfl (lv_at hl 0 rfl) ?_
      refine lv_aload hx hb dX0_refresh_93 (lv_at hl 5 rfl) ?_
      obtain ⟨hk_p43, Hf⟩ := c_g_some Hf
      refine fg_3_2 hx hb hts hown hK hP hk_p43 lkf_X0_56 dX0_refresh_95 ?_
      refine lv_aload hx hb dX0_refresh_98 (lv_at hl 5 rfl) ?_
      refine fg_3_3 hx hb hts hown hK hP hk_p43 lkf_X0_57 dX0_refresh_100 ?_
      refine lv_aload hx hb dX0_refresh_103 (lv_at hl 5 rfl) ?_
      refine lv_aload_n hx hb dX0_refresh_105 rfl (lv_at hl 1 rfl) ?_
      refine lv_aload_n hx hb dX0_refresh_106 rfl (lv_at hl 2 rfl) ?_
      have hk_a0 : st_K S_87 a0 = 2 := by rw [kp_pi eS_87]; exact hk_a0
      obtain ⟨r107, T107, hq107, Hf⟩ := c_c_some Hf
      refine r_cV (n := 5) (As := [.int (st_fi S_87 302 p43), .int (st_fi S_87 303 p43), .ref p43, .ref x1, .ref x2]) (rest := [.ref p43]) ⟨hx, hb, hml, hown, hts⟩ (s_X0_codeAs l X hq107) lkm_X0_58 (by decide +kernel) rfl (by decide) dX0_refresh_107 rfl rfl ⟨Nat.le_of_ble_eq_true rfl, Nat.le_of_ble_eq_true rfl⟩ hk_a0 rfl hl.1 (Nat.le_of_ble_eq_true rfl) ⟨Nat.le_of_ble_eq_true rfl, Nat.le_of_ble_eq_true rfl⟩ hK hRO hA hP hS (fun H locs hP hS => ?_)
      refine W.eq (g2 := F0 m 110 ls [.int r107, .ref p43]) rfl ?_
      obtain ⟨hk_p43, Hf⟩ := c_g_some Hf
      refine fp_3_6 hx hb hts hown hK hP hS hk_p43 lkf_X0_62 dX0_refresh_110 (fun H locs hP hS => ?_)
      obtain ⟨S_110, eS_110, Hf⟩ := c_l_ex Hf
      have hP : st_HP X (st_A S) S_110 H := by rw [eS_110]; exact hP
      refine lv_aload hx hb dX0_refresh_113 (lv_at hl 5 rfl) ?_
      refine lv_aload hx hb dX0_refresh_115 (lv_at hl 5 rfl) ?_
      have hk_p43 : st_K S_110 p43 = 4 := by rw [kp_pi eS_110]; exact hk_p43
      refine fg_3_3 hx hb hts hown hK hP hk_p43 lkf_X0_57 dX0_refresh_117 ?_
      have hJ141 : ∀ (S141 : st_T) (u0_141 : Int32), j_X0_refresh_141 a0 x2 rec25 y4_25 y5_25 p43 S141 u0_141 = some (rr, SE) → ∀ (H : Heap) (locs : List Loc) (ls : Array Slot), st_HP X (st_A S) S141 H → va_S (st_A S) s.heap H locs → lv_has ls 9 [(0, .ref a0), (1, .ref x1), (2, .ref x2), (4, .int y4_25), (5, .int y5_25), (6, .ref p43)] → W p l e { frames := 5, cells := 0, slots := 0, locals := 118 } s m args below meth c H locs 0 0 (MQ below (st_Q X (st_A S) none SE) args s 0 0 (st_A S)) (F0 m 141 ls [.int u0_141, .ref p43]) := by
        intro S141 u0_141 Hf H locs ls hP hS hl
        unfold j_X0_refresh_141 at Hf
        obtain ⟨hk_p43, Hf⟩ := c_g_some Hf
        refine fp_3_7 hx hb hts hown hK hP hS hk_p43 lkf_X0_65 dX0_refresh_141 (fun H locs hP hS => ?_)
        obtain ⟨S_141, eS_141, Hf⟩ := c_l_ex Hf
        have hP : st_HP X (st_A S) S_141 H := by rw [eS_141]; exact hP
        refine lv_aload hx hb dX0_refresh_144 (lv_at hl 5 rfl) ?_
        have hk_p43 : st_K S_141 p43 = 4 := by rw [kp_pi eS_141]; exact hk_p43
        refine fg_3_0 hx hb hts hown hK hP hk_p43 lkf_X0_68 dX0_refresh_146 ?_
        refine lv_iload hx hb dX0_refresh_149 (lv_at hl 3 rfl) ?_
        refine lv_isub hx hb dX0_refresh_151 ?_
        refine lv_iconst (v := 1) hx hb dX0_refresh_152 (by decide) ?_
        refine lv_isub hx hb dX0_refresh_153 ?_
        refine lv_topi (fun z7_154 ez7_154 => ?_)
        have Hf := c_l_ren Hf ez7_154
        refine lv_istore (lv' := [(7, .int z7_154), (0, .ref a0), (1, .ref x1), (2, .ref x2), (4, .int y4_25), (5, .int y5_25), (6, .ref p43)]) hx hb dX0_refresh_154 hl (by decide) rfl (fun ls hl => ?_)
        refine lv_aload hx hb dX0_refresh_156 (lv_at hl 6 rfl) ?_
        refine fg_3_6 hx hb hts hown hK hP hk_p43 lkf_X0_62 dX0_refresh_158 ?_
        refine lv_iconst (v := (-1)) hx hb dX0_refresh_161 (by decide) ?_
        have hJ191 : ∀ (S191 : st_T) (u0_191 : Int32), j_X0_refresh_191 a0 rec25 y5_25 p43 z7_154 S191 u0_191 = some (rr, SE) → ∀ (H : Heap) (locs : List Loc) (ls : Array Slot), st_HP X (st_A S) S191 H → va_S (st_A S) s.heap H locs → lv_has ls 9 [(0, .ref a0), (1, .ref x1), (2, .ref x2), (5, .int y5_25), (6, .ref p43), (7, .int z7_154)] → W p l e { frames := 5, cells := 0, slots := 0, locals := 118 } s m args below meth c H locs 0 0 (MQ below (st_Q X (st_A S) none SE) args s 0 0 (st_A S)) (F0 m 191 ls [.int u0_191]) := by
          intro S191 u0_191 Hf H locs ls hP hS hl
          unfold j_X0_refresh_191 at Hf
          refine lv_istore (lv' := [(8, .int u0_191), (0, .ref a0), (1, .ref x1), (2, .ref x2), (5, .int y5_25), (6, .ref p43), (7, .int z7_154)]) hx hb dX0_refresh_191 hl (by decide) rfl (fun ls hl => ?_)
          refine lv_aload hx hb dX0_refresh_193 (lv_at hl 5 rfl) ?_
          refine lv_iload hx hb dX0_refresh_195 (lv_at hl 0 rfl) ?_
          have hJ206 : ∀ (S206 : st_T) (u0_206 : Int32), j_X0_refresh_206 a0 rec25 y5_25 p43 S206 u0_206 = some (rr, SE) → ∀ (H : Heap) (locs : List Loc) (ls : Array Slot), st_HP X (st_A S) S206 H → va_S (st_A S) s.heap H locs → lv_has ls 9 [(0, .ref a0), (1, .ref x1), (2, .ref x2), (5, .int y5_25), (6, .ref p43)] → W p l e { frames := 5, cells := 0, slots := 0, locals := 118 } s m args below meth c H locs 0 0 (MQ below (st_Q X (st_A S) none SE) args s 0 0 (st_A S)) (F0 m 206 ls [.int u0_206, .ref p43]) := by
            intro S206 u0_206 Hf H locs ls hP hS hl
            unfold j_X0_refresh_206 at Hf
            obtain ⟨hk_p43, Hf⟩ := c_g_some Hf
            refine fp_3_8 hx hb hts hown hK hP hS hk_p43 lkf_X0_76 dX0_refresh_206 (fun H locs hP hS => ?_)
            obtain ⟨S_206, eS_206, Hf⟩ := c_l_ex Hf
            have hP : st_HP X (st_A S) S_206 H := by rw [eS_206]; exact hP
            refine lv_aload_n hx hb dX0_refresh_209 rfl (lv_at hl 0 rfl) ?_
            refine lv_aload hx hb dX0_refresh_210 (lv_at hl 4 rfl) ?_
            have hk_p43 : st_K S_206 p43 = 4 := by rw [kp_pi eS_206]; exact hk_p43
            refine fg_3_6 hx hb hts hown hK hP hk_p43 lkf_X0_62 dX0_refresh_212 ?_
            obtain ⟨hk_a0, Hf⟩ := c_g_some Hf
            refine fp_1_6 hx hb hts hown hK hP hS hk_a0 lkf_X0_28 dX0_refresh_215 (fun H locs hP hS => ?_)
            obtain ⟨S_215, eS_215, Hf⟩ := c_l_ex Hf
            have hP : st_HP X (st_A S) S_215 H := by rw [eS_215]; exact hP
            refine lv_aload hx hb dX0_refresh_218 (lv_at hl 4 rfl) ?_
            have hk_p43 : st_K S_215 p43 = 4 := by rw [kp_pi eS_215]; exact hk_p43
            refine fg_3_1 hx hb hts hown hK hP hk_p43 lkf_X0_79 dX0_refresh_220 ?_
            refine lv_topi (fun z4_223 ez4_223 => ?_)
            have Hf := c_l_ren Hf ez4_223
            refine lv_istore (lv' := [(4, .int z4_223), (0, .ref a0), (1, .ref x1), (2, .ref x2), (5, .int y5_25), (6, .ref p43)]) hx hb dX0_refresh_223 hl (by decide) rfl (fun ls hl => ?_)
            refine lv_iinc (v := (y5_25 + 1)) (lv' := [(5, .int (y5_25 + 1)), (4, .int z4_223), (0, .ref a0), (1, .ref x1), (2, .ref x2), (6, .ref p43)]) hx hb dX0_refresh_225 hl (k := 4) rfl rfl (by decide) rfl (fun ls hl => ?_)
            refine lv_goto hx hb dX0_refresh_228 (tgt := 25) (by decide) ?_
            exact hrec25 (S_215, z4_223, (y5_25 + 1)) Hf _ _ _ hP hS (lv_sub hl [2, 3, 4, 1, 0] rfl)
          refine lv_if_eq hx hb dX0_refresh_197 (tgt := 205) (by decide) (fun hc => ?_) (fun hc => ?_)
          · have Hf := c_i_t Hf hc
            refine lv_iconst (v := 0) hx hb dX0_refresh_205 (by decide) ?_
            exact hJ206 S191 0 Hf _ _ _ hP hS (lv_sub hl [1, 2, 3, 4, 5] rfl)
          have Hf := c_i_f Hf hc
          refine lv_iload hx hb dX0_refresh_200 (lv_at hl 6 rfl) ?_
          refine lv_goto hx hb dX0_refresh_202 (tgt := 206) (by decide) ?_
          exact hJ206 S191 z7_154 Hf _ _ _ hP hS (lv_sub hl [1, 2, 3, 4, 5] rfl)
        have hJ190 : ∀ (S190 : st_T), j_X0_refresh_190 a0 rec25 y5_25 p43 z7_154 S190 = some (rr, SE) → ∀ (H : Heap) (locs : List Loc) (ls : Array Slot), st_HP X (st_A S) S190 H → va_S (st_A S) s.heap H locs → lv_has ls 9 [(0, .ref a0), (1, .ref x1), (2, .ref x2), (5, .int y5_25), (6, .ref p43), (7, .int z7_154)] → W p l e { frames := 5, cells := 0, slots := 0, locals := 118 } s m args below meth c H locs 0 0 (MQ below (st_Q X (st_A S) none SE) args s 0 0 (st_A S)) (F0 m 190 ls []) := by
          intro S190 Hf H locs ls hP hS hl
          unfold j_X0_refresh_190 at Hf
          refine lv_iconst (v := 0) hx hb dX0_refresh_190 (by decide) ?_
          exact hJ191 S190 0 Hf _ _ _ hP hS (lv_sub hl [0, 1, 2, 3, 4, 5] rfl)
        refine lv_icmp_eq hx hb dX0_refresh_162 (tgt := 190) (by decide) (fun hc => ?_) (fun hc => ?_)
        · have Hf := c_i_t Hf hc
          exact hJ190 S_141 Hf _ _ _ hP hS (lv_sub hl [1, 2, 3, 5, 6, 0] rfl)
        have Hf := c_i_f Hf hc
        refine lv_aload hx hb dX0_refresh_165 (lv_at hl 6 rfl) ?_
        refine fg_3_6 hx hb hts hown hK hP hk_p43 lkf_X0_62 dX0_refresh_167 ?_
        refine lv_aload_n hx hb dX0_refresh_170 rfl (lv_at hl 1 rfl) ?_
        obtain ⟨hk_a0, Hf⟩ := c_g_some Hf
        refine fg_1_6 hx hb hts hown hK hP hk_a0 lkf_X0_28 dX0_refresh_171 ?_
        refine lv_icmp_ne hx hb dX0_refresh_174 (tgt := 190) (by decide) (fun hc => ?_) (fun hc => ?_)
        · have Hf := c_i_f Hf hc
          exact hJ190 S_141 Hf _ _ _ hP hS (lv_sub hl [1, 2, 3, 5, 6, 0] rfl)
        have Hf := c_i_t Hf hc
        refine lv_iload hx hb dX0_refresh_177 (lv_at hl 0 rfl) ?_
        refine lv_aload_n hx hb dX0_refresh_179 rfl (lv_at hl 3 rfl) ?_
        obtain ⟨hk_x2, Hf⟩ := c_g_some Hf
        refine fg_6_4 hx hb hts hown hK hP hk_x2 lkf_X0_71 dX0_refresh_180 ?_
        refine lv_icmp_gt hx hb dX0_refresh_183 (tgt := 190) (by decide) (fun hc => ?_) (fun hc => ?_)
        · have Hf := c_i_t Hf hc
          exact hJ190 S_141 Hf _ _ _ hP hS (lv_sub hl [1, 2, 3, 5, 6, 0] rfl)
        have Hf := c_i_f Hf hc
        refine lv_iconst (v := 1) hx hb dX0_refresh_186 (by decide) ?_
        refine lv_goto hx hb dX0_refresh_187 (tgt := 191) (by decide) ?_
        exact hJ191 S_141 1 Hf _ _ _ hP hS (lv_sub hl [1, 2, 3, 5, 6, 0] rfl)
      refine lv_if_ne hx hb dX0_refresh_120 (tgt := 127) (by decide) (fun hc => ?_) (fun hc => ?_)
      · have Hf := c_i_f Hf hc
        refine lv_aload_n hx hb dX0_refresh_127 rfl (lv_at hl 0 rfl) ?_
        refine lv_aload hx hb dX0_refresh_128 (lv_at hl 5 rfl) ?_
        refine fg_3_3 hx hb hts hown hK hP hk_p43 lkf_X0_57 dX0_refresh_130 ?_
        refine lv_iconst (v := 0) hx hb dX0_refresh_133 (by decide) ?_
        refine lv_aload hx hb dX0_refresh_134 (lv_at hl 5 rfl) ?_
        refine lv_aload_n hx hb dX0_refresh_136 rfl (lv_at hl 1 rfl) ?_
        refine lv_aload_n hx hb dX0_refresh_137 rfl (lv_at hl 2 rfl) ?_
        obtain ⟨hk_a0, Hf⟩ := c_g_some Hf
        obtain ⟨r138, T138, hq138, Hf⟩ := c_c_some Hf
        refine r_cV (n := 5) (As := [.int (st_fi S_110 303 p43), .int 0, .ref p43, .ref x1, .ref x2]) (rest := [.ref p43]) ⟨hx, hb, hml, hown, hts⟩ (s_X0_codeAs l X hq138) lkm_X0_58 (by decide +kernel) rfl (by decide) dX0_refresh_138 rfl rfl ⟨Nat.le_of_ble_eq_true rfl, Nat.le_of_ble_eq_true rfl⟩ hk_a0 rfl hl.1 (Nat.le_of_ble_eq_true rfl) ⟨Nat.le_of_ble_eq_true rfl, Nat.le_of_ble_eq_true rfl⟩ hK hRO hA hP hS (fun H locs hP hS => ?_)
        refine W.eq (g2 := F0 m 141 ls [.int r138, .ref p43]) rfl ?_
        exact hJ141 T138 r138 Hf _ _ _ hP hS (lv_sub hl [0, 1, 2, 3, 4, 5] rfl)
      have Hf := c_i_t Hf hc
      refine lv_iconst (v := (-1)) hx hb dX0_refresh_123 (by decide) ?_
      refine lv_goto hx hb dX0_refresh_124 (tgt := 141) (by decide) ?_
      exact hJ141 S_110 (-1) Hf _ _ _ hP hS (lv_sub hl [0, 1, 2, 3, 4, 5] rfl)
    refine lv_icmp_ge hx hb dX0_refresh_63 (tgt := 86) (by decide) (fun hc => ?_) (fun hc => ?_)
    · have Hf := c_i_t Hf hc
      refine lv_iconst (v := 0) hx hb dX0_refresh_86 (by decide) ?_
      exact hJ87 T60 0 Hf _ _ _ hP hS (lv_sub hl [1, 2, 3, 4, 5, 0] rfl)
    have Hf := c_i_f Hf hc
    refine lv_aload_n hx hb dX0_refresh_66 rfl (lv_at hl 2 rfl) ?_
    obtain ⟨hk_x1, Hf⟩ := c_g_some Hf
    obtain ⟨q67, hq67, Hf⟩ := c_n_some Hf
    refine fg_2_4 hx hb hts hown hK hP hk_x1 lkf_X0_40 hq67 dX0_refresh_67 ?_
    refine lv_iload hx hb dX0_refresh_70 (lv_at hl 5 rfl) ?_
    refine lv_iconst (v := 1) hx hb dX0_refresh_72 (by decide) ?_
    refine lv_iadd hx hb dX0_refresh_73 ?_
    obtain ⟨hk_q67, Hf⟩ := c_g_some Hf
    obtain ⟨r74, T74, hq74, Hf⟩ := c_c_some Hf
    refine r_cV (n := 1) (As := [.int (y5_25 + 1)]) (rest := [.ref a0]) ⟨hx, hb, hml, hown, hts⟩ (s_Jx4a65c_get_915e3 l X hq74) lkm_X0_50 (by decide +kernel) rfl (by decide) dX0_refresh_74 rfl rfl ⟨Nat.le_of_ble_eq_true rfl, Nat.le_of_ble_eq_true rfl⟩ hk_q67 rfl hl.1 (Nat.le_of_ble_eq_true rfl) ⟨Nat.le_of_ble_eq_true rfl, Nat.le_of_ble_eq_true rfl⟩ hK hRO hA hP hS (fun H locs hP hS => ?_)
    obtain ⟨p74, ep74, Hf⟩ := c_n_some Hf
    subst ep74
    refine W.eq (g2 := F0 m 77 ls [.ref p74, .ref a0]) rfl ?_
    obtain ⟨hk_p74, Hf⟩ := c_g_some Hf
    refine va_castE hx hb hown (hts _ (lg_1 728 rfl rfl)) (st_recv hK hP hk_p74 (by decide) rfl) dX0_refresh_77 ?_
    refine fg_3_2 hx hb hts hown hK hP hk_p74 lkf_X0_56 dX0_refresh_80 ?_
    refine lv_goto hx hb dX0_refresh_83 (tgt := 87) (by decide) ?_
    exact hJ87 T74 (st_fi T74 302 p74) Hf _ _ _ hP hS (lv_sub hl [1, 2, 3, 4, 5, 0] rfl)
  have Hf := c_i_t Hf hc
  cases Hf
  exact r_vret hx hb hr rfl hlocks dX0_refresh_8 (Nat.le_of_ble_eq_true rfl) (Nat.le_of_ble_eq_true rfl) hP hS

set_option maxRecDepth 100000 in
def f_X8_below (S : st_T) (a0 : Nat) (x1 : Int32) (x2 : Int32) : Option (Int32 × st_T) :=
  (c_c (f_X8_isWithin S x1 1 200) (fun (r5 : Int32) (T5 : st_T) => (c_i (r5 = 0) (some (0, T5)) (c_c (f_X8_isWithin T5 x2 1 200) (fun (r16 : Int32) (T16 : st_T) => (c_i (r16 = 0) (some (0, T16)) (c_i (x2 < x1) (c_g (st_K T16 a0 = 10) (c_n (st_fr T16 900 a0) (fun (q30 : Nat) => (c_g (st_K T16 q30 = 9) (c_c (f_X7_putBelow T16 q30 x1 x2) (fun (r35 : Unit) (T35 : st_T) => (c_g (st_K T35 a0 = 10) (c_l (st_pi T35 909 a0 ((st_fi T35 909 a0) + 1)) (fun (S_45 : st_T) => (some (1, S_45))))))))))) (some (0, T16)))))))))
set_option maxRecDepth 100000 in
set_option maxHeartbeats 4000000 in
theorem s_X8_below (l : Launch) (X : st_I) {S SE : st_T} {a0 : Nat} {x1 : Int32} {x2 : Int32} {rr : Int32} (Hf : f_X8_below S a0 x1 x2 = some (rr, SE)) : Met l yX8_below (Cond.code yX8_below cX8_below 3 (some .boolean) :: lw_g) { frames := 2, cells := 0, slots := 0, locals := 44 } (st_P X S [.ref a0, .int x1, .int x2]) (st_Q X (st_A S) (some (.int rr)) SE) 0 0 (st_A S) := by
  refine st_ofW (by decide) (Nat.le_of_ble_eq_true rfl) ?_
  intro p e s m args below meth c hx hb hr hml hlocks hnm hts hown hK hRO hA hP hS ls hl
  have hown : s.vm.findClass RX8 = some m.cls := hown
  have hl : lv_has ls 3 [(0, .ref a0), (1, .int x1), (2, .int x2)] := hl
  unfold f_X8_below at Hf
  refine lv_iload_n hx hb dX8_below_0 rfl (lv_at hl 1 rfl) ?_
  refine lv_iconst (v := 1) hx hb dX8_below_1 (by decide) ?_
  refine lv_sipush (v := 200) hx hb dX8_below_2 (by decide) ?_
  obtain ⟨r5, T5, hq5, Hf⟩ := c_c_some Hf
  refine r_cS (n := 3) (As := [.int x1, .int 1, .int 200]) (rest := []) ⟨hx, hb, hml, hown, hts⟩ (s_X8_isWithin l X hq5) lkm_X8_69 (by decide +kernel) dX8_below_5 rfl rfl ⟨Nat.le_of_ble_eq_true rfl, Nat.le_of_ble_eq_true rfl⟩ rfl hl.1 (Nat.le_of_ble_eq_true rfl) ⟨Nat.le_of_ble_eq_true rfl, Nat.le_of_ble_eq_true rfl⟩ hK hRO hA hP hS (fun H locs hP hS => ?_)
  refine W.eq (g2 := F0 m 8 ls [.int r5]) rfl ?_
  refine lv_if_eq hx hb dX8_below_8 (tgt := 27) (by decide) (fun hc => ?_) (fun hc => ?_)
  · have Hf := c_i_t Hf hc
    refine lv_iconst (v := 0) hx hb dX8_below_27 (by decide) ?_
    cases Hf
    exact r_zret hx hb hr rfl (Or.inl rfl) hlocks dX8_below_28 (Nat.le_of_ble_eq_true rfl) (Nat.le_of_ble_eq_true rfl) hP hS
  have Hf := c_i_f Hf hc
  refine lv_iload_n hx hb dX8_below_11 rfl (lv_at hl 2 rfl) ?_
  refine lv_iconst (v := 1) hx hb dX8_below_12 (by decide) ?_
  refine lv_sipush (v := 200) hx hb dX8_below_13 (by decide) ?_
  obtain ⟨r16, T16, hq16, Hf⟩ := c_c_some Hf
  refine r_cS (n := 3) (As := [.int x2, .int 1, .int 200]) (rest := []) ⟨hx, hb, hml, hown, hts⟩ (s_X8_isWithin l X hq16) lkm_X8_69 (by decide +kernel) dX8_below_16 rfl rfl ⟨Nat.le_of_ble_eq_true rfl, Nat.le_of_ble_eq_true rfl⟩ rfl hl.1 (Nat.le_of_ble_eq_true rfl) ⟨Nat.le_of_ble_eq_true rfl, Nat.le_of_ble_eq_true rfl⟩ hK hRO hA hP hS (fun H locs hP hS => ?_)
  refine W.eq (g2 := F0 m 19 ls [.int r16]) rfl ?_
  refine lv_if_eq hx hb dX8_below_19 (tgt := 27) (by decide) (fun hc => ?_) (fun hc => ?_)
  · have Hf := c_i_t Hf hc
    refine lv_iconst (v := 0) hx hb dX8_below_27 (by decide) ?_
    cases Hf
    exact r_zret hx hb hr rfl (Or.inl rfl) hlocks dX8_below_28 (Nat.le_of_ble_eq_true rfl) (Nat.le_of_ble_eq_true rfl) hP hS
  have Hf := c_i_f Hf hc
  refine lv_iload_n hx hb dX8_below_22 rfl (lv_at hl 2 rfl) ?_
  refine lv_iload_n hx hb dX8_below_23 rfl (lv_at hl 1 rfl) ?_
  refine lv_icmp_lt hx hb dX8_below_24 (tgt := 29) (by decide) (fun hc => ?_) (fun hc => ?_)
  · have Hf := c_i_t Hf hc
    refine lv_aload_n hx hb dX8_below_29 rfl (lv_at hl 0 rfl) ?_
    obtain ⟨hk_a0, Hf⟩ := c_g_some Hf
    obtain ⟨q30, hq30, Hf⟩ := c_n_some Hf
    refine fg_9_0 hx hb hts hown hK hP hk_a0 lkf_X8_12 hq30 dX8_below_30 ?_
    refine lv_iload_n hx hb dX8_below_33 rfl (lv_at hl 1 rfl) ?_
    refine lv_iload_n hx hb dX8_below_34 rfl (lv_at hl 2 rfl) ?_
    obtain ⟨hk_q30, Hf⟩ := c_g_some Hf
    obtain ⟨r35, T35, hq35, Hf⟩ := c_c_some Hf
    refine r_cV (n := 2) (As := [.int x1, .int x2]) (rest := []) ⟨hx, hb, hml, hown, hts⟩ (s_X7_putBelow l X hq35) lkm_X8_73 (by decide +kernel) rfl (by decide) dX8_below_35 rfl rfl ⟨Nat.le_of_ble_eq_true rfl, Nat.le_of_ble_eq_true rfl⟩ hk_q30 rfl hl.1 (Nat.le_of_ble_eq_true rfl) ⟨Nat.le_of_ble_eq_true rfl, Nat.le_of_ble_eq_true rfl⟩ hK hRO hA hP hS (fun H locs hP hS => ?_)
    refine W.eq (g2 := F0 m 38 ls []) rfl ?_
    refine lv_aload_n hx hb dX8_below_38 rfl (lv_at hl 0 rfl) ?_
    refine lv_dup hx hb dX8_below_39 rfl ?_
    obtain ⟨hk_a0, Hf⟩ := c_g_some Hf
    refine fg_9_9 hx hb hts hown hK hP hk_a0 lkf_X8_66 dX8_below_40 ?_
    refine lv_iconst (v := 1) hx hb dX8_below_43 (by decide) ?_
    refine lv_iadd hx hb dX8_below_44 ?_
    refine fp_9_9 hx hb hts hown hK hP hS hk_a0 lkf_X8_66 dX8_below_45 (fun H locs hP hS => ?_)
    obtain ⟨S_45, eS_45, Hf⟩ := c_l_ex Hf
    have hP : st_HP X (st_A S) S_45 H := by rw [eS_45]; exact hP
    refine lv_iconst (v := 1) hx hb dX8_below_48 (by decide) ?_
    cases Hf
    exact r_zret hx hb hr rfl (Or.inr rfl) hlocks dX8_below_49 (Nat.le_of_ble_eq_true rfl) (Nat.le_of_ble_eq_true rfl) hP hS
  have Hf := c_i_f Hf hc
  refine lv_iconst (v := 0) hx hb dX8_below_27 (by decide) ?_
  cases Hf
  exact r_zret hx hb hr rfl (Or.inl rfl) hlocks dX8_below_28 (Nat.le_of_ble_eq_true rfl) (Nat.le_of_ble_eq_true rfl) hP hS

set_option maxRecDepth 100000 in
def f_X8_feed (S : st_T) (a0 : Nat) (x1 : Int64) (x3 : Int64) (x5 : Int64) : Option (Int32 × st_T) :=
  (c_g (st_K S a0 = 10) (c_n (st_fr S 904 a0) (fun (q1 : Nat) => (c_g (st_K S q1 = 6) (c_c (f_X4_addBytes S q1 x1) (fun (r5 : Unit) (T5 : st_T) => (c_g (st_K T5 a0 = 10) (c_n (st_fr T5 904 a0) (fun (q9 : Nat) => (c_g (st_K T5 q9 = 6) (c_c (f_X4_addBytes T5 q9 x3) (fun (r13 : Unit) (T13 : st_T) => (c_g (st_K T13 a0 = 10) (c_n (st_fr T13 904 a0) (fun (q17 : Nat) => (c_g (st_K T13 q17 = 6) (c_c (f_X4_addBytes T13 q17 x5) (fun (r22 : Unit) (T22 : st_T) => (c_g (st_K T22 a0 = 10) (c_n (st_fr T22 904 a0) (fun (q26 : Nat) => (c_g (st_K T22 q26 = 6) (some ((st_fi T22 501 q26), T22))))))))))))))))))))))))
set_option maxRecDepth 100000 in
set_option maxHeartbeats 4000000 in
theorem s_X8_feed (l : Launch) (X : st_I) {S SE : st_T} {a0 : Nat} {x1 : Int64} {x3 : Int64} {x5 : Int64} {rr : Int32} (Hf : f_X8_feed S a0 x1 x3 x5 = some (rr, SE)) : Met l yX8_feed (Cond.code yX8_feed cX8_feed 7 (some .int) :: lw_g) { frames := 2, cells := 0, slots := 0, locals := 46 } (st_P X S [.ref a0, .long x1, .long x3, .long x5]) (st_Q X (st_A S) (some (.int rr)) SE) 0 0 (st_A S) := by
  refine st_ofW (by decide) (Nat.le_of_ble_eq_true rfl) ?_
  intro p e s m args below meth c hx hb hr hml hlocks hnm hts hown hK hRO hA hP hS ls hl
  have hown : s.vm.findClass RX8 = some m.cls := hown
  have hl : lv_has ls 7 [(0, .ref a0), (1, .long x1), (3, .long x3), (5, .long x5)] := hl
  unfold f_X8_feed at Hf
  refine lv_aload_n hx hb dX8_feed_0 rfl (lv_at hl 0 rfl) ?_
  obtain ⟨hk_a0, Hf⟩ := c_g_some Hf
  obtain ⟨q1, hq1, Hf⟩ := c_n_some Hf
  refine fg_9_4 hx hb hts hown hK hP hk_a0 lkf_X8_38 hq1 dX8_feed_1 ?_
  refine lv_lload_n hx hb dX8_feed_4 rfl (lv_at hl 1 rfl) ?_
  obtain ⟨hk_q1, Hf⟩ := c_g_some Hf
  obtain ⟨r5, T5, hq5, Hf⟩ := c_c_some Hf
  refine r_cV (n := 1) (As := [.long x1]) (rest := []) ⟨hx, hb, hml, hown, hts⟩ (s_X4_addBytes l X hq5) lkm_X8_123 (by decide +kernel) rfl (by decide) dX8_feed_5 rfl rfl ⟨Nat.le_of_ble_eq_true rfl, Nat.le_of_ble_eq_true rfl⟩ hk_q1 rfl hl.1 (Nat.le_of_ble_eq_true rfl) ⟨Nat.le_of_ble_eq_true rfl, Nat.le_of_ble_eq_true rfl⟩ hK hRO hA hP hS (fun H locs hP hS => ?_)
  refine W.eq (g2 := F0 m 8 ls []) rfl ?_
  refine lv_aload_n hx hb dX8_feed_8 rfl (lv_at hl 0 rfl) ?_
  obtain ⟨hk_a0, Hf⟩ := c_g_some Hf
  obtain ⟨q9, hq9, Hf⟩ := c_n_some Hf
  refine fg_9_4 hx hb hts hown hK hP hk_a0 lkf_X8_38 hq9 dX8_feed_9 ?_
  refine lv_lload_n hx hb dX8_feed_12 rfl (lv_at hl 2 rfl) ?_
  obtain ⟨hk_q9, Hf⟩ := c_g_some Hf
  obtain ⟨r13, T13, hq13, Hf⟩ := c_c_some Hf
  refine r_cV (n := 1) (As := [.long x3]) (rest := []) ⟨hx, hb, hml, hown, hts⟩ (s_X4_addBytes l X hq13) lkm_X8_123 (by decide +kernel) rfl (by decide) dX8_feed_13 rfl rfl ⟨Nat.le_of_ble_eq_true rfl, Nat.le_of_ble_eq_true rfl⟩ hk_q9 rfl hl.1 (Nat.le_of_ble_eq_true rfl) ⟨Nat.le_of_ble_eq_true rfl, Nat.le_of_ble_eq_true rfl⟩ hK hRO hA hP hS (fun H locs hP hS => ?_)
  refine W.eq (g2 := F0 m 16 ls []) rfl ?_
  refine lv_aload_n hx hb dX8_feed_16 rfl (lv_at hl 0 rfl) ?_
  obtain ⟨hk_a0, Hf⟩ := c_g_some Hf
  obtain ⟨q17, hq17, Hf⟩ := c_n_some Hf
  refine fg_9_4 hx hb hts hown hK hP hk_a0 lkf_X8_38 hq17 dX8_feed_17 ?_
  refine lv_lload hx hb dX8_feed_20 (lv_at hl 3 rfl) ?_
  obtain ⟨hk_q17, Hf⟩ := c_g_some Hf
  obtain ⟨r22, T22, hq22, Hf⟩ := c_c_some Hf
  refine r_cV (n := 1) (As := [.long x5]) (rest := []) ⟨hx, hb, hml, hown, hts⟩ (s_X4_addBytes l X hq22) lkm_X8_123 (by decide +kernel) rfl (by decide) dX8_feed_22 rfl rfl ⟨Nat.le_of_ble_eq_true rfl, Nat.le_of_ble_eq_true rfl⟩ hk_q17 rfl hl.1 (Nat.le_of_ble_eq_true rfl) ⟨Nat.le_of_ble_eq_true rfl, Nat.le_of_ble_eq_true rfl⟩ hK hRO hA hP hS (fun H locs hP hS => ?_)
  refine W.eq (g2 := F0 m 25 ls []) rfl ?_
  refine lv_aload_n hx hb dX8_feed_25 rfl (lv_at hl 0 rfl) ?_
  obtain ⟨hk_a0, Hf⟩ := c_g_some Hf
  obtain ⟨q26, hq26, Hf⟩ := c_n_some Hf
  refine fg_9_4 hx hb hts hown hK hP hk_a0 lkf_X8_38 hq26 dX8_feed_26 ?_
  obtain ⟨hk_q26, Hf⟩ := c_g_some Hf
  refine fg_5_1 hx hb hts hown hK hP hk_q26 lkf_X8_127 dX8_feed_29 ?_
  cases Hf
  exact r_iret hx hb hr rfl hlocks dX8_feed_32 (Nat.le_of_ble_eq_true rfl) (Nat.le_of_ble_eq_true rfl) hP hS

set_option maxRecDepth 100000 in
def f_X8_putInForce (S : st_T) (a0 : Nat) (x1 : Int32) : Option (Unit × st_T) :=
  (c_g (st_K S a0 = 10) (c_l (st_pi S 908 a0 x1) (fun (S_2 : st_T) => (c_l (st_pi S_2 909 a0 ((st_fi S_2 909 a0) + 1)) (fun (S_12 : st_T) => (some ((), S_12)))))))
set_option maxRecDepth 100000 in
set_option maxHeartbeats 4000000 in
theorem s_X8_putInForce (l : Launch) (X : st_I) {S SE : st_T} {a0 : Nat} {x1 : Int32} {rr : Unit} (Hf : f_X8_putInForce S a0 x1 = some (rr, SE)) : Met l yX8_putInForce (Cond.code yX8_putInForce cX8_putInForce 2 (none) :: lw_g) { frames := 0, cells := 0, slots := 0, locals := 0 } (st_P X S [.ref a0, .int x1]) (st_Q X (st_A S) none SE) 0 0 (st_A S) := by
  refine st_ofW (by decide) (Nat.le_of_ble_eq_true rfl) ?_
  intro p e s m args below meth c hx hb hr hml hlocks hnm hts hown hK hRO hA hP hS ls hl
  have hown : s.vm.findClass RX8 = some m.cls := hown
  have hl : lv_has ls 2 [(0, .ref a0), (1, .int x1)] := hl
  unfold f_X8_putInForce at Hf
  refine lv_aload_n hx hb dX8_putInForce_0 rfl (lv_at hl 0 rfl) ?_
  refine lv_iload_n hx hb dX8_putInForce_1 rfl (lv_at hl 1 rfl) ?_
  obtain ⟨hk_a0, Hf⟩ := c_g_some Hf
  refine fp_9_8 hx hb hts hown hK hP hS hk_a0 lkf_X8_62 dX8_putInForce_2 (fun H locs hP hS => ?_)
  obtain ⟨S_2, eS_2, Hf⟩ := c_l_ex Hf
  have hP : st_HP X (st_A S) S_2 H := by rw [eS_2]; exact hP
  refine lv_aload_n hx hb dX8_putInForce_5 rfl (lv_at hl 0 rfl) ?_
  refine lv_dup hx hb dX8_putInForce_6 rfl ?_
  have hk_a0 : st_K S_2 a0 = 10 := by rw [kp_pi eS_2]; exact hk_a0
  refine fg_9_9 hx hb hts hown hK hP hk_a0 lkf_X8_66 dX8_putInForce_7 ?_
  refine lv_iconst (v := 1) hx hb dX8_putInForce_10 (by decide) ?_
  refine lv_iadd hx hb dX8_putInForce_11 ?_
  refine fp_9_9 hx hb hts hown hK hP hS hk_a0 lkf_X8_66 dX8_putInForce_12 (fun H locs hP hS => ?_)
  obtain ⟨S_12, eS_12, Hf⟩ := c_l_ex Hf
  have hP : st_HP X (st_A S) S_12 H := by rw [eS_12]; exact hP
  cases Hf
  exact r_vret hx hb hr rfl hlocks dX8_putInForce_15 (Nat.le_of_ble_eq_true rfl) (Nat.le_of_ble_eq_true rfl) hP hS

def j_X8_choose_24 (a0 : Nat) (x1 : Int32) (S24 : st_T) : Option (Int32 × st_T) :=
  (c_g (st_K S24 a0 = 10) (c_c (f_X8_putInForce S24 a0 x1) (fun (r26 : Unit) (T26 : st_T) => (some (1, T26)))))
set_option maxRecDepth 100000 in
def f_X8_choose (S : st_T) (a0 : Nat) (x1 : Int32) : Option (Int32 × st_T) :=
  (c_i (x1 = (-1)) (j_X8_choose_24 a0 x1 S) (c_g (st_K S a0 = 10) (c_n (st_fr S 902 a0) (fun (q8 : Nat) => (c_g (st_K S q8 = 1) (c_c (f_Jx4a65c_size_8abf5 S q8) (fun (r11 : Int32) (T11 : st_T) => (c_c (f_X8_isWithin T11 x1 0 (r11 - 1)) (fun (r16 : Int32) (T16 : st_T) => (c_i (r16 = 0) (some (0, T16)) (j_X8_choose_24 a0 x1 T16)))))))))))
set_option maxRecDepth 100000 in
set_option maxHeartbeats 4000000 in
theorem s_X8_choose (l : Launch) (X : st_I) {S SE : st_T} {a0 : Nat} {x1 : Int32} {rr : Int32} (Hf : f_X8_choose S a0 x1 = some (rr, SE)) : Met l yX8_choose (Cond.code yX8_choose cX8_choose 2 (some .boolean) :: lw_g) { frames := 1, cells := 0, slots := 0, locals := 22 } (st_P X S [.ref a0, .int x1]) (st_Q X (st_A S) (some (.int rr)) SE) 0 0 (st_A S) := by
  refine st_ofW (by decide) (Nat.le_of_ble_eq_true rfl) ?_
  intro p e s m args below meth c hx hb hr hml hlocks hnm hts hown hK hRO hA hP hS ls hl
  have hown : s.vm.findClass RX8 = some m.cls := hown
  have hl : lv_has ls 2 [(0, .ref a0), (1, .int x1)] := hl
  unfold f_X8_choose at Hf
  refine lv_iload_n hx hb dX8_choose_0 rfl (lv_at hl 1 rfl) ?_
  refine lv_iconst (v := (-1)) hx hb dX8_choose_1 (by decide) ?_
  have hJ24 : ∀ (S24 : st_T), j_X8_choose_24 a0 x1 S24 = some (rr, SE) → ∀ (H : Heap) (locs : List Loc) (ls : Array Slot), st_HP X (st_A S) S24 H → va_S (st_A S) s.heap H locs → lv_has ls 2 [(0, .ref a0), (1, .int x1)] → W p l e { frames := 1, cells := 0, slots := 0, locals := 22 } s m args below meth c H locs 0 0 (MQ below (st_Q X (st_A S) (some (.int rr)) SE) args s 0 0 (st_A S)) (F0 m 24 ls []) := by
    intro S24 Hf H locs ls hP hS hl
    unfold j_X8_choose_24 at Hf
    refine lv_aload_n hx hb dX8_choose_24 rfl (lv_at hl 0 rfl) ?_
    refine lv_iload_n hx hb dX8_choose_25 rfl (lv_at hl 1 rfl) ?_
    obtain ⟨hk_a0, Hf⟩ := c_g_some Hf
    obtain ⟨r26, T26, hq26, Hf⟩ := c_c_some Hf
    refine r_cV (n := 1) (As := [.int x1]) (rest := []) ⟨hx, hb, hml, hown, hts⟩ (s_X8_putInForce l X hq26) lkm_X8_137 (by decide +kernel) rfl (by decide) dX8_choose_26 rfl rfl ⟨Nat.le_of_ble_eq_true rfl, Nat.le_of_ble_eq_true rfl⟩ hk_a0 rfl hl.1 (Nat.le_of_ble_eq_true rfl) ⟨Nat.le_of_ble_eq_true rfl, Nat.le_of_ble_eq_true rfl⟩ hK hRO hA hP hS (fun H locs hP hS => ?_)
    refine W.eq (g2 := F0 m 29 ls []) rfl ?_
    refine lv_iconst (v := 1) hx hb dX8_choose_29 (by decide) ?_
    cases Hf
    exact r_zret hx hb hr rfl (Or.inr rfl) hlocks dX8_choose_30 (Nat.le_of_ble_eq_true rfl) (Nat.le_of_ble_eq_true rfl) hP hS
  refine lv_icmp_eq hx hb dX8_choose_2 (tgt := 24) (by decide) (fun hc => ?_) (fun hc => ?_)
  · have Hf := c_i_t Hf hc
    exact hJ24 S Hf _ _ _ hP hS (lv_sub hl [0, 1] rfl)
  have Hf := c_i_f Hf hc
  refine lv_iload_n hx hb dX8_choose_5 rfl (lv_at hl 1 rfl) ?_
  refine lv_iconst (v := 0) hx hb dX8_choose_6 (by decide) ?_
  refine lv_aload_n hx hb dX8_choose_7 rfl (lv_at hl 0 rfl) ?_
  obtain ⟨hk_a0, Hf⟩ := c_g_some Hf
  obtain ⟨q8, hq8, Hf⟩ := c_n_some Hf
  refine fg_9_2 hx hb hts hown hK hP hk_a0 lkf_X8_23 hq8 dX8_choose_8 ?_
  obtain ⟨hk_q8, Hf⟩ := c_g_some Hf
  obtain ⟨r11, T11, hq11, Hf⟩ := c_c_some Hf
  refine r_cV (n := 0) (As := []) (rest := [.int 0, .int x1]) ⟨hx, hb, hml, hown, hts⟩ (s_Jx4a65c_size_8abf5 l X hq11) lkm_X8_81 (by decide +kernel) rfl (by decide) dX8_choose_11 rfl rfl ⟨Nat.le_of_ble_eq_true rfl, Nat.le_of_ble_eq_true rfl⟩ hk_q8 rfl hl.1 (Nat.le_of_ble_eq_true rfl) ⟨Nat.le_of_ble_eq_true rfl, Nat.le_of_ble_eq_true rfl⟩ hK hRO hA hP hS (fun H locs hP hS => ?_)
  refine W.eq (g2 := F0 m 14 ls [.int r11, .int 0, .int x1]) rfl ?_
  refine lv_iconst (v := 1) hx hb dX8_choose_14 (by decide) ?_
  refine lv_isub hx hb dX8_choose_15 ?_
  obtain ⟨r16, T16, hq16, Hf⟩ := c_c_some Hf
  refine r_cS (n := 3) (As := [.int x1, .int 0, .int (r11 - 1)]) (rest := []) ⟨hx, hb, hml, hown, hts⟩ (s_X8_isWithin l X hq16) lkm_X8_69 (by decide +kernel) dX8_choose_16 rfl rfl ⟨Nat.le_of_ble_eq_true rfl, Nat.le_of_ble_eq_true rfl⟩ rfl hl.1 (Nat.le_of_ble_eq_true rfl) ⟨Nat.le_of_ble_eq_true rfl, Nat.le_of_ble_eq_true rfl⟩ hK hRO hA hP hS (fun H locs hP hS => ?_)
  refine W.eq (g2 := F0 m 19 ls [.int r16]) rfl ?_
  refine lv_if_ne hx hb dX8_choose_19 (tgt := 24) (by decide) (fun hc => ?_) (fun hc => ?_)
  · have Hf := c_i_f Hf hc
    exact hJ24 T16 Hf _ _ _ hP hS (lv_sub hl [0, 1] rfl)
  have Hf := c_i_t Hf hc
  refine lv_iconst (v := 0) hx hb dX8_choose_22 (by decide) ?_
  cases Hf
  exact r_zret hx hb hr rfl (Or.inl rfl) hlocks dX8_choose_23 (Nat.le_of_ble_eq_true rfl) (Nat.le_of_ble_eq_true rfl) hP hS

set_option maxRecDepth 100000 in
def f_X8_find (S : st_T) (a0 : Nat) (x1 : Int32) : Option (Option Nat × st_T) :=
  (c_g (st_K S a0 = 10) (c_n (st_fr S 901 a0) (fun (q3 : Nat) => (c_g (st_K S q3 = 1) (c_c (f_Jx4a65c_size_8abf5 S q3) (fun (r6 : Int32) (T6 : st_T) => (c_c (f_X8_isWithin T6 x1 0 (r6 - 1)) (fun (r11 : Int32) (T11 : st_T) => (c_i (r11 = 0) (some (none, T11)) (c_g (st_K T11 a0 = 10) (c_n (st_fr T11 901 a0) (fun (q18 : Nat) => (c_g (st_K T11 q18 = 1) (c_c (f_Jx4a65c_get_915e3 T11 q18 x1) (fun (r22 : Option Nat) (T22 : st_T) => (c_n r22 (fun (p22 : Nat) => (c_g (st_K T22 p22 = 3) (some ((some p22), T22))))))))))))))))))))
set_option maxRecDepth 100000 in
set_option maxHeartbeats 4000000 in
theorem s_X8_find (l : Launch) (X : st_I) {S SE : st_T} {a0 : Nat} {x1 : Int32} {rr : Option Nat} (Hf : f_X8_find S a0 x1 = some (rr, SE)) : Met l yX8_find (Cond.code yX8_find cX8_find 2 (some (.object "DayDiary$Diary")) :: lw_g) { frames := 3, cells := 0, slots := 0, locals := 64 } (st_P X S [.ref a0, .int x1]) (st_Q X (st_A S) (some (va_rf rr)) SE) 0 0 (st_A S) := by
  refine st_ofW (by decide) (Nat.le_of_ble_eq_true rfl) ?_
  intro p e s m args below meth c hx hb hr hml hlocks hnm hts hown hK hRO hA hP hS ls hl
  have hown : s.vm.findClass RX8 = some m.cls := hown
  have hl : lv_has ls 2 [(0, .ref a0), (1, .int x1)] := hl
  unfold f_X8_find at Hf
  refine lv_iload_n hx hb dX8_find_0 rfl (lv_at hl 1 rfl) ?_
  refine lv_iconst (v := 0) hx hb dX8_find_1 (by decide) ?_
  refine lv_aload_n hx hb dX8_find_2 rfl (lv_at hl 0 rfl) ?_
  obtain ⟨hk_a0, Hf⟩ := c_g_some Hf
  obtain ⟨q3, hq3, Hf⟩ := c_n_some Hf
  refine fg_9_1 hx hb hts hown hK hP hk_a0 lkf_X8_19 hq3 dX8_find_3 ?_
  obtain ⟨hk_q3, Hf⟩ := c_g_some Hf
  obtain ⟨r6, T6, hq6, Hf⟩ := c_c_some Hf
  refine r_cV (n := 0) (As := []) (rest := [.int 0, .int x1]) ⟨hx, hb, hml, hown, hts⟩ (s_Jx4a65c_size_8abf5 l X hq6) lkm_X8_81 (by decide +kernel) rfl (by decide) dX8_find_6 rfl rfl ⟨Nat.le_of_ble_eq_true rfl, Nat.le_of_ble_eq_true rfl⟩ hk_q3 rfl hl.1 (Nat.le_of_ble_eq_true rfl) ⟨Nat.le_of_ble_eq_true rfl, Nat.le_of_ble_eq_true rfl⟩ hK hRO hA hP hS (fun H locs hP hS => ?_)
  refine W.eq (g2 := F0 m 9 ls [.int r6, .int 0, .int x1]) rfl ?_
  refine lv_iconst (v := 1) hx hb dX8_find_9 (by decide) ?_
  refine lv_isub hx hb dX8_find_10 ?_
  obtain ⟨r11, T11, hq11, Hf⟩ := c_c_some Hf
  refine r_cS (n := 3) (As := [.int x1, .int 0, .int (r6 - 1)]) (rest := []) ⟨hx, hb, hml, hown, hts⟩ (s_X8_isWithin l X hq11) lkm_X8_69 (by decide +kernel) dX8_find_11 rfl rfl ⟨Nat.le_of_ble_eq_true rfl, Nat.le_of_ble_eq_true rfl⟩ rfl hl.1 (Nat.le_of_ble_eq_true rfl) ⟨Nat.le_of_ble_eq_true rfl, Nat.le_of_ble_eq_true rfl⟩ hK hRO hA hP hS (fun H locs hP hS => ?_)
  refine W.eq (g2 := F0 m 14 ls [.int r11]) rfl ?_
  refine lv_if_eq hx hb dX8_find_14 (tgt := 31) (by decide) (fun hc => ?_) (fun hc => ?_)
  · have Hf := c_i_t Hf hc
    refine lv_null hx hb dX8_find_31 ?_
    cases Hf
    exact r_aret (v := none) hx hb hr rfl (Or.inl ⟨_, rfl⟩) hlocks dX8_find_32 (Nat.le_of_ble_eq_true rfl) (Nat.le_of_ble_eq_true rfl) hP hS
  have Hf := c_i_f Hf hc
  refine lv_aload_n hx hb dX8_find_17 rfl (lv_at hl 0 rfl) ?_
  obtain ⟨hk_a0, Hf⟩ := c_g_some Hf
  obtain ⟨q18, hq18, Hf⟩ := c_n_some Hf
  refine fg_9_1 hx hb hts hown hK hP hk_a0 lkf_X8_19 hq18 dX8_find_18 ?_
  refine lv_iload_n hx hb dX8_find_21 rfl (lv_at hl 1 rfl) ?_
  obtain ⟨hk_q18, Hf⟩ := c_g_some Hf
  obtain ⟨r22, T22, hq22, Hf⟩ := c_c_some Hf
  refine r_cV (n := 1) (As := [.int x1]) (rest := []) ⟨hx, hb, hml, hown, hts⟩ (s_Jx4a65c_get_915e3 l X hq22) lkm_X8_85 (by decide +kernel) rfl (by decide) dX8_find_22 rfl rfl ⟨Nat.le_of_ble_eq_true rfl, Nat.le_of_ble_eq_true rfl⟩ hk_q18 rfl hl.1 (Nat.le_of_ble_eq_true rfl) ⟨Nat.le_of_ble_eq_true rfl, Nat.le_of_ble_eq_true rfl⟩ hK hRO hA hP hS (fun H locs hP hS => ?_)
  obtain ⟨p22, ep22, Hf⟩ := c_n_some Hf
  subst ep22
  refine W.eq (g2 := F0 m 25 ls [.ref p22]) rfl ?_
  obtain ⟨hk_p22, Hf⟩ := c_g_some Hf
  refine va_castE hx hb hown (hts _ (lg_1 341 rfl rfl)) (st_recv hK hP hk_p22 (by decide) rfl) dX8_find_25 ?_
  refine lv_goto hx hb dX8_find_28 (tgt := 32) (by decide) ?_
  cases Hf
  exact r_aret (v := (some p22)) hx hb hr rfl (Or.inl ⟨_, rfl⟩) hlocks dX8_find_32 (Nat.le_of_ble_eq_true rfl) (Nat.le_of_ble_eq_true rfl) hP hS

set_option maxRecDepth 100000 in
def f_X8_textInForce (S : st_T) (a0 : Nat) : Option (Option Nat × st_T) :=
  (c_g (st_K S a0 = 10) (c_n (st_fr S 902 a0) (fun (q6 : Nat) => (c_g (st_K S q6 = 1) (c_c (f_Jx4a65c_size_8abf5 S q6) (fun (r9 : Int32) (T9 : st_T) => (c_c (f_X8_isWithin T9 (st_fi S 908 a0) 0 (r9 - 1)) (fun (r14 : Int32) (T14 : st_T) => (c_i (r14 = 0) (c_g (st_K T14 a0 = 10) (c_n (st_fr T14 903 a0) (fun (q38 : Nat) => (some ((some q38), T14))))) (c_g (st_K T14 a0 = 10) (c_n (st_fr T14 902 a0) (fun (q21 : Nat) => (c_g (st_K T14 q21 = 1) (c_c (f_Jx4a65c_get_915e3 T14 q21 (st_fi T14 908 a0)) (fun (r28 : Option Nat) (T28 : st_T) => (c_n r28 (fun (p28 : Nat) => (c_g (st_K T28 p28 = 7) (some ((some p28), T28))))))))))))))))))))
set_option maxRecDepth 100000 in
set_option maxHeartbeats 4000000 in
theorem s_X8_textInForce (l : Launch) (X : st_I) {S SE : st_T} {a0 : Nat} {rr : Option Nat} (Hf : f_X8_textInForce S a0 = some (rr, SE)) : Met l yX8_textInForce (Cond.code yX8_textInForce cX8_textInForce 1 (some (.object "DayDiary$Text")) :: lw_g) { frames := 3, cells := 0, slots := 0, locals := 64 } (st_P X S [.ref a0]) (st_Q X (st_A S) (some (va_rf rr)) SE) 0 0 (st_A S) := by
  refine st_ofW (by decide) (Nat.le_of_ble_eq_true rfl) ?_
  intro p e s m args below meth c hx hb hr hml hlocks hnm hts hown hK hRO hA hP hS ls hl
  have hown : s.vm.findClass RX8 = some m.cls := hown
  have hl : lv_has ls 1 [(0, .ref a0)] := hl
  unfold f_X8_textInForce at Hf
  refine lv_aload_n hx hb dX8_textInForce_0 rfl (lv_at hl 0 rfl) ?_
  obtain ⟨hk_a0, Hf⟩ := c_g_some Hf
  refine fg_9_8 hx hb hts hown hK hP hk_a0 lkf_X8_62 dX8_textInForce_1 ?_
  refine lv_iconst (v := 0) hx hb dX8_textInForce_4 (by decide) ?_
  refine lv_aload_n hx hb dX8_textInForce_5 rfl (lv_at hl 0 rfl) ?_
  obtain ⟨q6, hq6, Hf⟩ := c_n_some Hf
  refine fg_9_2 hx hb hts hown hK hP hk_a0 lkf_X8_23 hq6 dX8_textInForce_6 ?_
  obtain ⟨hk_q6, Hf⟩ := c_g_some Hf
  obtain ⟨r9, T9, hq9, Hf⟩ := c_c_some Hf
  refine r_cV (n := 0) (As := []) (rest := [.int 0, .int (st_fi S 908 a0)]) ⟨hx, hb, hml, hown, hts⟩ (s_Jx4a65c_size_8abf5 l X hq9) lkm_X8_81 (by decide +kernel) rfl (by decide) dX8_textInForce_9 rfl rfl ⟨Nat.le_of_ble_eq_true rfl, Nat.le_of_ble_eq_true rfl⟩ hk_q6 rfl hl.1 (Nat.le_of_ble_eq_true rfl) ⟨Nat.le_of_ble_eq_true rfl, Nat.le_of_ble_eq_true rfl⟩ hK hRO hA hP hS (fun H locs hP hS => ?_)
  refine W.eq (g2 := F0 m 12 ls [.int r9, .int 0, .int (st_fi S 908 a0)]) rfl ?_
  refine lv_iconst (v := 1) hx hb dX8_textInForce_12 (by decide) ?_
  refine lv_isub hx hb dX8_textInForce_13 ?_
  obtain ⟨r14, T14, hq14, Hf⟩ := c_c_some Hf
  refine r_cS (n := 3) (As := [.int (st_fi S 908 a0), .int 0, .int (r9 - 1)]) (rest := []) ⟨hx, hb, hml, hown, hts⟩ (s_X8_isWithin l X hq14) lkm_X8_69 (by decide +kernel) dX8_textInForce_14 rfl rfl ⟨Nat.le_of_ble_eq_true rfl, Nat.le_of_ble_eq_true rfl⟩ rfl hl.1 (Nat.le_of_ble_eq_true rfl) ⟨Nat.le_of_ble_eq_true rfl, Nat.le_of_ble_eq_true rfl⟩ hK hRO hA hP hS (fun H locs hP hS => ?_)
  refine W.eq (g2 := F0 m 17 ls [.int r14]) rfl ?_
  refine lv_if_eq hx hb dX8_textInForce_17 (tgt := 37) (by decide) (fun hc => ?_) (fun hc => ?_)
  · have Hf := c_i_t Hf hc
    refine lv_aload_n hx hb dX8_textInForce_37 rfl (lv_at hl 0 rfl) ?_
    obtain ⟨hk_a0, Hf⟩ := c_g_some Hf
    obtain ⟨q38, hq38, Hf⟩ := c_n_some Hf
    refine fg_9_3 hx hb hts hown hK hP hk_a0 lkf_X8_31 hq38 dX8_textInForce_38 ?_
    cases Hf
    exact r_aret (v := (some q38)) hx hb hr rfl (Or.inl ⟨_, rfl⟩) hlocks dX8_textInForce_41 (Nat.le_of_ble_eq_true rfl) (Nat.le_of_ble_eq_true rfl) hP hS
  have Hf := c_i_f Hf hc
  refine lv_aload_n hx hb dX8_textInForce_20 rfl (lv_at hl 0 rfl) ?_
  obtain ⟨hk_a0, Hf⟩ := c_g_some Hf
  obtain ⟨q21, hq21, Hf⟩ := c_n_some Hf
  refine fg_9_2 hx hb hts hown hK hP hk_a0 lkf_X8_23 hq21 dX8_textInForce_21 ?_
  refine lv_aload_n hx hb dX8_textInForce_24 rfl (lv_at hl 0 rfl) ?_
  refine fg_9_8 hx hb hts hown hK hP hk_a0 lkf_X8_62 dX8_textInForce_25 ?_
  obtain ⟨hk_q21, Hf⟩ := c_g_some Hf
  obtain ⟨r28, T28, hq28, Hf⟩ := c_c_some Hf
  refine r_cV (n := 1) (As := [.int (st_fi T14 908 a0)]) (rest := []) ⟨hx, hb, hml, hown, hts⟩ (s_Jx4a65c_get_915e3 l X hq28) lkm_X8_85 (by decide +kernel) rfl (by decide) dX8_textInForce_28 rfl rfl ⟨Nat.le_of_ble_eq_true rfl, Nat.le_of_ble_eq_true rfl⟩ hk_q21 rfl hl.1 (Nat.le_of_ble_eq_true rfl) ⟨Nat.le_of_ble_eq_true rfl, Nat.le_of_ble_eq_true rfl⟩ hK hRO hA hP hS (fun H locs hP hS => ?_)
  obtain ⟨p28, ep28, Hf⟩ := c_n_some Hf
  subst ep28
  refine W.eq (g2 := F0 m 31 ls [.ref p28]) rfl ?_
  obtain ⟨hk_p28, Hf⟩ := c_g_some Hf
  refine va_castE hx hb hown (hts _ (lg_1 137 rfl rfl)) (st_recv hK hP hk_p28 (by decide) rfl) dX8_textInForce_31 ?_
  refine lv_goto hx hb dX8_textInForce_34 (tgt := 41) (by decide) ?_
  cases Hf
  exact r_aret (v := (some p28)) hx hb hr rfl (Or.inl ⟨_, rfl⟩) hlocks dX8_textInForce_41 (Nat.le_of_ble_eq_true rfl) (Nat.le_of_ble_eq_true rfl) hP hS

set_option maxRecDepth 100000 in
def f_X8_findCoded (S : st_T) (a0 : Nat) (x1 : Int32) : Option (Option Nat × st_T) :=
  (c_g (st_K S a0 = 10) (c_c (f_X8_find S a0 x1) (fun (r2 : Option Nat) (T2 : st_T) => (c_o r2 (some (none, T2)) (fun (p2 : Nat) => (c_g (st_K T2 a0 = 10) (c_n (st_fr T2 906 a0) (fun (q11 : Nat) => (c_c (f_X8_textInForce T2 a0) (fun (r16 : Option Nat) (T16 : st_T) => (c_n r16 (fun (p16 : Nat) => (c_g (st_K T16 a0 = 10) (c_g (st_K T16 q11 = 2) (c_c (f_X0_refresh T16 q11 p2 p16 (st_fi T16 909 a0)) (fun (r23 : Unit) (T23 : st_T) => (some ((some p2), T23))))))))))))))))))
set_option maxRecDepth 100000 in
set_option maxHeartbeats 4000000 in
theorem s_X8_findCoded (l : Launch) (X : st_I) {S SE : st_T} {a0 : Nat} {x1 : Int32} {rr : Option Nat} (Hf : f_X8_findCoded S a0 x1 = some (rr, SE)) : Met l yX8_findCoded (Cond.code yX8_findCoded cX8_findCoded 3 (some (.object "DayDiary$Diary")) :: lw_g) { frames := 6, cells := 0, slots := 0, locals := 146 } (st_P X S [.ref a0, .int x1]) (st_Q X (st_A S) (some (va_rf rr)) SE) 0 0 (st_A S) := by
  refine st_ofW (by decide) (Nat.le_of_ble_eq_true rfl) ?_
  intro p e s m args below meth c hx hb hr hml hlocks hnm hts hown hK hRO hA hP hS ls hl
  have hown : s.vm.findClass RX8 = some m.cls := hown
  have hl : lv_has ls 3 [(0, .ref a0), (1, .int x1)] := hl
  unfold f_X8_findCoded at Hf
  refine lv_aload_n hx hb dX8_findCoded_0 rfl (lv_at hl 0 rfl) ?_
  refine lv_iload_n hx hb dX8_findCoded_1 rfl (lv_at hl 1 rfl) ?_
  obtain ⟨hk_a0, Hf⟩ := c_g_some Hf
  obtain ⟨r2, T2, hq2, Hf⟩ := c_c_some Hf
  refine r_cV (n := 1) (As := [.int x1]) (rest := []) ⟨hx, hb, hml, hown, hts⟩ (s_X8_find l X hq2) lkm_X8_104 (by decide +kernel) rfl (by decide) dX8_findCoded_2 rfl rfl ⟨Nat.le_of_ble_eq_true rfl, Nat.le_of_ble_eq_true rfl⟩ hk_a0 rfl hl.1 (Nat.le_of_ble_eq_true rfl) ⟨Nat.le_of_ble_eq_true rfl, Nat.le_of_ble_eq_true rfl⟩ hK hRO hA hP hS (fun H locs hP hS => ?_)
  rcases r2 with _ | p2
  · have Hf := c_o_n Hf
    refine W.eq (g2 := F0 m 5 ls [.null]) rfl ?_
    refine lv_astore_nN (lv' := [(2, .null), (0, .ref a0), (1, .int x1)]) hx hb dX8_findCoded_5 rfl hl (by decide) rfl (fun ls hl => ?_)
    refine lv_aload_nN hx hb dX8_findCoded_6 rfl (lv_at hl 0 rfl) ?_
    refine lv_ifnullN hx hb dX8_findCoded_7 (tgt := 26) (by decide) ?_
    refine lv_aload_nN hx hb dX8_findCoded_26 rfl (lv_at hl 0 rfl) ?_
    cases Hf
    exact r_aret (v := none) hx hb hr rfl (Or.inl ⟨_, rfl⟩) hlocks dX8_findCoded_27 (Nat.le_of_ble_eq_true rfl) (Nat.le_of_ble_eq_true rfl) hP hS
  have Hf := c_o_s Hf
  refine W.eq (g2 := F0 m 5 ls [.ref p2]) rfl ?_
  refine lv_astore_n (lv' := [(2, .ref p2), (0, .ref a0), (1, .int x1)]) hx hb dX8_findCoded_5 rfl hl (by decide) rfl (fun ls hl => ?_)
  refine lv_aload_n hx hb dX8_findCoded_6 rfl (lv_at hl 0 rfl) ?_
  refine lv_ifnull hx hb dX8_findCoded_7 ?_
  refine lv_aload_n hx hb dX8_findCoded_10 rfl (lv_at hl 1 rfl) ?_
  obtain ⟨hk_a0, Hf⟩ := c_g_some Hf
  obtain ⟨q11, hq11, Hf⟩ := c_n_some Hf
  refine fg_9_6 hx hb hts hown hK hP hk_a0 lkf_X8_54 hq11 dX8_findCoded_11 ?_
  refine lv_aload_n hx hb dX8_findCoded_14 rfl (lv_at hl 0 rfl) ?_
  refine lv_aload_n hx hb dX8_findCoded_15 rfl (lv_at hl 1 rfl) ?_
  obtain ⟨r16, T16, hq16, Hf⟩ := c_c_some Hf
  refine r_cV (n := 0) (As := []) (rest := [.ref p2, .ref q11]) ⟨hx, hb, hml, hown, hts⟩ (s_X8_textInForce l X hq16) lkm_X8_231 (by decide +kernel) rfl (by decide) dX8_findCoded_16 rfl rfl ⟨Nat.le_of_ble_eq_true rfl, Nat.le_of_ble_eq_true rfl⟩ hk_a0 rfl hl.1 (Nat.le_of_ble_eq_true rfl) ⟨Nat.le_of_ble_eq_true rfl, Nat.le_of_ble_eq_true rfl⟩ hK hRO hA hP hS (fun H locs hP hS => ?_)
  obtain ⟨p16, ep16, Hf⟩ := c_n_some Hf
  subst ep16
  refine W.eq (g2 := F0 m 19 ls [.ref p16, .ref p2, .ref q11]) rfl ?_
  refine lv_aload_n hx hb dX8_findCoded_19 rfl (lv_at hl 1 rfl) ?_
  obtain ⟨hk_a0, Hf⟩ := c_g_some Hf
  refine fg_9_9 hx hb hts hown hK hP hk_a0 lkf_X8_66 dX8_findCoded_20 ?_
  obtain ⟨hk_q11, Hf⟩ := c_g_some Hf
  obtain ⟨r23, T23, hq23, Hf⟩ := c_c_some Hf
  refine r_cV (n := 3) (As := [.ref p2, .ref p16, .int (st_fi T16 909 a0)]) (rest := []) ⟨hx, hb, hml, hown, hts⟩ (s_X0_refresh l X hq23) lkm_X8_237 (by decide +kernel) rfl (by decide) dX8_findCoded_23 rfl rfl ⟨Nat.le_of_ble_eq_true rfl, Nat.le_of_ble_eq_true rfl⟩ hk_q11 rfl hl.1 (Nat.le_of_ble_eq_true rfl) ⟨Nat.le_of_ble_eq_true rfl, Nat.le_of_ble_eq_true rfl⟩ hK hRO hA hP hS (fun H locs hP hS => ?_)
  refine W.eq (g2 := F0 m 26 ls []) rfl ?_
  refine lv_aload_n hx hb dX8_findCoded_26 rfl (lv_at hl 0 rfl) ?_
  cases Hf
  exact r_aret (v := (some p2)) hx hb hr rfl (Or.inl ⟨_, rfl⟩) hlocks dX8_findCoded_27 (Nat.le_of_ble_eq_true rfl) (Nat.le_of_ble_eq_true rfl) hP hS

def b_X8_codeDiaries_2 (a0 : Nat) (rec2 : st_T × Int32 → Option (Unit × st_T)) (q : st_T × Int32) : Option (Unit × st_T) :=
  (fun (S2 : st_T) (y1_2 : Int32) =>
  (c_g (st_K S2 a0 = 10) (c_n (st_fr S2 901 a0) (fun (q4 : Nat) => (c_g (st_K S2 q4 = 1) (c_c (f_Jx4a65c_size_8abf5 S2 q4) (fun (r7 : Int32) (T7 : st_T) => (c_i (r7 ≤ y1_2) (some ((), T7)) (c_g (st_K T7 a0 = 10) (c_n (st_fr T7 906 a0) (fun (q14 : Nat) => (c_n (st_fr T7 901 a0) (fun (q18 : Nat) => (c_g (st_K T7 q18 = 1) (c_c (f_Jx4a65c_get_915e3 T7 q18 y1_2) (fun (r22 : Option Nat) (T22 : st_T) => (c_n r22 (fun (p22 : Nat) => (c_g (st_K T22 p22 = 3) (c_g (st_K T22 a0 = 10) (c_c (f_X8_textInForce T22 a0) (fun (r29 : Option Nat) (T29 : st_T) => (c_n r29 (fun (p29 : Nat) => (c_g (st_K T29 a0 = 10) (c_g (st_K T29 q14 = 2) (c_c (f_X0_refresh T29 q14 p22 p29 (st_fi T29 909 a0)) (fun (r36 : Unit) (T36 : st_T) => (rec2 (T36, (y1_2 + 1))))))))))))))))))))))))))))))) q.1 q.2
set_option maxRecDepth 100000 in
def f_X8_codeDiaries (S : st_T) (a0 : Nat) : Option (Unit × st_T) :=
  (c_w (b_X8_codeDiaries_2 a0) c_N (S, 0))
set_option maxRecDepth 100000 in
set_option maxHeartbeats 4000000 in
theorem s_X8_codeDiaries (l : Launch) (X : st_I) {S SE : st_T} {a0 : Nat} {rr : Unit} (Hf : f_X8_codeDiaries S a0 = some (rr, SE)) : Met l yX8_codeDiaries (Cond.code yX8_codeDiaries cX8_codeDiaries 2 (none) :: lw_g) { frames := 6, cells := 0, slots := 0, locals := 146 } (st_P X S [.ref a0]) (st_Q X (st_A S) none SE) 0 0 (st_A S) := by
  refine st_ofW (by decide) (Nat.le_of_ble_eq_true rfl) ?_
  intro p e s m args below meth c hx hb hr hml hlocks hnm hts hown hK hRO hA hP hS ls hl
  have hown : s.vm.findClass RX8 = some m.cls := hown
  have hl : lv_has ls 2 [(0, .ref a0)] := hl
  unfold f_X8_codeDiaries at Hf
  refine lv_iconst (v := 0) hx hb dX8_codeDiaries_0 (by decide) ?_
  refine lv_istore_n (lv' := [(1, .int 0), (0, .ref a0)]) hx hb dX8_codeDiaries_1 rfl hl (by decide) rfl (fun ls hl => ?_)
  refine (c_w_ind (P := fun (q : st_T × Int32) => ∀ (H : Heap) (locs : List Loc) (ls : Array Slot), st_HP X (st_A S) q.1 H → va_S (st_A S) s.heap H locs → lv_has ls 2 [(0, .ref a0), (1, .int q.2)] → W p l e { frames := 6, cells := 0, slots := 0, locals := 146 } s m args below meth c H locs 0 0 (MQ below (st_Q X (st_A S) none SE) args s 0 0 (st_A S)) (F0 m 2 ls [])) ?_ _ _ Hf) _ _ _ hP hS (lv_sub hl [1, 0] rfl)
  intro rec2 hrec2 q Hf H locs ls hP hS hl
  obtain ⟨S2, y1_2⟩ := q
  unfold b_X8_codeDiaries_2 at Hf
  try dsimp only at Hf
  try dsimp only at hP
  try dsimp only at hl
  try dsimp only
  refine lv_iload_n hx hb dX8_codeDiaries_2 rfl (lv_at hl 1 rfl) ?_
  refine lv_aload_n hx hb dX8_codeDiaries_3 rfl (lv_at hl 0 rfl) ?_
  obtain ⟨hk_a0, Hf⟩ := c_g_some Hf
  obtain ⟨q4, hq4, Hf⟩ := c_n_some Hf
  refine fg_9_1 hx hb hts hown hK hP hk_a0 lkf_X8_19 hq4 dX8_codeDiaries_4 ?_
  obtain ⟨hk_q4, Hf⟩ := c_g_some Hf
  obtain ⟨r7, T7, hq7, Hf⟩ := c_c_some Hf
  refine r_cV (n := 0) (As := []) (rest := [.int y1_2]) ⟨hx, hb, hml, hown, hts⟩ (s_Jx4a65c_size_8abf5 l X hq7) lkm_X8_81 (by decide +kernel) rfl (by decide) dX8_codeDiaries_7 rfl rfl ⟨Nat.le_of_ble_eq_true rfl, Nat.le_of_ble_eq_true rfl⟩ hk_q4 rfl hl.1 (Nat.le_of_ble_eq_true rfl) ⟨Nat.le_of_ble_eq_true rfl, Nat.le_of_ble_eq_true rfl⟩ hK hRO hA hP hS (fun H locs hP hS => ?_)
  refine W.eq (g2 := F0 m 10 ls [.int r7, .int y1_2]) rfl ?_
  refine lv_icmp_ge hx hb dX8_codeDiaries_10 (tgt := 45) (by decide) (fun hc => ?_) (fun hc => ?_)
  · have Hf := c_i_t Hf hc
    cases Hf
    exact r_vret hx hb hr rfl hlocks dX8_codeDiaries_45 (Nat.le_of_ble_eq_true rfl) (Nat.le_of_ble_eq_true rfl) hP hS
  have Hf := c_i_f Hf hc
  refine lv_aload_n hx hb dX8_codeDiaries_13 rfl (lv_at hl 0 rfl) ?_
  obtain ⟨hk_a0, Hf⟩ := c_g_some Hf
  obtain ⟨q14, hq14, Hf⟩ := c_n_some Hf
  refine fg_9_6 hx hb hts hown hK hP hk_a0 lkf_X8_54 hq14 dX8_codeDiaries_14 ?_
  refine lv_aload_n hx hb dX8_codeDiaries_17 rfl (lv_at hl 0 rfl) ?_
  obtain ⟨q18, hq18, Hf⟩ := c_n_some Hf
  refine fg_9_1 hx hb hts hown hK hP hk_a0 lkf_X8_19 hq18 dX8_codeDiaries_18 ?_
  refine lv_iload_n hx hb dX8_codeDiaries_21 rfl (lv_at hl 1 rfl) ?_
  obtain ⟨hk_q18, Hf⟩ := c_g_some Hf
  obtain ⟨r22, T22, hq22, Hf⟩ := c_c_some Hf
  refine r_cV (n := 1) (As := [.int y1_2]) (rest := [.ref q14]) ⟨hx, hb, hml, hown, hts⟩ (s_Jx4a65c_get_915e3 l X hq22) lkm_X8_85 (by decide +kernel) rfl (by decide) dX8_codeDiaries_22 rfl rfl ⟨Nat.le_of_ble_eq_true rfl, Nat.le_of_ble_eq_true rfl⟩ hk_q18 rfl hl.1 (Nat.le_of_ble_eq_true rfl) ⟨Nat.le_of_ble_eq_true rfl, Nat.le_of_ble_eq_true rfl⟩ hK hRO hA hP hS (fun H locs hP hS => ?_)
  obtain ⟨p22, ep22, Hf⟩ := c_n_some Hf
  subst ep22
  refine W.eq (g2 := F0 m 25 ls [.ref p22, .ref q14]) rfl ?_
  obtain ⟨hk_p22, Hf⟩ := c_g_some Hf
  refine va_castE hx hb hown (hts _ (lg_1 341 rfl rfl)) (st_recv hK hP hk_p22 (by decide) rfl) dX8_codeDiaries_25 ?_
  refine lv_aload_n hx hb dX8_codeDiaries_28 rfl (lv_at hl 0 rfl) ?_
  obtain ⟨hk_a0, Hf⟩ := c_g_some Hf
  obtain ⟨r29, T29, hq29, Hf⟩ := c_c_some Hf
  refine r_cV (n := 0) (As := []) (rest := [.ref p22, .ref q14]) ⟨hx, hb, hml, hown, hts⟩ (s_X8_textInForce l X hq29) lkm_X8_231 (by decide +kernel) rfl (by decide) dX8_codeDiaries_29 rfl rfl ⟨Nat.le_of_ble_eq_true rfl, Nat.le_of_ble_eq_true rfl⟩ hk_a0 rfl hl.1 (Nat.le_of_ble_eq_true rfl) ⟨Nat.le_of_ble_eq_true rfl, Nat.le_of_ble_eq_true rfl⟩ hK hRO hA hP hS (fun H locs hP hS => ?_)
  obtain ⟨p29, ep29, Hf⟩ := c_n_some Hf
  subst ep29
  refine W.eq (g2 := F0 m 32 ls [.ref p29, .ref p22, .ref q14]) rfl ?_
  refine lv_aload_n hx hb dX8_codeDiaries_32 rfl (lv_at hl 0 rfl) ?_
  obtain ⟨hk_a0, Hf⟩ := c_g_some Hf
  refine fg_9_9 hx hb hts hown hK hP hk_a0 lkf_X8_66 dX8_codeDiaries_33 ?_
  obtain ⟨hk_q14, Hf⟩ := c_g_some Hf
  obtain ⟨r36, T36, hq36, Hf⟩ := c_c_some Hf
  refine r_cV (n := 3) (As := [.ref p22, .ref p29, .int (st_fi T29 909 a0)]) (rest := []) ⟨hx, hb, hml, hown, hts⟩ (s_X0_refresh l X hq36) lkm_X8_237 (by decide +kernel) rfl (by decide) dX8_codeDiaries_36 rfl rfl ⟨Nat.le_of_ble_eq_true rfl, Nat.le_of_ble_eq_true rfl⟩ hk_q14 rfl hl.1 (Nat.le_of_ble_eq_true rfl) ⟨Nat.le_of_ble_eq_true rfl, Nat.le_of_ble_eq_true rfl⟩ hK hRO hA hP hS (fun H locs hP hS => ?_)
  refine W.eq (g2 := F0 m 39 ls []) rfl ?_
  refine lv_iinc (v := (y1_2 + 1)) (lv' := [(1, .int (y1_2 + 1)), (0, .ref a0)]) hx hb dX8_codeDiaries_39 hl (k := 1) rfl rfl (by decide) rfl (fun ls hl => ?_)
  refine lv_goto hx hb dX8_codeDiaries_42 (tgt := 2) (by decide) ?_
  exact hrec2 (T36, (y1_2 + 1)) Hf _ _ _ hP hS (lv_sub hl [1, 0] rfl)

set_option maxRecDepth 100000 in
def f_X8_code (S : st_T) (a0 : Nat) (x1 : Int32) (x2 : Int32) : Option (Int32 × st_T) :=
  (c_g (st_K S a0 = 10) (c_c (f_X8_findCoded S a0 x1) (fun (r2 : Option Nat) (T2 : st_T) => (c_o r2 (some ((-2), T2)) (fun (p2 : Nat) => (c_g (st_K T2 p2 = 3) (c_n (st_fr T2 204 p2) (fun (q13 : Nat) => (c_g (st_K T2 q13 = 1) (c_c (f_Jx4a65c_size_8abf5 T2 q13) (fun (r16 : Int32) (T16 : st_T) => (c_c (f_X8_isWithin T16 x2 0 (r16 - 1)) (fun (r21 : Int32) (T21 : st_T) => (c_i (r21 = 0) (some ((-2), T21)) (c_g (st_K T21 p2 = 3) (c_n (st_fr T21 204 p2) (fun (q31 : Nat) => (c_g (st_K T21 q31 = 1) (c_c (f_Jx4a65c_get_915e3 T21 q31 x2) (fun (r35 : Option Nat) (T35 : st_T) => (c_n r35 (fun (p35 : Nat) => (c_g (st_K T35 p35 = 4) (some ((st_fi T35 306 p35), T35)))))))))))))))))))))))))
set_option maxRecDepth 100000 in
set_option maxHeartbeats 4000000 in
theorem s_X8_code (l : Launch) (X : st_I) {S SE : st_T} {a0 : Nat} {x1 : Int32} {x2 : Int32} {rr : Int32} (Hf : f_X8_code S a0 x1 x2 = some (rr, SE)) : Met l yX8_code (Cond.code yX8_code cX8_code 4 (some .int) :: lw_g) { frames := 7, cells := 0, slots := 0, locals := 168 } (st_P X S [.ref a0, .int x1, .int x2]) (st_Q X (st_A S) (some (.int rr)) SE) 0 0 (st_A S) := by
  refine st_ofW (by decide) (Nat.le_of_ble_eq_true rfl) ?_
  intro p e s m args below meth c hx hb hr hml hlocks hnm hts hown hK hRO hA hP hS ls hl
  have hown : s.vm.findClass RX8 = some m.cls := hown
  have hl : lv_has ls 4 [(0, .ref a0), (1, .int x1), (2, .int x2)] := hl
  unfold f_X8_code at Hf
  refine lv_aload_n hx hb dX8_code_0 rfl (lv_at hl 0 rfl) ?_
  refine lv_iload_n hx hb dX8_code_1 rfl (lv_at hl 1 rfl) ?_
  obtain ⟨hk_a0, Hf⟩ := c_g_some Hf
  obtain ⟨r2, T2, hq2, Hf⟩ := c_c_some Hf
  refine r_cV (n := 1) (As := [.int x1]) (rest := []) ⟨hx, hb, hml, hown, hts⟩ (s_X8_findCoded l X hq2) lkm_X8_141 (by decide +kernel) rfl (by decide) dX8_code_2 rfl rfl ⟨Nat.le_of_ble_eq_true rfl, Nat.le_of_ble_eq_true rfl⟩ hk_a0 rfl hl.1 (Nat.le_of_ble_eq_true rfl) ⟨Nat.le_of_ble_eq_true rfl, Nat.le_of_ble_eq_true rfl⟩ hK hRO hA hP hS (fun H locs hP hS => ?_)
  rcases r2 with _ | p2
  · have Hf := c_o_n Hf
    refine W.eq (g2 := F0 m 5 ls [.null]) rfl ?_
    refine lv_astore_nN (lv' := [(3, .null), (0, .ref a0), (1, .int x1), (2, .int x2)]) hx hb dX8_code_5 rfl hl (by decide) rfl (fun ls hl => ?_)
    refine lv_aload_nN hx hb dX8_code_6 rfl (lv_at hl 0 rfl) ?_
    refine lv_ifnullN hx hb dX8_code_7 (tgt := 27) (by decide) ?_
    refine lv_bipush (v := (-2)) hx hb dX8_code_27 (by decide) ?_
    cases Hf
    exact r_iret hx hb hr rfl hlocks dX8_code_29 (Nat.le_of_ble_eq_true rfl) (Nat.le_of_ble_eq_true rfl) hP hS
  have Hf := c_o_s Hf
  refine W.eq (g2 := F0 m 5 ls [.ref p2]) rfl ?_
  refine lv_astore_n (lv' := [(3, .ref p2), (0, .ref a0), (1, .int x1), (2, .int x2)]) hx hb dX8_code_5 rfl hl (by decide) rfl (fun ls hl => ?_)
  refine lv_aload_n hx hb dX8_code_6 rfl (lv_at hl 0 rfl) ?_
  refine lv_ifnull hx hb dX8_code_7 ?_
  refine lv_iload_n hx hb dX8_code_10 rfl (lv_at hl 3 rfl) ?_
  refine lv_iconst (v := 0) hx hb dX8_code_11 (by decide) ?_
  refine lv_aload_n hx hb dX8_code_12 rfl (lv_at hl 0 rfl) ?_
  obtain ⟨hk_p2, Hf⟩ := c_g_some Hf
  obtain ⟨q13, hq13, Hf⟩ := c_n_some Hf
  refine fg_2_4 hx hb hts hown hK hP hk_p2 lkf_X8_108 hq13 dX8_code_13 ?_
  obtain ⟨hk_q13, Hf⟩ := c_g_some Hf
  obtain ⟨r16, T16, hq16, Hf⟩ := c_c_some Hf
  refine r_cV (n := 0) (As := []) (rest := [.int 0, .int x2]) ⟨hx, hb, hml, hown, hts⟩ (s_Jx4a65c_size_8abf5 l X hq16) lkm_X8_81 (by decide +kernel) rfl (by decide) dX8_code_16 rfl rfl ⟨Nat.le_of_ble_eq_true rfl, Nat.le_of_ble_eq_true rfl⟩ hk_q13 rfl hl.1 (Nat.le_of_ble_eq_true rfl) ⟨Nat.le_of_ble_eq_true rfl, Nat.le_of_ble_eq_true rfl⟩ hK hRO hA hP hS (fun H locs hP hS => ?_)
  refine W.eq (g2 := F0 m 19 ls [.int r16, .int 0, .int x2]) rfl ?_
  refine lv_iconst (v := 1) hx hb dX8_code_19 (by decide) ?_
  refine lv_isub hx hb dX8_code_20 ?_
  obtain ⟨r21, T21, hq21, Hf⟩ := c_c_some Hf
  refine r_cS (n := 3) (As := [.int x2, .int 0, .int (r16 - 1)]) (rest := []) ⟨hx, hb, hml, hown, hts⟩ (s_X8_isWithin l X hq21) lkm_X8_69 (by decide +kernel) dX8_code_21 rfl rfl ⟨Nat.le_of_ble_eq_true rfl, Nat.le_of_ble_eq_true rfl⟩ rfl hl.1 (Nat.le_of_ble_eq_true rfl) ⟨Nat.le_of_ble_eq_true rfl, Nat.le_of_ble_eq_true rfl⟩ hK hRO hA hP hS (fun H locs hP hS => ?_)
  refine W.eq (g2 := F0 m 24 ls [.int r21]) rfl ?_
  refine lv_if_ne hx hb dX8_code_24 (tgt := 30) (by decide) (fun hc => ?_) (fun hc => ?_)
  · have Hf := c_i_f Hf hc
    refine lv_aload_n hx hb dX8_code_30 rfl (lv_at hl 0 rfl) ?_
    obtain ⟨hk_p2, Hf⟩ := c_g_some Hf
    obtain ⟨q31, hq31, Hf⟩ := c_n_some Hf
    refine fg_2_4 hx hb hts hown hK hP hk_p2 lkf_X8_108 hq31 dX8_code_31 ?_
    refine lv_iload_n hx hb dX8_code_34 rfl (lv_at hl 3 rfl) ?_
    obtain ⟨hk_q31, Hf⟩ := c_g_some Hf
    obtain ⟨r35, T35, hq35, Hf⟩ := c_c_some Hf
    refine r_cV (n := 1) (As := [.int x2]) (rest := []) ⟨hx, hb, hml, hown, hts⟩ (s_Jx4a65c_get_915e3 l X hq35) lkm_X8_85 (by decide +kernel) rfl (by decide) dX8_code_35 rfl rfl ⟨Nat.le_of_ble_eq_true rfl, Nat.le_of_ble_eq_true rfl⟩ hk_q31 rfl hl.1 (Nat.le_of_ble_eq_true rfl) ⟨Nat.le_of_ble_eq_true rfl, Nat.le_of_ble_eq_true rfl⟩ hK hRO hA hP hS (fun H locs hP hS => ?_)
    obtain ⟨p35, ep35, Hf⟩ := c_n_some Hf
    subst ep35
    refine W.eq (g2 := F0 m 38 ls [.ref p35]) rfl ?_
    obtain ⟨hk_p35, Hf⟩ := c_g_some Hf
    refine va_castE hx hb hown (hts _ (lg_1 456 rfl rfl)) (st_recv hK hP hk_p35 (by decide) rfl) dX8_code_38 ?_
    refine fg_3_6 hx hb hts hown hK hP hk_p35 lkf_X8_144 dX8_code_41 ?_
    cases Hf
    exact r_iret hx hb hr rfl hlocks dX8_code_44 (Nat.le_of_ble_eq_true rfl) (Nat.le_of_ble_eq_true rfl) hP hS
  have Hf := c_i_t Hf hc
  refine lv_bipush (v := (-2)) hx hb dX8_code_27 (by decide) ?_
  cases Hf
  exact r_iret hx hb hr rfl hlocks dX8_code_29 (Nat.le_of_ble_eq_true rfl) (Nat.le_of_ble_eq_true rfl) hP hS

def b_X8_ten_27 (x2 : Int32) (p2 : Nat) (rec27 : st_T × Int32 → Option (Int32 × st_T)) (q : st_T × Int32) : Option (Int32 × st_T) :=
  (fun (S27 : st_T) (y4_27 : Int32) =>
  (c_g (st_K S27 p2 = 3) (c_n (st_fr S27 204 p2) (fun (q30 : Nat) => (c_g (st_K S27 q30 = 1) (c_c (f_Jx4a65c_size_8abf5 S27 q30) (fun (r33 : Int32) (T33 : st_T) => (c_i (r33 ≤ y4_27) (some ((-2), T33)) (c_g (st_K T33 p2 = 3) (c_n (st_fr T33 204 p2) (fun (q40 : Nat) => (c_g (st_K T33 q40 = 1) (c_c (f_Jx4a65c_get_915e3 T33 q40 y4_27) (fun (r45 : Option Nat) (T45 : st_T) => (c_n r45 (fun (p45 : Nat) => (c_g (st_K T45 p45 = 4) (c_i ((st_fi T45 300 p45) ≤ x2) (c_i ((st_fi T45 301 p45) < x2) (rec27 (T45, (y4_27 + 1))) (some ((st_fi T45 306 p45), T45))) (c_i ((st_fi T45 308 p45) ≤ 0) (some ((-2), T45)) (some ((100 + (st_fi T45 306 p45)), T45))))))))))))))))))))) q.1 q.2
set_option maxRecDepth 100000 in
def f_X8_ten (S : st_T) (a0 : Nat) (x1 : Int32) (x2 : Int32) : Option (Int32 × st_T) :=
  (c_g (st_K S a0 = 10) (c_c (f_X8_findCoded S a0 x1) (fun (r2 : Option Nat) (T2 : st_T) => (c_o r2 (some ((-3), T2)) (fun (p2 : Nat) => (c_c (f_X8_isWithin T2 x2 0 143) (fun (r15 : Int32) (T15 : st_T) => (c_i (r15 = 0) (some ((-3), T15)) (c_w (b_X8_ten_27 x2 p2) c_N (T15, 0))))))))))
set_option maxRecDepth 100000 in
set_option maxHeartbeats 4000000 in
theorem s_X8_ten (l : Launch) (X : st_I) {S SE : st_T} {a0 : Nat} {x1 : Int32} {x2 : Int32} {rr : Int32} (Hf : f_X8_ten S a0 x1 x2 = some (rr, SE)) : Met l yX8_ten (Cond.code yX8_ten cX8_ten 6 (some .int) :: lw_g) { frames := 7, cells := 0, slots := 0, locals := 168 } (st_P X S [.ref a0, .int x1, .int x2]) (st_Q X (st_A S) (some (.int rr)) SE) 0 0 (st_A S) := by
  refine st_ofW (by decide) (Nat.le_of_ble_eq_true rfl) ?_
  intro p e s m args below meth c hx hb hr hml hlocks hnm hts hown hK hRO hA hP hS ls hl
  have hown : s.vm.findClass RX8 = some m.cls := hown
  have hl : lv_has ls 6 [(0, .ref a0), (1, .int x1), (2, .int x2)] := hl
  unfold f_X8_ten at Hf
  refine lv_aload_n hx hb dX8_ten_0 rfl (lv_at hl 0 rfl) ?_
  refine lv_iload_n hx hb dX8_ten_1 rfl (lv_at hl 1 rfl) ?_
  obtain ⟨hk_a0, Hf⟩ := c_g_some Hf
  obtain ⟨r2, T2, hq2, Hf⟩ := c_c_some Hf
  refine r_cV (n := 1) (As := [.int x1]) (rest := []) ⟨hx, hb, hml, hown, hts⟩ (s_X8_findCoded l X hq2) lkm_X8_141 (by decide +kernel) rfl (by decide) dX8_ten_2 rfl rfl ⟨Nat.le_of_ble_eq_true rfl, Nat.le_of_ble_eq_true rfl⟩ hk_a0 rfl hl.1 (Nat.le_of_ble_eq_true rfl) ⟨Nat.le_of_ble_eq_true rfl, Nat.le_of_ble_eq_true rfl⟩ hK hRO hA hP hS (fun H locs hP hS => ?_)
  rcases r2 with _ | p2
  · have Hf := c_o_n Hf
    refine W.eq (g2 := F0 m 5 ls [.null]) rfl ?_
    refine lv_astore_nN (lv' := [(3, .null), (0, .ref a0), (1, .int x1), (2, .int x2)]) hx hb dX8_ten_5 rfl hl (by decide) rfl (fun ls hl => ?_)
    refine lv_aload_nN hx hb dX8_ten_6 rfl (lv_at hl 0 rfl) ?_
    refine lv_ifnullN hx hb dX8_ten_7 (tgt := 21) (by decide) ?_
    refine lv_bipush (v := (-3)) hx hb dX8_ten_21 (by decide) ?_
    cases Hf
    exact r_iret hx hb hr rfl hlocks dX8_ten_23 (Nat.le_of_ble_eq_true rfl) (Nat.le_of_ble_eq_true rfl) hP hS
  have Hf := c_o_s Hf
  refine W.eq (g2 := F0 m 5 ls [.ref p2]) rfl ?_
  refine lv_astore_n (lv' := [(3, .ref p2), (0, .ref a0), (1, .int x1), (2, .int x2)]) hx hb dX8_ten_5 rfl hl (by decide) rfl (fun ls hl => ?_)
  refine lv_aload_n hx hb dX8_ten_6 rfl (lv_at hl 0 rfl) ?_
  refine lv_ifnull hx hb dX8_ten_7 ?_
  refine lv_iload_n hx hb dX8_ten_10 rfl (lv_at hl 3 rfl) ?_
  refine lv_iconst (v := 0) hx hb dX8_ten_11 (by decide) ?_
  refine lv_sipush (v := 143) hx hb dX8_ten_12 (by decide) ?_
  obtain ⟨r15, T15, hq15, Hf⟩ := c_c_some Hf
  refine r_cS (n := 3) (As := [.int x2, .int 0, .int 143]) (rest := []) ⟨hx, hb, hml, hown, hts⟩ (s_X8_isWithin l X hq15) lkm_X8_69 (by decide +kernel) dX8_ten_15 rfl rfl ⟨Nat.le_of_ble_eq_true rfl, Nat.le_of_ble_eq_true rfl⟩ rfl hl.1 (Nat.le_of_ble_eq_true rfl) ⟨Nat.le_of_ble_eq_true rfl, Nat.le_of_ble_eq_true rfl⟩ hK hRO hA hP hS (fun H locs hP hS => ?_)
  refine W.eq (g2 := F0 m 18 ls [.int r15]) rfl ?_
  refine lv_if_ne hx hb dX8_ten_18 (tgt := 24) (by decide) (fun hc => ?_) (fun hc => ?_)
  · have Hf := c_i_f Hf hc
    refine lv_iconst (v := 0) hx hb dX8_ten_24 (by decide) ?_
    refine lv_istore (lv' := [(4, .int 0), (3, .ref p2), (0, .ref a0), (1, .int x1), (2, .int x2)]) hx hb dX8_ten_25 hl (by decide) rfl (fun ls hl => ?_)
    refine (c_w_ind (P := fun (q : st_T × Int32) => ∀ (H : Heap) (locs : List Loc) (ls : Array Slot), st_HP X (st_A S) q.1 H → va_S (st_A S) s.heap H locs → lv_has ls 6 [(2, .int x2), (3, .ref p2), (4, .int q.2)] → W p l e { frames := 7, cells := 0, slots := 0, locals := 168 } s m args below meth c H locs 0 0 (MQ below (st_Q X (st_A S) (some (.int rr)) SE) args s 0 0 (st_A S)) (F0 m 27 ls [])) ?_ _ _ Hf) _ _ _ hP hS (lv_sub hl [4, 1, 0] rfl)
    intro rec27 hrec27 q Hf H locs ls hP hS hl
    obtain ⟨S27, y4_27⟩ := q
    unfold b_X8_ten_27 at Hf
    try dsimp only at Hf
    try dsimp only at hP
    try dsimp only at hl
    try dsimp only
    refine lv_iload hx hb dX8_ten_27 (lv_at hl 2 rfl) ?_
    refine lv_aload_n hx hb dX8_ten_29 rfl (lv_at hl 1 rfl) ?_
    obtain ⟨hk_p2, Hf⟩ := c_g_some Hf
    obtain ⟨q30, hq30, Hf⟩ := c_n_some Hf
    refine fg_2_4 hx hb hts hown hK hP hk_p2 lkf_X8_108 hq30 dX8_ten_30 ?_
    obtain ⟨hk_q30, Hf⟩ := c_g_some Hf
    obtain ⟨r33, T33, hq33, Hf⟩ := c_c_some Hf
    refine r_cV (n := 0) (As := []) (rest := [.int y4_27]) ⟨hx, hb, hml, hown, hts⟩ (s_Jx4a65c_size_8abf5 l X hq33) lkm_X8_81 (by decide +kernel) rfl (by decide) dX8_ten_33 rfl rfl ⟨Nat.le_of_ble_eq_true rfl, Nat.le_of_ble_eq_true rfl⟩ hk_q30 rfl hl.1 (Nat.le_of_ble_eq_true rfl) ⟨Nat.le_of_ble_eq_true rfl, Nat.le_of_ble_eq_true rfl⟩ hK hRO hA hP hS (fun H locs hP hS => ?_)
    refine W.eq (g2 := F0 m 36 ls [.int r33, .int y4_27]) rfl ?_
    refine lv_icmp_ge hx hb dX8_ten_36 (tgt := 105) (by decide) (fun hc => ?_) (fun hc => ?_)
    · have Hf := c_i_t Hf hc
      refine lv_bipush (v := (-2)) hx hb dX8_ten_105 (by decide) ?_
      cases Hf
      exact r_iret hx hb hr rfl hlocks dX8_ten_107 (Nat.le_of_ble_eq_true rfl) (Nat.le_of_ble_eq_true rfl) hP hS
    have Hf := c_i_f Hf hc
    refine lv_aload_n hx hb dX8_ten_39 rfl (lv_at hl 1 rfl) ?_
    obtain ⟨hk_p2, Hf⟩ := c_g_some Hf
    obtain ⟨q40, hq40, Hf⟩ := c_n_some Hf
    refine fg_2_4 hx hb hts hown hK hP hk_p2 lkf_X8_108 hq40 dX8_ten_40 ?_
    refine lv_iload hx hb dX8_ten_43 (lv_at hl 2 rfl) ?_
    obtain ⟨hk_q40, Hf⟩ := c_g_some Hf
    obtain ⟨r45, T45, hq45, Hf⟩ := c_c_some Hf
    refine r_cV (n := 1) (As := [.int y4_27]) (rest := []) ⟨hx, hb, hml, hown, hts⟩ (s_Jx4a65c_get_915e3 l X hq45) lkm_X8_85 (by decide +kernel) rfl (by decide) dX8_ten_45 rfl rfl ⟨Nat.le_of_ble_eq_true rfl, Nat.le_of_ble_eq_true rfl⟩ hk_q40 rfl hl.1 (Nat.le_of_ble_eq_true rfl) ⟨Nat.le_of_ble_eq_true rfl, Nat.le_of_ble_eq_true rfl⟩ hK hRO hA hP hS (fun H locs hP hS => ?_)
    obtain ⟨p45, ep45, Hf⟩ := c_n_some Hf
    subst ep45
    refine W.eq (g2 := F0 m 48 ls [.ref p45]) rfl ?_
    obtain ⟨hk_p45, Hf⟩ := c_g_some Hf
    refine va_castE hx hb hown (hts _ (lg_1 456 rfl rfl)) (st_recv hK hP hk_p45 (by decide) rfl) dX8_ten_48 ?_
    refine lv_astore (lv' := [(5, .ref p45), (2, .int x2), (3, .ref p2), (4, .int y4_27)]) hx hb dX8_ten_51 hl (by decide) rfl (fun ls hl => ?_)
    refine lv_iload_n hx hb dX8_ten_53 rfl (lv_at hl 1 rfl) ?_
    refine lv_aload hx hb dX8_ten_54 (lv_at hl 0 rfl) ?_
    refine fg_3_0 hx hb hts hown hK hP hk_p45 lkf_X8_154 dX8_ten_56 ?_
    refine lv_icmp_ge hx hb dX8_ten_59 (tgt := 84) (by decide) (fun hc => ?_) (fun hc => ?_)
    · have Hf := c_i_t Hf hc
      refine lv_iload_n hx hb dX8_ten_84 rfl (lv_at hl 1 rfl) ?_
      refine lv_aload hx hb dX8_ten_85 (lv_at hl 0 rfl) ?_
      refine fg_3_1 hx hb hts hown hK hP hk_p45 lkf_X8_157 dX8_ten_87 ?_
      refine lv_icmp_gt hx hb dX8_ten_90 (tgt := 99) (by decide) (fun hc => ?_) (fun hc => ?_)
      · have Hf := c_i_t Hf hc
        refine lv_iinc (v := (y4_27 + 1)) (lv' := [(4, .int (y4_27 + 1)), (5, .ref p45), (2, .int x2), (3, .ref p2)]) hx hb dX8_ten_99 hl (k := 3) rfl rfl (by decide) rfl (fun ls hl => ?_)
        refine lv_goto hx hb dX8_ten_102 (tgt := 27) (by decide) ?_
        exact hrec27 (T45, (y4_27 + 1)) Hf _ _ _ hP hS (lv_sub hl [2, 3, 0] rfl)
      have Hf := c_i_f Hf hc
      refine lv_aload hx hb dX8_ten_93 (lv_at hl 0 rfl) ?_
      refine fg_3_6 hx hb hts hown hK hP hk_p45 lkf_X8_144 dX8_ten_95 ?_
      cases Hf
      exact r_iret hx hb hr rfl hlocks dX8_ten_98 (Nat.le_of_ble_eq_true rfl) (Nat.le_of_ble_eq_true rfl) hP hS
    have Hf := c_i_f Hf hc
    refine lv_aload hx hb dX8_ten_62 (lv_at hl 0 rfl) ?_
    refine fg_3_8 hx hb hts hown hK hP hk_p45 lkf_X8_174 dX8_ten_64 ?_
    refine lv_if_le hx hb dX8_ten_67 (tgt := 81) (by decide) (fun hc => ?_) (fun hc => ?_)
    · have Hf := c_i_t Hf hc
      refine lv_bipush (v := (-2)) hx hb dX8_ten_81 (by decide) ?_
      cases Hf
      exact r_iret hx hb hr rfl hlocks dX8_ten_83 (Nat.le_of_ble_eq_true rfl) (Nat.le_of_ble_eq_true rfl) hP hS
    have Hf := c_i_f Hf hc
    refine lv_bipush (v := 100) hx hb dX8_ten_70 (by decide) ?_
    refine lv_aload hx hb dX8_ten_72 (lv_at hl 0 rfl) ?_
    refine fg_3_6 hx hb hts hown hK hP hk_p45 lkf_X8_144 dX8_ten_74 ?_
    refine lv_iadd hx hb dX8_ten_77 ?_
    refine lv_goto hx hb dX8_ten_78 (tgt := 83) (by decide) ?_
    cases Hf
    exact r_iret hx hb hr rfl hlocks dX8_ten_83 (Nat.le_of_ble_eq_true rfl) (Nat.le_of_ble_eq_true rfl) hP hS
  have Hf := c_i_t Hf hc
  refine lv_bipush (v := (-3)) hx hb dX8_ten_21 (by decide) ?_
  cases Hf
  exact r_iret hx hb hr rfl hlocks dX8_ten_23 (Nat.le_of_ble_eq_true rfl) (Nat.le_of_ble_eq_true rfl) hP hS

set_option maxRecDepth 100000 in
def f_X8_known (S : st_T) (a0 : Nat) (x1 : Int32) (x2 : Int32) : Option (Int32 × st_T) :=
  (c_c (f_X8_isWithin S x1 0 4) (fun (r3 : Int32) (T3 : st_T) => (c_i (r3 = 0) (some (0, T3)) (c_c (f_X8_isWithin T3 x2 1 1000000) (fun (r13 : Int32) (T13 : st_T) => (c_i (r13 = 0) (some (0, T13)) (c_g (st_K T13 a0 = 10) (c_n (st_fr T13 907 a0) (fun (q22 : Nat) => (c_g (st_K T13 q22 = 20) (c_g (c_in x1 (st_ln T13 q22)) (c_l (st_wi T13 q22 (x1 : Int32).toNatClampNeg x2) (fun (S_27 : st_T) => (some (1, S_27)))))))))))))))
set_option maxRecDepth 100000 in
set_option maxHeartbeats 4000000 in
theorem s_X8_known (l : Launch) (X : st_I) {S SE : st_T} {a0 : Nat} {x1 : Int32} {x2 : Int32} {rr : Int32} (Hf : f_X8_known S a0 x1 x2 = some (rr, SE)) : Met l yX8_known (Cond.code yX8_known cX8_known 3 (some .boolean) :: lw_g) { frames := 1, cells := 0, slots := 0, locals := 22 } (st_P X S [.ref a0, .int x1, .int x2]) (st_Q X (st_A S) (some (.int rr)) SE) 0 0 (st_A S) := by
  refine st_ofW (by decide) (Nat.le_of_ble_eq_true rfl) ?_
  intro p e s m args below meth c hx hb hr hml hlocks hnm hts hown hK hRO hA hP hS ls hl
  have hown : s.vm.findClass RX8 = some m.cls := hown
  have hl : lv_has ls 3 [(0, .ref a0), (1, .int x1), (2, .int x2)] := hl
  unfold f_X8_known at Hf
  refine lv_iload_n hx hb dX8_known_0 rfl (lv_at hl 1 rfl) ?_
  refine lv_iconst (v := 0) hx hb dX8_known_1 (by decide) ?_
  refine lv_iconst (v := 4) hx hb dX8_known_2 (by decide) ?_
  obtain ⟨r3, T3, hq3, Hf⟩ := c_c_some Hf
  refine r_cS (n := 3) (As := [.int x1, .int 0, .int 4]) (rest := []) ⟨hx, hb, hml, hown, hts⟩ (s_X8_isWithin l X hq3) lkm_X8_69 (by decide +kernel) dX8_known_3 rfl rfl ⟨Nat.le_of_ble_eq_true rfl, Nat.le_of_ble_eq_true rfl⟩ rfl hl.1 (Nat.le_of_ble_eq_true rfl) ⟨Nat.le_of_ble_eq_true rfl, Nat.le_of_ble_eq_true rfl⟩ hK hRO hA hP hS (fun H locs hP hS => ?_)
  refine W.eq (g2 := F0 m 6 ls [.int r3]) rfl ?_
  refine lv_if_eq hx hb dX8_known_6 (tgt := 19) (by decide) (fun hc => ?_) (fun hc => ?_)
  · have Hf := c_i_t Hf hc
    refine lv_iconst (v := 0) hx hb dX8_known_19 (by decide) ?_
    cases Hf
    exact r_zret hx hb hr rfl (Or.inl rfl) hlocks dX8_known_20 (Nat.le_of_ble_eq_true rfl) (Nat.le_of_ble_eq_true rfl) hP hS
  have Hf := c_i_f Hf hc
  refine lv_iload_n hx hb dX8_known_9 rfl (lv_at hl 2 rfl) ?_
  refine lv_iconst (v := 1) hx hb dX8_known_10 (by decide) ?_
  refine lv_ldc hx hb hown (hts _ lkc_X8_177) dX8_known_11 ?_
  obtain ⟨r13, T13, hq13, Hf⟩ := c_c_some Hf
  refine r_cS (n := 3) (As := [.int x2, .int 1, .int 1000000]) (rest := []) ⟨hx, hb, hml, hown, hts⟩ (s_X8_isWithin l X hq13) lkm_X8_69 (by decide +kernel) dX8_known_13 rfl rfl ⟨Nat.le_of_ble_eq_true rfl, Nat.le_of_ble_eq_true rfl⟩ rfl hl.1 (Nat.le_of_ble_eq_true rfl) ⟨Nat.le_of_ble_eq_true rfl, Nat.le_of_ble_eq_true rfl⟩ hK hRO hA hP hS (fun H locs hP hS => ?_)
  refine W.eq (g2 := F0 m 16 ls [.int r13]) rfl ?_
  refine lv_if_ne hx hb dX8_known_16 (tgt := 21) (by decide) (fun hc => ?_) (fun hc => ?_)
  · have Hf := c_i_f Hf hc
    refine lv_aload_n hx hb dX8_known_21 rfl (lv_at hl 0 rfl) ?_
    obtain ⟨hk_a0, Hf⟩ := c_g_some Hf
    obtain ⟨q22, hq22, Hf⟩ := c_n_some Hf
    refine fg_9_7 hx hb hts hown hK hP hk_a0 lkf_X8_58 hq22 dX8_known_22 ?_
    refine lv_iload_n hx hb dX8_known_25 rfl (lv_at hl 1 rfl) ?_
    refine lv_iload_n hx hb dX8_known_26 rfl (lv_at hl 2 rfl) ?_
    obtain ⟨hk_q22, Hf⟩ := c_g_some Hf
    obtain ⟨hi27, Hf⟩ := c_g_some Hf
    refine r_iast hx hb hK hP hS hk_q22 hi27 dX8_known_27 (fun H locs hP hS => ?_)
    obtain ⟨S_27, eS_27, Hf⟩ := c_l_ex Hf
    have hP : st_HP X (st_A S) S_27 H := by rw [eS_27]; exact hP
    refine lv_iconst (v := 1) hx hb dX8_known_28 (by decide) ?_
    cases Hf
    exact r_zret hx hb hr rfl (Or.inr rfl) hlocks dX8_known_29 (Nat.le_of_ble_eq_true rfl) (Nat.le_of_ble_eq_true rfl) hP hS
  have Hf := c_i_t Hf hc
  refine lv_iconst (v := 0) hx hb dX8_known_19 (by decide) ?_
  cases Hf
  exact r_zret hx hb hr rfl (Or.inl rfl) hlocks dX8_known_20 (Nat.le_of_ble_eq_true rfl) (Nat.le_of_ble_eq_true rfl) hP hS

def b_X8_linesInAll_4 (a0 : Nat) (rec4 : st_T × Int32 × Int32 → Option (Int32 × st_T)) (q : st_T × Int32 × Int32) : Option (Int32 × st_T) :=
  (fun (S4 : st_T) (y1_4 : Int32) (y2_4 : Int32) =>
  (c_g (st_K S4 a0 = 10) (c_n (st_fr S4 901 a0) (fun (q6 : Nat) => (c_g (st_K S4 q6 = 1) (c_c (f_Jx4a65c_size_8abf5 S4 q6) (fun (r9 : Int32) (T9 : st_T) => (c_i (r9 ≤ y2_4) (some (y1_4, T9)) (c_g (st_K T9 a0 = 10) (c_n (st_fr T9 901 a0) (fun (q17 : Nat) => (c_g (st_K T9 q17 = 1) (c_c (f_Jx4a65c_get_915e3 T9 q17 y2_4) (fun (r21 : Option Nat) (T21 : st_T) => (c_n r21 (fun (p21 : Nat) => (c_g (st_K T21 p21 = 3) (c_n (st_fr T21 204 p21) (fun (q27 : Nat) => (c_g (st_K T21 q27 = 1) (c_c (f_Jx4a65c_size_8abf5 T21 q27) (fun (r30 : Int32) (T30 : st_T) => (c_l (y1_4 + r30) (fun (z1_34 : Int32) => (rec4 (T30, z1_34, (y2_4 + 1))))))))))))))))))))))))))) q.1 q.2.1 q.2.2
set_option maxRecDepth 100000 in
def f_X8_linesInAll (S : st_T) (a0 : Nat) : Option (Int32 × st_T) :=
  (c_w (b_X8_linesInAll_4 a0) c_N (S, 0, 0))
set_option maxRecDepth 100000 in
set_option maxHeartbeats 4000000 in
theorem s_X8_linesInAll (l : Launch) (X : st_I) {S SE : st_T} {a0 : Nat} {rr : Int32} (Hf : f_X8_linesInAll S a0 = some (rr, SE)) : Met l yX8_linesInAll (Cond.code yX8_linesInAll cX8_linesInAll 3 (some .int) :: lw_g) { frames := 3, cells := 0, slots := 0, locals := 64 } (st_P X S [.ref a0]) (st_Q X (st_A S) (some (.int rr)) SE) 0 0 (st_A S) := by
  refine st_ofW (by decide) (Nat.le_of_ble_eq_true rfl) ?_
  intro p e s m args below meth c hx hb hr hml hlocks hnm hts hown hK hRO hA hP hS ls hl
  have hown : s.vm.findClass RX8 = some m.cls := hown
  have hl : lv_has ls 3 [(0, .ref a0)] := hl
  unfold f_X8_linesInAll at Hf
  refine lv_iconst (v := 0) hx hb dX8_linesInAll_0 (by decide) ?_
  refine lv_istore_n (lv' := [(1, .int 0), (0, .ref a0)]) hx hb dX8_linesInAll_1 rfl hl (by decide) rfl (fun ls hl => ?_)
  refine lv_iconst (v := 0) hx hb dX8_linesInAll_2 (by decide) ?_
  refine lv_istore_n (lv' := [(2, .int 0), (1, .int 0), (0, .ref a0)]) hx hb dX8_linesInAll_3 rfl hl (by decide) rfl (fun ls hl => ?_)
  refine (c_w_ind (P := fun (q : st_T × Int32 × Int32) => ∀ (H : Heap) (locs : List Loc) (ls : Array Slot), st_HP X (st_A S) q.1 H → va_S (st_A S) s.heap H locs → lv_has ls 3 [(0, .ref a0), (1, .int q.2.1), (2, .int q.2.2)] → W p l e { frames := 3, cells := 0, slots := 0, locals := 64 } s m args below meth c H locs 0 0 (MQ below (st_Q X (st_A S) (some (.int rr)) SE) args s 0 0 (st_A S)) (F0 m 4 ls [])) ?_ _ _ Hf) _ _ _ hP hS (lv_sub hl [2, 1, 0] rfl)
  intro rec4 hrec4 q Hf H locs ls hP hS hl
  obtain ⟨S4, y1_4, y2_4⟩ := q
  unfold b_X8_linesInAll_4 at Hf
  try dsimp only at Hf
  try dsimp only at hP
  try dsimp only at hl
  try dsimp only
  refine lv_iload_n hx hb dX8_linesInAll_4 rfl (lv_at hl 2 rfl) ?_
  refine lv_aload_n hx hb dX8_linesInAll_5 rfl (lv_at hl 0 rfl) ?_
  obtain ⟨hk_a0, Hf⟩ := c_g_some Hf
  obtain ⟨q6, hq6, Hf⟩ := c_n_some Hf
  refine fg_9_1 hx hb hts hown hK hP hk_a0 lkf_X8_19 hq6 dX8_linesInAll_6 ?_
  obtain ⟨hk_q6, Hf⟩ := c_g_some Hf
  obtain ⟨r9, T9, hq9, Hf⟩ := c_c_some Hf
  refine r_cV (n := 0) (As := []) (rest := [.int y2_4]) ⟨hx, hb, hml, hown, hts⟩ (s_Jx4a65c_size_8abf5 l X hq9) lkm_X8_81 (by decide +kernel) rfl (by decide) dX8_linesInAll_9 rfl rfl ⟨Nat.le_of_ble_eq_true rfl, Nat.le_of_ble_eq_true rfl⟩ hk_q6 rfl hl.1 (Nat.le_of_ble_eq_true rfl) ⟨Nat.le_of_ble_eq_true rfl, Nat.le_of_ble_eq_true rfl⟩ hK hRO hA hP hS (fun H locs hP hS => ?_)
  refine W.eq (g2 := F0 m 12 ls [.int r9, .int y2_4]) rfl ?_
  refine lv_icmp_ge hx hb dX8_linesInAll_12 (tgt := 41) (by decide) (fun hc => ?_) (fun hc => ?_)
  · have Hf := c_i_t Hf hc
    refine lv_iload_n hx hb dX8_linesInAll_41 rfl (lv_at hl 1 rfl) ?_
    cases Hf
    exact r_iret hx hb hr rfl hlocks dX8_linesInAll_42 (Nat.le_of_ble_eq_true rfl) (Nat.le_of_ble_eq_true rfl) hP hS
  have Hf := c_i_f Hf hc
  refine lv_iload_n hx hb dX8_linesInAll_15 rfl (lv_at hl 1 rfl) ?_
  refine lv_aload_n hx hb dX8_linesInAll_16 rfl (lv_at hl 0 rfl) ?_
  obtain ⟨hk_a0, Hf⟩ := c_g_some Hf
  obtain ⟨q17, hq17, Hf⟩ := c_n_some Hf
  refine fg_9_1 hx hb hts hown hK hP hk_a0 lkf_X8_19 hq17 dX8_linesInAll_17 ?_
  refine lv_iload_n hx hb dX8_linesInAll_20 rfl (lv_at hl 2 rfl) ?_
  obtain ⟨hk_q17, Hf⟩ := c_g_some Hf
  obtain ⟨r21, T21, hq21, Hf⟩ := c_c_some Hf
  refine r_cV (n := 1) (As := [.int y2_4]) (rest := [.int y1_4]) ⟨hx, hb, hml, hown, hts⟩ (s_Jx4a65c_get_915e3 l X hq21) lkm_X8_85 (by decide +kernel) rfl (by decide) dX8_linesInAll_21 rfl rfl ⟨Nat.le_of_ble_eq_true rfl, Nat.le_of_ble_eq_true rfl⟩ hk_q17 rfl hl.1 (Nat.le_of_ble_eq_true rfl) ⟨Nat.le_of_ble_eq_true rfl, Nat.le_of_ble_eq_true rfl⟩ hK hRO hA hP hS (fun H locs hP hS => ?_)
  obtain ⟨p21, ep21, Hf⟩ := c_n_some Hf
  subst ep21
  refine W.eq (g2 := F0 m 24 ls [.ref p21, .int y1_4]) rfl ?_
  obtain ⟨hk_p21, Hf⟩ := c_g_some Hf
  refine va_castE hx hb hown (hts _ (lg_1 341 rfl rfl)) (st_recv hK hP hk_p21 (by decide) rfl) dX8_linesInAll_24 ?_
  obtain ⟨q27, hq27, Hf⟩ := c_n_some Hf
  refine fg_2_4 hx hb hts hown hK hP hk_p21 lkf_X8_108 hq27 dX8_linesInAll_27 ?_
  obtain ⟨hk_q27, Hf⟩ := c_g_some Hf
  obtain ⟨r30, T30, hq30, Hf⟩ := c_c_some Hf
  refine r_cV (n := 0) (As := []) (rest := [.int y1_4]) ⟨hx, hb, hml, hown, hts⟩ (s_Jx4a65c_size_8abf5 l X hq30) lkm_X8_81 (by decide +kernel) rfl (by decide) dX8_linesInAll_30 rfl rfl ⟨Nat.le_of_ble_eq_true rfl, Nat.le_of_ble_eq_true rfl⟩ hk_q27 rfl hl.1 (Nat.le_of_ble_eq_true rfl) ⟨Nat.le_of_ble_eq_true rfl, Nat.le_of_ble_eq_true rfl⟩ hK hRO hA hP hS (fun H locs hP hS => ?_)
  refine W.eq (g2 := F0 m 33 ls [.int r30, .int y1_4]) rfl ?_
  refine lv_iadd hx hb dX8_linesInAll_33 ?_
  refine lv_topi (fun z1_34 ez1_34 => ?_)
  have Hf := c_l_ren Hf ez1_34
  refine lv_istore_n (lv' := [(1, .int z1_34), (0, .ref a0), (2, .int y2_4)]) hx hb dX8_linesInAll_34 rfl hl (by decide) rfl (fun ls hl => ?_)
  refine lv_iinc (v := (y2_4 + 1)) (lv' := [(2, .int (y2_4 + 1)), (1, .int z1_34), (0, .ref a0)]) hx hb dX8_linesInAll_35 hl (k := 2) rfl rfl (by decide) rfl (fun ls hl => ?_)
  refine lv_goto hx hb dX8_linesInAll_38 (tgt := 4) (by decide) ?_
  exact hrec4 (T30, z1_34, (y2_4 + 1)) Hf _ _ _ hP hS (lv_sub hl [2, 1, 0] rfl)

def j_X8_weightOfSort_51 (rec5 : st_T × Int64 × Int32 → Option (Int64 × st_T)) (y2_5 : Int64) (y4_5 : Int32) (S51 : st_T) (u0_51 : Int64) : Option (Int64 × st_T) :=
  (c_l (y2_5 + u0_51) (fun (z2_52 : Int64) => (rec5 (S51, z2_52, (y4_5 + 1)))))
def b_X8_weightOfSort_5 (a0 : Nat) (x1 : Int32) (rec5 : st_T × Int64 × Int32 → Option (Int64 × st_T)) (q : st_T × Int64 × Int32) : Option (Int64 × st_T) :=
  (fun (S5 : st_T) (y2_5 : Int64) (y4_5 : Int32) =>
  (c_g (st_K S5 a0 = 10) (c_n (st_fr S5 901 a0) (fun (q8 : Nat) => (c_g (st_K S5 q8 = 1) (c_c (f_Jx4a65c_size_8abf5 S5 q8) (fun (r11 : Int32) (T11 : st_T) => (c_i (r11 ≤ y4_5) (some (y2_5, T11)) (c_g (st_K T11 a0 = 10) (c_n (st_fr T11 901 a0) (fun (q18 : Nat) => (c_g (st_K T11 q18 = 1) (c_c (f_Jx4a65c_get_915e3 T11 q18 y4_5) (fun (r23 : Option Nat) (T23 : st_T) => (c_n r23 (fun (p23 : Nat) => (c_g (st_K T23 p23 = 3) (c_c (f_X1_isOfSort T23 p23 x1) (fun (r35 : Int32) (T35 : st_T) => (c_i (r35 = 0) (j_X8_weightOfSort_51 rec5 y2_5 y4_5 T35 0) (c_g (st_K T35 p23 = 3) (j_X8_weightOfSort_51 rec5 y2_5 y4_5 T35 (((st_fi T35 205 p23) : Int32).toInt64))))))))))))))))))))))) q.1 q.2.1 q.2.2
set_option maxRecDepth 100000 in
def f_X8_weightOfSort (S : st_T) (a0 : Nat) (x1 : Int32) : Option (Int64 × st_T) :=
  (c_w (b_X8_weightOfSort_5 a0 x1) c_N (S, 0, 0))
set_option maxRecDepth 100000 in
set_option maxHeartbeats 4000000 in
theorem s_X8_weightOfSort (l : Launch) (X : st_I) {S SE : st_T} {a0 : Nat} {x1 : Int32} {rr : Int64} (Hf : f_X8_weightOfSort S a0 x1 = some (rr, SE)) : Met l yX8_weightOfSort (Cond.code yX8_weightOfSort cX8_weightOfSort 6 (some .long) :: lw_g) { frames := 3, cells := 0, slots := 0, locals := 64 } (st_P X S [.ref a0, .int x1]) (st_Q X (st_A S) (some (.long rr)) SE) 0 0 (st_A S) := by
  refine st_ofW (by decide) (Nat.le_of_ble_eq_true rfl) ?_
  intro p e s m args below meth c hx hb hr hml hlocks hnm hts hown hK hRO hA hP hS ls hl
  have hown : s.vm.findClass RX8 = some m.cls := hown
  have hl : lv_has ls 6 [(0, .ref a0), (1, .int x1)] := hl
  unfold f_X8_weightOfSort at Hf
  refine lv_lconst (v := 0) hx hb dX8_weightOfSort_0 (by decide) ?_
  refine lv_lstore_n (lv' := [(2, .long 0), (0, .ref a0), (1, .int x1)]) hx hb dX8_weightOfSort_1 rfl hl (by decide) rfl (fun ls hl => ?_)
  refine lv_iconst (v := 0) hx hb dX8_weightOfSort_2 (by decide) ?_
  refine lv_istore (lv' := [(4, .int 0), (2, .long 0), (0, .ref a0), (1, .int x1)]) hx hb dX8_weightOfSort_3 hl (by decide) rfl (fun ls hl => ?_)
  refine (c_w_ind (P := fun (q : st_T × Int64 × Int32) => ∀ (H : Heap) (locs : List Loc) (ls : Array Slot), st_HP X (st_A S) q.1 H → va_S (st_A S) s.heap H locs → lv_has ls 6 [(0, .ref a0), (1, .int x1), (2, .long q.2.1), (4, .int q.2.2)] → W p l e { frames := 3, cells := 0, slots := 0, locals := 64 } s m args below meth c H locs 0 0 (MQ below (st_Q X (st_A S) (some (.long rr)) SE) args s 0 0 (st_A S)) (F0 m 5 ls [])) ?_ _ _ Hf) _ _ _ hP hS (lv_sub hl [2, 3, 1, 0] rfl)
  intro rec5 hrec5 q Hf H locs ls hP hS hl
  obtain ⟨S5, y2_5, y4_5⟩ := q
  unfold b_X8_weightOfSort_5 at Hf
  try dsimp only at Hf
  try dsimp only at hP
  try dsimp only at hl
  try dsimp only
  refine lv_iload hx hb dX8_weightOfSort_5 (lv_at hl 3 rfl) ?_
  refine lv_aload_n hx hb dX8_weightOfSort_7 rfl (lv_at hl 0 rfl) ?_
  obtain ⟨hk_a0, Hf⟩ := c_g_some Hf
  obtain ⟨q8, hq8, Hf⟩ := c_n_some Hf
  refine fg_9_1 hx hb hts hown hK hP hk_a0 lkf_X8_19 hq8 dX8_weightOfSort_8 ?_
  obtain ⟨hk_q8, Hf⟩ := c_g_some Hf
  obtain ⟨r11, T11, hq11, Hf⟩ := c_c_some Hf
  refine r_cV (n := 0) (As := []) (rest := [.int y4_5]) ⟨hx, hb, hml, hown, hts⟩ (s_Jx4a65c_size_8abf5 l X hq11) lkm_X8_81 (by decide +kernel) rfl (by decide) dX8_weightOfSort_11 rfl rfl ⟨Nat.le_of_ble_eq_true rfl, Nat.le_of_ble_eq_true rfl⟩ hk_q8 rfl hl.1 (Nat.le_of_ble_eq_true rfl) ⟨Nat.le_of_ble_eq_true rfl, Nat.le_of_ble_eq_true rfl⟩ hK hRO hA hP hS (fun H locs hP hS => ?_)
  refine W.eq (g2 := F0 m 14 ls [.int r11, .int y4_5]) rfl ?_
  refine lv_icmp_ge hx hb dX8_weightOfSort_14 (tgt := 59) (by decide) (fun hc => ?_) (fun hc => ?_)
  · have Hf := c_i_t Hf hc
    refine lv_lload_n hx hb dX8_weightOfSort_59 rfl (lv_at hl 2 rfl) ?_
    cases Hf
    exact r_lret hx hb hr rfl hlocks dX8_weightOfSort_60 (Nat.le_of_ble_eq_true rfl) (Nat.le_of_ble_eq_true rfl) hP hS
  have Hf := c_i_f Hf hc
  refine lv_aload_n hx hb dX8_weightOfSort_17 rfl (lv_at hl 0 rfl) ?_
  obtain ⟨hk_a0, Hf⟩ := c_g_some Hf
  obtain ⟨q18, hq18, Hf⟩ := c_n_some Hf
  refine fg_9_1 hx hb hts hown hK hP hk_a0 lkf_X8_19 hq18 dX8_weightOfSort_18 ?_
  refine lv_iload hx hb dX8_weightOfSort_21 (lv_at hl 3 rfl) ?_
  obtain ⟨hk_q18, Hf⟩ := c_g_some Hf
  obtain ⟨r23, T23, hq23, Hf⟩ := c_c_some Hf
  refine r_cV (n := 1) (As := [.int y4_5]) (rest := []) ⟨hx, hb, hml, hown, hts⟩ (s_Jx4a65c_get_915e3 l X hq23) lkm_X8_85 (by decide +kernel) rfl (by decide) dX8_weightOfSort_23 rfl rfl ⟨Nat.le_of_ble_eq_true rfl, Nat.le_of_ble_eq_true rfl⟩ hk_q18 rfl hl.1 (Nat.le_of_ble_eq_true rfl) ⟨Nat.le_of_ble_eq_true rfl, Nat.le_of_ble_eq_true rfl⟩ hK hRO hA hP hS (fun H locs hP hS => ?_)
  obtain ⟨p23, ep23, Hf⟩ := c_n_some Hf
  subst ep23
  refine W.eq (g2 := F0 m 26 ls [.ref p23]) rfl ?_
  obtain ⟨hk_p23, Hf⟩ := c_g_some Hf
  refine va_castE hx hb hown (hts _ (lg_1 341 rfl rfl)) (st_recv hK hP hk_p23 (by decide) rfl) dX8_weightOfSort_26 ?_
  refine lv_astore (lv' := [(5, .ref p23), (0, .ref a0), (1, .int x1), (2, .long y2_5), (4, .int y4_5)]) hx hb dX8_weightOfSort_29 hl (by decide) rfl (fun ls hl => ?_)
  refine lv_lload_n hx hb dX8_weightOfSort_31 rfl (lv_at hl 3 rfl) ?_
  refine lv_aload hx hb dX8_weightOfSort_32 (lv_at hl 0 rfl) ?_
  refine lv_iload_n hx hb dX8_weightOfSort_34 rfl (lv_at hl 2 rfl) ?_
  obtain ⟨r35, T35, hq35, Hf⟩ := c_c_some Hf
  refine r_cV (n := 1) (As := [.int x1]) (rest := [.long y2_5]) ⟨hx, hb, hml, hown, hts⟩ (s_X1_isOfSort l X hq35) lkm_X8_241 (by decide +kernel) rfl (by decide) dX8_weightOfSort_35 rfl rfl ⟨Nat.le_of_ble_eq_true rfl, Nat.le_of_ble_eq_true rfl⟩ hk_p23 rfl hl.1 (Nat.le_of_ble_eq_true rfl) ⟨Nat.le_of_ble_eq_true rfl, Nat.le_of_ble_eq_true rfl⟩ hK hRO hA hP hS (fun H locs hP hS => ?_)
  refine W.eq (g2 := F0 m 38 ls [.int r35, .long y2_5]) rfl ?_
  have hJ51 : ∀ (S51 : st_T) (u0_51 : Int64), j_X8_weightOfSort_51 rec5 y2_5 y4_5 S51 u0_51 = some (rr, SE) → ∀ (H : Heap) (locs : List Loc) (ls : Array Slot), st_HP X (st_A S) S51 H → va_S (st_A S) s.heap H locs → lv_has ls 6 [(0, .ref a0), (1, .int x1), (4, .int y4_5)] → W p l e { frames := 3, cells := 0, slots := 0, locals := 64 } s m args below meth c H locs 0 0 (MQ below (st_Q X (st_A S) (some (.long rr)) SE) args s 0 0 (st_A S)) (F0 m 51 ls [.long u0_51, .long y2_5]) := by
    intro S51 u0_51 Hf H locs ls hP hS hl
    unfold j_X8_weightOfSort_51 at Hf
    refine lv_ladd hx hb dX8_weightOfSort_51 ?_
    refine lv_topl (fun z2_52 ez2_52 => ?_)
    have Hf := c_l_ren Hf ez2_52
    refine lv_lstore_n (lv' := [(2, .long z2_52), (0, .ref a0), (1, .int x1), (4, .int y4_5)]) hx hb dX8_weightOfSort_52 rfl hl (by decide) rfl (fun ls hl => ?_)
    refine lv_iinc (v := (y4_5 + 1)) (lv' := [(4, .int (y4_5 + 1)), (2, .long z2_52), (0, .ref a0), (1, .int x1)]) hx hb dX8_weightOfSort_53 hl (k := 3) rfl rfl (by decide) rfl (fun ls hl => ?_)
    refine lv_goto hx hb dX8_weightOfSort_56 (tgt := 5) (by decide) ?_
    exact hrec5 (S51, z2_52, (y4_5 + 1)) Hf _ _ _ hP hS (lv_sub hl [2, 3, 1, 0] rfl)
  refine lv_if_eq hx hb dX8_weightOfSort_38 (tgt := 50) (by decide) (fun hc => ?_) (fun hc => ?_)
  · have Hf := c_i_t Hf hc
    refine lv_lconst (v := 0) hx hb dX8_weightOfSort_50 (by decide) ?_
    exact hJ51 T35 0 Hf _ _ _ hP hS (lv_sub hl [1, 2, 4] rfl)
  have Hf := c_i_f Hf hc
  refine lv_aload hx hb dX8_weightOfSort_41 (lv_at hl 0 rfl) ?_
  obtain ⟨hk_p23, Hf⟩ := c_g_some Hf
  refine fg_2_5 hx hb hts hown hK hP hk_p23 lkf_X8_184 dX8_weightOfSort_43 ?_
  refine lv_i2l (v := ((st_fi T35 205 p23) : Int32).toInt64) hx hb dX8_weightOfSort_46 rfl ?_
  refine lv_goto hx hb dX8_weightOfSort_47 (tgt := 51) (by decide) ?_
  exact hJ51 T35 (((st_fi T35 205 p23) : Int32).toInt64) Hf _ _ _ hP hS (lv_sub hl [1, 2, 4] rfl)

def j_X8_weighSort_86 (rec25 : st_T × Int32 → Option (Unit × st_T)) (y4_25 : Int32) (S86 : st_T) : Option (Unit × st_T) :=
  (rec25 (S86, (y4_25 + 1)))
def b_X8_weighSort_25 (a0 : Nat) (x1 : Int32) (r2 : Int64) (rec25 : st_T × Int32 → Option (Unit × st_T)) (q : st_T × Int32) : Option (Unit × st_T) :=
  (fun (S25 : st_T) (y4_25 : Int32) =>
  (c_g (st_K S25 a0 = 10) (c_n (st_fr S25 901 a0) (fun (q28 : Nat) => (c_g (st_K S25 q28 = 1) (c_c (f_Jx4a65c_size_8abf5 S25 q28) (fun (r31 : Int32) (T31 : st_T) => (c_i (r31 ≤ y4_25) (some ((), T31)) (c_g (st_K T31 a0 = 10) (c_n (st_fr T31 901 a0) (fun (q38 : Nat) => (c_g (st_K T31 q38 = 1) (c_c (f_Jx4a65c_get_915e3 T31 q38 y4_25) (fun (r43 : Option Nat) (T43 : st_T) => (c_n r43 (fun (p43 : Nat) => (c_g (st_K T43 p43 = 3) (c_c (f_X1_isOfSort T43 p43 x1) (fun (r54 : Int32) (T54 : st_T) => (c_i (r54 = 0) (j_X8_weighSort_86 rec25 y4_25 T54) (c_g (st_K T54 p43 = 3) (c_g (st_K T54 a0 = 10) (c_n (st_fr T54 907 a0) (fun (q69 : Nat) => (c_g (st_K T54 q69 = 20) (c_g (c_in x1 (st_ln T54 q69)) (c_g (¬ r2 = 0) (c_l (st_pi T54 205 p43 ((((((((st_fi T54 205 p43) : Int32).toInt64) * (((st_ri T54 q69 (x1 : Int32).toNatClampNeg) : Int32).toInt64)) * 1000) / r2) : Int64).toInt32)) (fun (S_83 : st_T) => (j_X8_weighSort_86 rec25 y4_25 S_83)))))))))))))))))))))))))))))) q.1 q.2
set_option maxRecDepth 100000 in
def f_X8_weighSort (S : st_T) (a0 : Nat) (x1 : Int32) : Option (Unit × st_T) :=
  (c_g (st_K S a0 = 10) (c_c (f_X8_weightOfSort S a0 x1) (fun (r2 : Int64) (T2 : st_T) => (c_i ((lg_cmp r2 0) = 0) (some ((), T2)) (c_c (f_X8_isWithin T2 x1 0 4) (fun (r15 : Int32) (T15 : st_T) => (c_i (r15 = 0) (some ((), T15)) (c_w (b_X8_weighSort_25 a0 x1 r2) c_N (T15, 0)))))))))
set_option maxRecDepth 100000 in
set_option maxHeartbeats 4000000 in
theorem s_X8_weighSort (l : Launch) (X : st_I) {S SE : st_T} {a0 : Nat} {x1 : Int32} {rr : Unit} (Hf : f_X8_weighSort S a0 x1 = some (rr, SE)) : Met l yX8_weighSort (Cond.code yX8_weighSort cX8_weighSort 6 (none) :: lw_g) { frames := 4, cells := 0, slots := 0, locals := 89 } (st_P X S [.ref a0, .int x1]) (st_Q X (st_A S) none SE) 0 0 (st_A S) := by
  refine st_ofW (by decide) (Nat.le_of_ble_eq_true rfl) ?_
  intro p e s m args below meth c hx hb hr hml hlocks hnm hts hown hK hRO hA hP hS ls hl
  have hown : s.vm.findClass RX8 = some m.cls := hown
  have hl : lv_has ls 6 [(0, .ref a0), (1, .int x1)] := hl
  unfold f_X8_weighSort at Hf
  refine lv_aload_n hx hb dX8_weighSort_0 rfl (lv_at hl 0 rfl) ?_
  refine lv_iload_n hx hb dX8_weighSort_1 rfl (lv_at hl 1 rfl) ?_
  obtain ⟨hk_a0, Hf⟩ := c_g_some Hf
  obtain ⟨r2, T2, hq2, Hf⟩ := c_c_some Hf
  refine r_cV (n := 1) (As := [.int x1]) (rest := []) ⟨hx, hb, hml, hown, hts⟩ (s_X8_weightOfSort l X hq2) lkm_X8_245 (by decide +kernel) rfl (by decide) dX8_weighSort_2 rfl rfl ⟨Nat.le_of_ble_eq_true rfl, Nat.le_of_ble_eq_true rfl⟩ hk_a0 rfl hl.1 (Nat.le_of_ble_eq_true rfl) ⟨Nat.le_of_ble_eq_true rfl, Nat.le_of_ble_eq_true rfl⟩ hK hRO hA hP hS (fun H locs hP hS => ?_)
  refine W.eq (g2 := F0 m 5 ls [.long r2]) rfl ?_
  refine lv_lstore_n (lv' := [(2, .long r2), (0, .ref a0), (1, .int x1)]) hx hb dX8_weighSort_5 rfl hl (by decide) rfl (fun ls hl => ?_)
  refine lv_lload_n hx hb dX8_weighSort_6 rfl (lv_at hl 0 rfl) ?_
  refine lv_lconst (v := 0) hx hb dX8_weighSort_7 (by decide) ?_
  refine W.lcmp hx hb dX8_weighSort_8 ?_
  refine lv_if_eq hx hb dX8_weighSort_9 (tgt := 21) (by decide) (fun hc => ?_) (fun hc => ?_)
  · have Hf := c_i_t Hf hc
    cases Hf
    exact r_vret hx hb hr rfl hlocks dX8_weighSort_21 (Nat.le_of_ble_eq_true rfl) (Nat.le_of_ble_eq_true rfl) hP hS
  have Hf := c_i_f Hf hc
  refine lv_iload_n hx hb dX8_weighSort_12 rfl (lv_at hl 2 rfl) ?_
  refine lv_iconst (v := 0) hx hb dX8_weighSort_13 (by decide) ?_
  refine lv_iconst (v := 4) hx hb dX8_weighSort_14 (by decide) ?_
  obtain ⟨r15, T15, hq15, Hf⟩ := c_c_some Hf
  refine r_cS (n := 3) (As := [.int x1, .int 0, .int 4]) (rest := []) ⟨hx, hb, hml, hown, hts⟩ (s_X8_isWithin l X hq15) lkm_X8_69 (by decide +kernel) dX8_weighSort_15 rfl rfl ⟨Nat.le_of_ble_eq_true rfl, Nat.le_of_ble_eq_true rfl⟩ rfl hl.1 (Nat.le_of_ble_eq_true rfl) ⟨Nat.le_of_ble_eq_true rfl, Nat.le_of_ble_eq_true rfl⟩ hK hRO hA hP hS (fun H locs hP hS => ?_)
  refine W.eq (g2 := F0 m 18 ls [.int r15]) rfl ?_
  refine lv_if_ne hx hb dX8_weighSort_18 (tgt := 22) (by decide) (fun hc => ?_) (fun hc => ?_)
  · have Hf := c_i_f Hf hc
    refine lv_iconst (v := 0) hx hb dX8_weighSort_22 (by decide) ?_
    refine lv_istore (lv' := [(4, .int 0), (2, .long r2), (0, .ref a0), (1, .int x1)]) hx hb dX8_weighSort_23 hl (by decide) rfl (fun ls hl => ?_)
    refine (c_w_ind (P := fun (q : st_T × Int32) => ∀ (H : Heap) (locs : List Loc) (ls : Array Slot), st_HP X (st_A S) q.1 H → va_S (st_A S) s.heap H locs → lv_has ls 6 [(0, .ref a0), (1, .int x1), (2, .long r2), (4, .int q.2)] → W p l e { frames := 4, cells := 0, slots := 0, locals := 89 } s m args below meth c H locs 0 0 (MQ below (st_Q X (st_A S) none SE) args s 0 0 (st_A S)) (F0 m 25 ls [])) ?_ _ _ Hf) _ _ _ hP hS (lv_sub hl [2, 3, 1, 0] rfl)
    intro rec25 hrec25 q Hf H locs ls hP hS hl
    obtain ⟨S25, y4_25⟩ := q
    unfold b_X8_weighSort_25 at Hf
    try dsimp only at Hf
    try dsimp only at hP
    try dsimp only at hl
    try dsimp only
    refine lv_iload hx hb dX8_weighSort_25 (lv_at hl 3 rfl) ?_
    refine lv_aload_n hx hb dX8_weighSort_27 rfl (lv_at hl 0 rfl) ?_
    obtain ⟨hk_a0, Hf⟩ := c_g_some Hf
    obtain ⟨q28, hq28, Hf⟩ := c_n_some Hf
    refine fg_9_1 hx hb hts hown hK hP hk_a0 lkf_X8_19 hq28 dX8_weighSort_28 ?_
    obtain ⟨hk_q28, Hf⟩ := c_g_some Hf
    obtain ⟨r31, T31, hq31, Hf⟩ := c_c_some Hf
    refine r_cV (n := 0) (As := []) (rest := [.int y4_25]) ⟨hx, hb, hml, hown, hts⟩ (s_Jx4a65c_size_8abf5 l X hq31) lkm_X8_81 (by decide +kernel) rfl (by decide) dX8_weighSort_31 rfl rfl ⟨Nat.le_of_ble_eq_true rfl, Nat.le_of_ble_eq_true rfl⟩ hk_q28 rfl hl.1 (Nat.le_of_ble_eq_true rfl) ⟨Nat.le_of_ble_eq_true rfl, Nat.le_of_ble_eq_true rfl⟩ hK hRO hA hP hS (fun H locs hP hS => ?_)
    refine W.eq (g2 := F0 m 34 ls [.int r31, .int y4_25]) rfl ?_
    refine lv_icmp_ge hx hb dX8_weighSort_34 (tgt := 92) (by decide) (fun hc => ?_) (fun hc => ?_)
    · have Hf := c_i_t Hf hc
      cases Hf
      exact r_vret hx hb hr rfl hlocks dX8_weighSort_92 (Nat.le_of_ble_eq_true rfl) (Nat.le_of_ble_eq_true rfl) hP hS
    have Hf := c_i_f Hf hc
    refine lv_aload_n hx hb dX8_weighSort_37 rfl (lv_at hl 0 rfl) ?_
    obtain ⟨hk_a0, Hf⟩ := c_g_some Hf
    obtain ⟨q38, hq38, Hf⟩ := c_n_some Hf
    refine fg_9_1 hx hb hts hown hK hP hk_a0 lkf_X8_19 hq38 dX8_weighSort_38 ?_
    refine lv_iload hx hb dX8_weighSort_41 (lv_at hl 3 rfl) ?_
    obtain ⟨hk_q38, Hf⟩ := c_g_some Hf
    obtain ⟨r43, T43, hq43, Hf⟩ := c_c_some Hf
    refine r_cV (n := 1) (As := [.int y4_25]) (rest := []) ⟨hx, hb, hml, hown, hts⟩ (s_Jx4a65c_get_915e3 l X hq43) lkm_X8_85 (by decide +kernel) rfl (by decide) dX8_weighSort_43 rfl rfl ⟨Nat.le_of_ble_eq_true rfl, Nat.le_of_ble_eq_true rfl⟩ hk_q38 rfl hl.1 (Nat.le_of_ble_eq_true rfl) ⟨Nat.le_of_ble_eq_true rfl, Nat.le_of_ble_eq_true rfl⟩ hK hRO hA hP hS (fun H locs hP hS => ?_)
    obtain ⟨p43, ep43, Hf⟩ := c_n_some Hf
    subst ep43
    refine W.eq (g2 := F0 m 46 ls [.ref p43]) rfl ?_
    obtain ⟨hk_p43, Hf⟩ := c_g_some Hf
    refine va_castE hx hb hown (hts _ (lg_1 341 rfl rfl)) (st_recv hK hP hk_p43 (by decide) rfl) dX8_weighSort_46 ?_
    refine lv_astore (lv' := [(5, .ref p43), (0, .ref a0), (1, .int x1), (2, .long r2), (4, .int y4_25)]) hx hb dX8_weighSort_49 hl (by decide) rfl (fun ls hl => ?_)
    refine lv_aload hx hb dX8_weighSort_51 (lv_at hl 0 rfl) ?_
    refine lv_iload_n hx hb dX8_weighSort_53 rfl (lv_at hl 2 rfl) ?_
    obtain ⟨r54, T54, hq54, Hf⟩ := c_c_some Hf
    refine r_cV (n := 1) (As := [.int x1]) (rest := []) ⟨hx, hb, hml, hown, hts⟩ (s_X1_isOfSort l X hq54) lkm_X8_241 (by decide +kernel) rfl (by decide) dX8_weighSort_54 rfl rfl ⟨Nat.le_of_ble_eq_true rfl, Nat.le_of_ble_eq_true rfl⟩ hk_p43 rfl hl.1 (Nat.le_of_ble_eq_true rfl) ⟨Nat.le_of_ble_eq_true rfl, Nat.le_of_ble_eq_true rfl⟩ hK hRO hA hP hS (fun H locs hP hS => ?_)
    refine W.eq (g2 := F0 m 57 ls [.int r54]) rfl ?_
    have hJ86 : ∀ (S86 : st_T), j_X8_weighSort_86 rec25 y4_25 S86 = some (rr, SE) → ∀ (H : Heap) (locs : List Loc) (ls : Array Slot), st_HP X (st_A S) S86 H → va_S (st_A S) s.heap H locs → lv_has ls 6 [(0, .ref a0), (1, .int x1), (2, .long r2), (4, .int y4_25)] → W p l e { frames := 4, cells := 0, slots := 0, locals := 89 } s m args below meth c H locs 0 0 (MQ below (st_Q X (st_A S) none SE) args s 0 0 (st_A S)) (F0 m 86 ls []) := by
      intro S86 Hf H locs ls hP hS hl
      unfold j_X8_weighSort_86 at Hf
      refine lv_iinc (v := (y4_25 + 1)) (lv' := [(4, .int (y4_25 + 1)), (0, .ref a0), (1, .int x1), (2, .long r2)]) hx hb dX8_weighSort_86 hl (k := 3) rfl rfl (by decide) rfl (fun ls hl => ?_)
      refine lv_goto hx hb dX8_weighSort_89 (tgt := 25) (by decide) ?_
      exact hrec25 (S86, (y4_25 + 1)) Hf _ _ _ hP hS (lv_sub hl [1, 2, 3, 0] rfl)
    refine lv_if_eq hx hb dX8_weighSort_57 (tgt := 86) (by decide) (fun hc => ?_) (fun hc => ?_)
    · have Hf := c_i_t Hf hc
      exact hJ86 T54 Hf _ _ _ hP hS (lv_sub hl [1, 2, 3, 4] rfl)
    have Hf := c_i_f Hf hc
    refine lv_aload hx hb dX8_weighSort_60 (lv_at hl 0 rfl) ?_
    refine lv_aload hx hb dX8_weighSort_62 (lv_at hl 0 rfl) ?_
    obtain ⟨hk_p43, Hf⟩ := c_g_some Hf
    refine fg_2_5 hx hb hts hown hK hP hk_p43 lkf_X8_184 dX8_weighSort_64 ?_
    refine lv_i2l (v := ((st_fi T54 205 p43) : Int32).toInt64) hx hb dX8_weighSort_67 rfl ?_
    refine lv_aload_n hx hb dX8_weighSort_68 rfl (lv_at hl 1 rfl) ?_
    obtain ⟨hk_a0, Hf⟩ := c_g_some Hf
    obtain ⟨q69, hq69, Hf⟩ := c_n_some Hf
    refine fg_9_7 hx hb hts hown hK hP hk_a0 lkf_X8_58 hq69 dX8_weighSort_69 ?_
    refine lv_iload_n hx hb dX8_weighSort_72 rfl (lv_at hl 2 rfl) ?_
    obtain ⟨hk_q69, Hf⟩ := c_g_some Hf
    obtain ⟨hi73, Hf⟩ := c_g_some Hf
    refine r_iald hx hb hK hP hk_q69 hi73 dX8_weighSort_73 ?_
    refine lv_i2l (v := ((st_ri T54 q69 (x1 : Int32).toNatClampNeg) : Int32).toInt64) hx hb dX8_weighSort_74 rfl ?_
    refine lv_lmul hx hb dX8_weighSort_75 ?_
    refine lv_ldc2 hx hb hown (hts _ lkc_X8_194) dX8_weighSort_76 ?_
    refine lv_lmul hx hb dX8_weighSort_79 ?_
    refine lv_lload_n hx hb dX8_weighSort_80 rfl (lv_at hl 3 rfl) ?_
    obtain ⟨hd81, Hf⟩ := c_g_some Hf
    refine lv_ldiv hx hb dX8_weighSort_81 hd81 ?_
    refine lv_l2i (v := (((((((st_fi T54 205 p43) : Int32).toInt64) * (((st_ri T54 q69 (x1 : Int32).toNatClampNeg) : Int32).toInt64)) * 1000) / r2) : Int64).toInt32) hx hb dX8_weighSort_82 rfl ?_
    refine fp_2_5 hx hb hts hown hK hP hS hk_p43 lkf_X8_184 dX8_weighSort_83 (fun H locs hP hS => ?_)
    obtain ⟨S_83, eS_83, Hf⟩ := c_l_ex Hf
    have hP : st_HP X (st_A S) S_83 H := by rw [eS_83]; exact hP
    exact hJ86 S_83 Hf _ _ _ hP hS (lv_sub hl [1, 2, 3, 4] rfl)
  have Hf := c_i_t Hf hc
  cases Hf
  exact r_vret hx hb hr rfl hlocks dX8_weighSort_21 (Nat.le_of_ble_eq_true rfl) (Nat.le_of_ble_eq_true rfl) hP hS
