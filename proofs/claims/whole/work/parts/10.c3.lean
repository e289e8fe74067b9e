def b_X8_hasSort_2 (a0 : Nat) (x1 : Int32) (rec2 : st_T × Int32 → Option (Int32 × st_T)) (q : st_T × Int32) : Option (Int32 × st_T) :=
  (fun (S2 : st_T) (y2_2 : Int32) =>
  (c_g (st_K S2 a0 = 10) (c_n (st_fr S2 901 a0) (fun (q4 : Nat) => (c_g (st_K S2 q4 = 1) (c_c (f_Jx4a65c_size_8abf5 S2 q4) (fun (r7 : Int32) (T7 : st_T) => (c_i (r7 ≤ y2_2) (some (0, T7)) (c_g (st_K T7 a0 = 10) (c_n (st_fr T7 901 a0) (fun (q14 : Nat) => (c_g (st_K T7 q14 = 1) (c_c (f_Jx4a65c_get_915e3 T7 q14 y2_2) (fun (r18 : Option Nat) (T18 : st_T) => (c_n r18 (fun (p18 : Nat) => (c_g (st_K T18 p18 = 3) (c_c (f_X1_isOfSort T18 p18 x1) (fun (r25 : Int32) (T25 : st_T) => (c_i (r25 = 0) (rec2 (T25, (y2_2 + 1))) (some (1, T25)))))))))))))))))))))) q.1 q.2
set_option maxRecDepth 100000 in
def f_X8_hasSort (S : st_T) (a0 : Nat) (x1 : Int32) : Option (Int32 × st_T) :=
  (c_w (b_X8_hasSort_2 a0 x1) c_N (S, 0))
set_option maxRecDepth 100000 in
set_option maxHeartbeats 4000000 in
theorem s_X8_hasSort (l : Launch) (X : st_I) {S SE : st_T} {a0 : Nat} {x1 : Int32} {rr : Int32} (Hf : f_X8_hasSort S a0 x1 = some (rr, SE)) : Met l yX8_hasSort (Cond.code yX8_hasSort cX8_hasSort 3 (some .boolean) :: lw_g) { frames := 3, cells := 0, slots := 0, locals := 64 } (st_P X S [.ref a0, .int x1]) (st_Q X (st_A S) (some (.int rr)) SE) 0 0 (st_A S) := by
  refine st_ofW (by decide) (Nat.le_of_ble_eq_true rfl) ?_
  intro p e s m args below meth c hx hb hr hml hlocks hnm hts hown hK hRO hA hP hS ls hl
  have hown : s.vm.findClass RX8 = some m.cls := hown
  have hl : lv_has ls 3 [(0, .ref a0), (1, .int x1)] := hl
  unfold f_X8_hasSort at Hf
  refine lv_iconst (v := 0) hx hb dX8_hasSort_0 (by decide) ?_
  refine lv_istore_n (lv' := [(2, .int 0), (0, .ref a0), (1, .int x1)]) hx hb dX8_hasSort_1 rfl hl (by decide) rfl (fun ls hl => ?_)
  refine (c_w_ind (P := fun (q : st_T × Int32) => ∀ (H : Heap) (locs : List Loc) (ls : Array Slot), st_HP X (st_A S) q.1 H → va_S (st_A S) s.heap H locs → lv_has ls 3 [(0, .ref a0), (1, .int x1), (2, .int q.2)] → W p l e { frames := 3, cells := 0, slots := 0, locals := 64 } s m args below meth c H locs 0 0 (MQ below (st_Q X (st_A S) (some (.int rr)) SE) args s 0 0 (st_A S)) (F0 m 2 ls [])) ?_ _ _ Hf) _ _ _ hP hS (lv_sub hl [1, 2, 0] rfl)
  intro rec2 hrec2 q Hf H locs ls hP hS hl
  obtain ⟨S2, y2_2⟩ := q
  unfold b_X8_hasSort_2 at Hf
  try dsimp only at Hf
  try dsimp only at hP
  try dsimp only at hl
  try dsimp only
  refine lv_iload_n hx hb dX8_hasSort_2 rfl (lv_at hl 2 rfl) ?_
  refine lv_aload_n hx hb dX8_hasSort_3 rfl (lv_at hl 0 rfl) ?_
  obtain ⟨hk_a0, Hf⟩ := c_g_some Hf
  obtain ⟨q4, hq4, Hf⟩ := c_n_some Hf
  refine fg_9_1 hx hb hts hown hK hP hk_a0 lkf_X8_19 hq4 dX8_hasSort_4 ?_
  obtain ⟨hk_q4, Hf⟩ := c_g_some Hf
  obtain ⟨r7, T7, hq7, Hf⟩ := c_c_some Hf
  refine r_cV (n := 0) (As := []) (rest := [.int y2_2]) ⟨hx, hb, hml, hown, hts⟩ (s_Jx4a65c_size_8abf5 l X hq7) lkm_X8_81 (by decide +kernel) rfl (by decide) dX8_hasSort_7 rfl rfl ⟨Nat.le_of_ble_eq_true rfl, Nat.le_of_ble_eq_true rfl⟩ hk_q4 rfl hl.1 (Nat.le_of_ble_eq_true rfl) ⟨Nat.le_of_ble_eq_true rfl, Nat.le_of_ble_eq_true rfl⟩ hK hRO hA hP hS (fun H locs hP hS => ?_)
  refine W.eq (g2 := F0 m 10 ls [.int r7, .int y2_2]) rfl ?_
  refine lv_icmp_ge hx hb dX8_hasSort_10 (tgt := 39) (by decide) (fun hc => ?_) (fun hc => ?_)
  · have Hf := c_i_t Hf hc
    refine lv_iconst (v := 0) hx hb dX8_hasSort_39 (by decide) ?_
    cases Hf
    exact r_zret hx hb hr rfl (Or.inl rfl) hlocks dX8_hasSort_40 (Nat.le_of_ble_eq_true rfl) (Nat.le_of_ble_eq_true rfl) hP hS
  have Hf := c_i_f Hf hc
  refine lv_aload_n hx hb dX8_hasSort_13 rfl (lv_at hl 0 rfl) ?_
  obtain ⟨hk_a0, Hf⟩ := c_g_some Hf
  obtain ⟨q14, hq14, Hf⟩ := c_n_some Hf
  refine fg_9_1 hx hb hts hown hK hP hk_a0 lkf_X8_19 hq14 dX8_hasSort_14 ?_
  refine lv_iload_n hx hb dX8_hasSort_17 rfl (lv_at hl 2 rfl) ?_
  obtain ⟨hk_q14, Hf⟩ := c_g_some Hf
  obtain ⟨r18, T18, hq18, Hf⟩ := c_c_some Hf
  refine r_cV (n := 1) (As := [.int y2_2]) (rest := []) ⟨hx, hb, hml, hown, hts⟩ (s_Jx4a65c_get_915e3 l X hq18) lkm_X8_85 (by decide +kernel) rfl (by decide) dX8_hasSort_18 rfl rfl ⟨Nat.le_of_ble_eq_true rfl, Nat.le_of_ble_eq_true rfl⟩ hk_q14 rfl hl.1 (Nat.le_of_ble_eq_true rfl) ⟨Nat.le_of_ble_eq_true rfl, Nat.le_of_ble_eq_true rfl⟩ hK hRO hA hP hS (fun H locs hP hS => ?_)
  obtain ⟨p18, ep18, Hf⟩ := c_n_some Hf
  subst ep18
  refine W.eq (g2 := F0 m 21 ls [.ref p18]) rfl ?_
  obtain ⟨hk_p18, Hf⟩ := c_g_some Hf
  refine va_castE hx hb hown (hts _ (lg_1 341 rfl rfl)) (st_recv hK hP hk_p18 (by decide) rfl) dX8_hasSort_21 ?_
  refine lv_iload_n hx hb dX8_hasSort_24 rfl (lv_at hl 1 rfl) ?_
  obtain ⟨r25, T25, hq25, Hf⟩ := c_c_some Hf
  refine r_cV (n := 1) (As := [.int x1]) (rest := []) ⟨hx, hb, hml, hown, hts⟩ (s_X1_isOfSort l X hq25) lkm_X8_241 (by decide +kernel) rfl (by decide) dX8_hasSort_25 rfl rfl ⟨Nat.le_of_ble_eq_true rfl, Nat.le_of_ble_eq_true rfl⟩ hk_p18 rfl hl.1 (Nat.le_of_ble_eq_true rfl) ⟨Nat.le_of_ble_eq_true rfl, Nat.le_of_ble_eq_true rfl⟩ hK hRO hA hP hS (fun H locs hP hS => ?_)
  refine W.eq (g2 := F0 m 28 ls [.int r25]) rfl ?_
  refine lv_if_eq hx hb dX8_hasSort_28 (tgt := 33) (by decide) (fun hc => ?_) (fun hc => ?_)
  · have Hf := c_i_t Hf hc
    refine lv_iinc (v := (y2_2 + 1)) (lv' := [(2, .int (y2_2 + 1)), (0, .ref a0), (1, .int x1)]) hx hb dX8_hasSort_33 hl (k := 2) rfl rfl (by decide) rfl (fun ls hl => ?_)
    refine lv_goto hx hb dX8_hasSort_36 (tgt := 2) (by decide) ?_
    exact hrec2 (T25, (y2_2 + 1)) Hf _ _ _ hP hS (lv_sub hl [1, 2, 0] rfl)
  have Hf := c_i_f Hf hc
  refine lv_iconst (v := 1) hx hb dX8_hasSort_31 (by decide) ?_
  cases Hf
  exact r_zret hx hb hr rfl (Or.inr rfl) hlocks dX8_hasSort_32 (Nat.le_of_ble_eq_true rfl) (Nat.le_of_ble_eq_true rfl) hP hS

def j_X8_greatestDifference_46 (rec4 : st_T × Int64 × Int32 → Option (Int32 × st_T)) (y3_4 : Int32) (S46 : st_T) (y1_46 : Int64) : Option (Int32 × st_T) :=
  (rec4 (S46, y1_46, (y3_4 + 1)))
def b_X8_greatestDifference_4 (a0 : Nat) (rec4 : st_T × Int64 × Int32 → Option (Int32 × st_T)) (q : st_T × Int64 × Int32) : Option (Int32 × st_T) :=
  (fun (S4 : st_T) (y1_4 : Int64) (y3_4 : Int32) =>
  (c_i (5 ≤ y3_4) (some (((y1_4 : Int64).toInt32), S4)) (c_g (st_K S4 a0 = 10) (c_c (f_X8_hasSort S4 a0 y3_4) (fun (r11 : Int32) (T11 : st_T) => (c_i (r11 = 0) (j_X8_greatestDifference_46 rec4 y3_4 T11 y1_4) (c_g (st_K T11 a0 = 10) (c_c (f_X8_weightOfSort T11 a0 y3_4) (fun (r19 : Int64) (T19 : st_T) => (c_g (st_K T19 a0 = 10) (c_n (st_fr T19 907 a0) (fun (q27 : Nat) => (c_g (st_K T19 q27 = 20) (c_g (c_in y3_4 (st_ln T19 q27)) (c_l (if 0 < ((r19 / 1000) - (((st_ri T19 q27 (y3_4 : Int32).toNatClampNeg) : Int32).toInt64)) then ((r19 / 1000) - (((st_ri T19 q27 (y3_4 : Int32).toNatClampNeg) : Int32).toInt64)) else -((r19 / 1000) - (((st_ri T19 q27 (y3_4 : Int32).toNatClampNeg) : Int32).toInt64))) (fun (z4_37 : Int64) => (c_l (if z4_37 < y1_4 then y1_4 else z4_37) (fun (z1_45 : Int64) => (j_X8_greatestDifference_46 rec4 y3_4 T19 z1_45))))))))))))))))))) q.1 q.2.1 q.2.2
set_option maxRecDepth 100000 in
def f_X8_greatestDifference (S : st_T) (a0 : Nat) : Option (Int32 × st_T) :=
  (c_w (b_X8_greatestDifference_4 a0) c_N (S, 0, 0))
set_option maxRecDepth 100000 in
set_option maxHeartbeats 4000000 in
theorem s_X8_greatestDifference (l : Launch) (X : st_I) {S SE : st_T} {a0 : Nat} {rr : Int32} (Hf : f_X8_greatestDifference S a0 = some (rr, SE)) : Met l yX8_greatestDifference (Cond.code yX8_greatestDifference cX8_greatestDifference 6 (some .int) :: lw_g) { frames := 4, cells := 0, slots := 0, locals := 89 } (st_P X S [.ref a0]) (st_Q X (st_A S) (some (.int rr)) SE) 0 0 (st_A S) := by
  refine st_ofW (by decide) (Nat.le_of_ble_eq_true rfl) ?_
  intro p e s m args below meth c hx hb hr hml hlocks hnm hts hown hK hRO hA hP hS ls hl
  have hown : s.vm.findClass RX8 = some m.cls := hown
  have hl : lv_has ls 6 [(0, .ref a0)] := hl
  unfold f_X8_greatestDifference at Hf
  refine lv_lconst (v := 0) hx hb dX8_greatestDifference_0 (by decide) ?_
  refine lv_lstore_n (lv' := [(1, .long 0), (0, .ref a0)]) hx hb dX8_greatestDifference_1 rfl hl (by decide) rfl (fun ls hl => ?_)
  refine lv_iconst (v := 0) hx hb dX8_greatestDifference_2 (by decide) ?_
  refine lv_istore_n (lv' := [(3, .int 0), (1, .long 0), (0, .ref a0)]) hx hb dX8_greatestDifference_3 rfl hl (by decide) rfl (fun ls hl => ?_)
  refine (c_w_ind (P := fun (q : st_T × Int64 × Int32) => ∀ (H : Heap) (locs : List Loc) (ls : Array Slot), st_HP X (st_A S) q.1 H → va_S (st_A S) s.heap H locs → lv_has ls 6 [(0, .ref a0), (1, .long q.2.1), (3, .int q.2.2)] → W p l e { frames := 4, cells := 0, slots := 0, locals := 89 } s m args below meth c H locs 0 0 (MQ below (st_Q X (st_A S) (some (.int rr)) SE) args s 0 0 (st_A S)) (F0 m 4 ls [])) ?_ _ _ Hf) _ _ _ hP hS (lv_sub hl [2, 1, 0] rfl)
  intro rec4 hrec4 q Hf H locs ls hP hS hl
  obtain ⟨S4, y1_4, y3_4⟩ := q
  unfold b_X8_greatestDifference_4 at Hf
  try dsimp only at Hf
  try dsimp only at hP
  try dsimp only at hl
  try dsimp only
  refine lv_iload_n hx hb dX8_greatestDifference_4 rfl (lv_at hl 2 rfl) ?_
  refine lv_iconst (v := 5) hx hb dX8_greatestDifference_5 (by decide) ?_
  refine lv_icmp_ge hx hb dX8_greatestDifference_6 (tgt := 52) (by decide) (fun hc => ?_) (fun hc => ?_)
  · have Hf := c_i_t Hf hc
    refine lv_lload_n hx hb dX8_greatestDifference_52 rfl (lv_at hl 1 rfl) ?_
    refine lv_l2i (v := (y1_4 : Int64).toInt32) hx hb dX8_greatestDifference_53 rfl ?_
    cases Hf
    exact r_iret hx hb hr rfl hlocks dX8_greatestDifference_54 (Nat.le_of_ble_eq_true rfl) (Nat.le_of_ble_eq_true rfl) hP hS
  have Hf := c_i_f Hf hc
  refine lv_aload_n hx hb dX8_greatestDifference_9 rfl (lv_at hl 0 rfl) ?_
  refine lv_iload_n hx hb dX8_greatestDifference_10 rfl (lv_at hl 2 rfl) ?_
  obtain ⟨hk_a0, Hf⟩ := c_g_some Hf
  obtain ⟨r11, T11, hq11, Hf⟩ := c_c_some Hf
  refine r_cV (n := 1) (As := [.int y3_4]) (rest := []) ⟨hx, hb, hml, hown, hts⟩ (s_X8_hasSort l X hq11) lkm_X8_249 (by decide +kernel) rfl (by decide) dX8_greatestDifference_11 rfl rfl ⟨Nat.le_of_ble_eq_true rfl, Nat.le_of_ble_eq_true rfl⟩ hk_a0 rfl hl.1 (Nat.le_of_ble_eq_true rfl) ⟨Nat.le_of_ble_eq_true rfl, Nat.le_of_ble_eq_true rfl⟩ hK hRO hA hP hS (fun H locs hP hS => ?_)
  refine W.eq (g2 := F0 m 14 ls [.int r11]) rfl ?_
  have hJ46 : ∀ (S46 : st_T) (y1_46 : Int64), j_X8_greatestDifference_46 rec4 y3_4 S46 y1_46 = some (rr, SE) → ∀ (H : Heap) (locs : List Loc) (ls : Array Slot), st_HP X (st_A S) S46 H → va_S (st_A S) s.heap H locs → lv_has ls 6 [(0, .ref a0), (1, .long y1_46), (3, .int y3_4)] → W p l e { frames := 4, cells := 0, slots := 0, locals := 89 } s m args below meth c H locs 0 0 (MQ below (st_Q X (st_A S) (some (.int rr)) SE) args s 0 0 (st_A S)) (F0 m 46 ls []) := by
    intro S46 y1_46 Hf H locs ls hP hS hl
    unfold j_X8_greatestDifference_46 at Hf
    refine lv_iinc (v := (y3_4 + 1)) (lv' := [(3, .int (y3_4 + 1)), (0, .ref a0), (1, .long y1_46)]) hx hb dX8_greatestDifference_46 hl (k := 2) rfl rfl (by decide) rfl (fun ls hl => ?_)
    refine lv_goto hx hb dX8_greatestDifference_49 (tgt := 4) (by decide) ?_
    exact hrec4 (S46, y1_46, (y3_4 + 1)) Hf _ _ _ hP hS (lv_sub hl [1, 2, 0] rfl)
  refine lv_if_eq hx hb dX8_greatestDifference_14 (tgt := 46) (by decide) (fun hc => ?_) (fun hc => ?_)
  · have Hf := c_i_t Hf hc
    exact hJ46 T11 y1_4 Hf _ _ _ hP hS (lv_sub hl [0, 1, 2] rfl)
  have Hf := c_i_f Hf hc
  refine lv_aload_n hx hb dX8_greatestDifference_17 rfl (lv_at hl 0 rfl) ?_
  refine lv_iload_n hx hb dX8_greatestDifference_18 rfl (lv_at hl 2 rfl) ?_
  obtain ⟨hk_a0, Hf⟩ := c_g_some Hf
  obtain ⟨r19, T19, hq19, Hf⟩ := c_c_some Hf
  refine r_cV (n := 1) (As := [.int y3_4]) (rest := []) ⟨hx, hb, hml, hown, hts⟩ (s_X8_weightOfSort l X hq19) lkm_X8_245 (by decide +kernel) rfl (by decide) dX8_greatestDifference_19 rfl rfl ⟨Nat.le_of_ble_eq_true rfl, Nat.le_of_ble_eq_true rfl⟩ hk_a0 rfl hl.1 (Nat.le_of_ble_eq_true rfl) ⟨Nat.le_of_ble_eq_true rfl, Nat.le_of_ble_eq_true rfl⟩ hK hRO hA hP hS (fun H locs hP hS => ?_)
  refine W.eq (g2 := F0 m 22 ls [.long r19]) rfl ?_
  refine lv_ldc2 hx hb hown (hts _ lkc_X8_194) dX8_greatestDifference_22 ?_
  refine lv_ldiv hx hb dX8_greatestDifference_25 (by decide) ?_
  refine lv_aload_n hx hb dX8_greatestDifference_26 rfl (lv_at hl 0 rfl) ?_
  obtain ⟨hk_a0, Hf⟩ := c_g_some Hf
  obtain ⟨q27, hq27, Hf⟩ := c_n_some Hf
  refine fg_9_7 hx hb hts hown hK hP hk_a0 lkf_X8_58 hq27 dX8_greatestDifference_27 ?_
  refine lv_iload_n hx hb dX8_greatestDifference_30 rfl (lv_at hl 2 rfl) ?_
  obtain ⟨hk_q27, Hf⟩ := c_g_some Hf
  obtain ⟨hi31, Hf⟩ := c_g_some Hf
  refine r_iald hx hb hK hP hk_q27 hi31 dX8_greatestDifference_31 ?_
  refine lv_i2l (v := ((st_ri T19 q27 (y3_4 : Int32).toNatClampNeg) : Int32).toInt64) hx hb dX8_greatestDifference_32 rfl ?_
  refine lv_lsub hx hb dX8_greatestDifference_33 ?_
  refine va_mabs_long hx hb (hml.trans hl.1.symm) hown (hts _ (lg_1 806 rfl rfl)) (hts _ (lg_1 807 rfl rfl)) (hts _ (lg_1 80 rfl rfl)) (hts _ (lg_1 808 rfl rfl)) (Nat.le_of_ble_eq_true rfl) (Nat.le_of_ble_eq_true rfl) (Nat.le_of_ble_eq_true rfl) (Nat.le_of_ble_eq_true rfl) dX8_greatestDifference_34 ?_
  refine lv_topl (fun z4_37 ez4_37 => ?_)
  have Hf := c_l_ren Hf ez4_37
  refine lv_lstore (lv' := [(4, .long z4_37), (0, .ref a0), (1, .long y1_4), (3, .int y3_4)]) hx hb dX8_greatestDifference_37 hl (by decide) rfl (fun ls hl => ?_)
  refine lv_lload_n hx hb dX8_greatestDifference_39 rfl (lv_at hl 2 rfl) ?_
  refine lv_lload hx hb dX8_greatestDifference_40 (lv_at hl 0 rfl) ?_
  refine va_mmax_long hx hb (hml.trans hl.1.symm) hown (hts _ (lg_1 809 rfl rfl)) (hts _ (lg_1 810 rfl rfl)) (hts _ (lg_1 80 rfl rfl)) (hts _ (lg_1 811 rfl rfl)) (Nat.le_of_ble_eq_true rfl) (Nat.le_of_ble_eq_true rfl) (Nat.le_of_ble_eq_true rfl) (Nat.le_of_ble_eq_true rfl) dX8_greatestDifference_42 ?_
  refine lv_topl (fun z1_45 ez1_45 => ?_)
  have Hf := c_l_ren Hf ez1_45
  refine lv_lstore_n (lv' := [(1, .long z1_45), (4, .long z4_37), (0, .ref a0), (3, .int y3_4)]) hx hb dX8_greatestDifference_45 rfl hl (by decide) rfl (fun ls hl => ?_)
  exact hJ46 T19 z1_45 Hf _ _ _ hP hS (lv_sub hl [2, 0, 3] rfl)

def b_X8_rounds_21 (a0 : Nat) (rec14 : st_T × Int32 → Option (Int32 × st_T)) (y2_14 : Int32) (rec21 : st_T × Int32 → Option (Int32 × st_T)) (q : st_T × Int32) : Option (Int32 × st_T) :=
  (fun (S21 : st_T) (y3_21 : Int32) =>
  (c_i (5 ≤ y3_21) (rec14 (S21, (y2_14 + 1))) (c_g (st_K S21 a0 = 10) (c_c (f_X8_weighSort S21 a0 y3_21) (fun (r28 : Unit) (T28 : st_T) => (rec21 (T28, (y3_21 + 1)))))))) q.1 q.2
def b_X8_rounds_14 (a0 : Nat) (x1 : Int32) (rec14 : st_T × Int32 → Option (Int32 × st_T)) (q : st_T × Int32) : Option (Int32 × st_T) :=
  (fun (S14 : st_T) (y2_14 : Int32) =>
  (c_i (x1 ≤ y2_14) (c_g (st_K S14 a0 = 10) (c_c (f_X8_greatestDifference S14 a0) (fun (r44 : Int32) (T44 : st_T) => (some (r44, T44))))) (c_w (b_X8_rounds_21 a0 rec14 y2_14) c_N (S14, 0)))) q.1 q.2
set_option maxRecDepth 100000 in
def f_X8_rounds (S : st_T) (a0 : Nat) (x1 : Int32) : Option (Int32 × st_T) :=
  (c_c (f_X8_isWithin S x1 0 20) (fun (r4 : Int32) (T4 : st_T) => (c_i (r4 = 0) (some ((-1), T4)) (c_w (b_X8_rounds_14 a0 x1) c_N (T4, 0)))))
set_option maxRecDepth 100000 in
set_option maxHeartbeats 4000000 in
theorem s_X8_rounds (l : Launch) (X : st_I) {S SE : st_T} {a0 : Nat} {x1 : Int32} {rr : Int32} (Hf : f_X8_rounds S a0 x1 = some (rr, SE)) : Met l yX8_rounds (Cond.code yX8_rounds cX8_rounds 4 (some .int) :: lw_g) { frames := 5, cells := 0, slots := 0, locals := 114 } (st_P X S [.ref a0, .int x1]) (st_Q X (st_A S) (some (.int rr)) SE) 0 0 (st_A S) := by
  refine st_ofW (by decide) (Nat.le_of_ble_eq_true rfl) ?_
  intro p e s m args below meth c hx hb hr hml hlocks hnm hts hown hK hRO hA hP hS ls hl
  have hown : s.vm.findClass RX8 = some m.cls := hown
  have hl : lv_has ls 4 [(0, .ref a0), (1, .int x1)] := hl
  unfold f_X8_rounds at Hf
  refine lv_iload_n hx hb dX8_rounds_0 rfl (lv_at hl 1 rfl) ?_
  refine lv_iconst (v := 0) hx hb dX8_rounds_1 (by decide) ?_
  refine lv_bipush (v := 20) hx hb dX8_rounds_2 (by decide) ?_
  obtain ⟨r4, T4, hq4, Hf⟩ := c_c_some Hf
  refine r_cS (n := 3) (As := [.int x1, .int 0, .int 20]) (rest := []) ⟨hx, hb, hml, hown, hts⟩ (s_X8_isWithin l X hq4) lkm_X8_69 (by decide +kernel) dX8_rounds_4 rfl rfl ⟨Nat.le_of_ble_eq_true rfl, Nat.le_of_ble_eq_true rfl⟩ rfl hl.1 (Nat.le_of_ble_eq_true rfl) ⟨Nat.le_of_ble_eq_true rfl, Nat.le_of_ble_eq_true rfl⟩ hK hRO hA hP hS (fun H locs hP hS => ?_)
  refine W.eq (g2 := F0 m 7 ls [.int r4]) rfl ?_
  refine lv_if_ne hx hb dX8_rounds_7 (tgt := 12) (by decide) (fun hc => ?_) (fun hc => ?_)
  · have Hf := c_i_f Hf hc
    refine lv_iconst (v := 0) hx hb dX8_rounds_12 (by decide) ?_
    refine lv_istore_n (lv' := [(2, .int 0), (0, .ref a0), (1, .int x1)]) hx hb dX8_rounds_13 rfl hl (by decide) rfl (fun ls hl => ?_)
    refine (c_w_ind (P := fun (q : st_T × Int32) => ∀ (H : Heap) (locs : List Loc) (ls : Array Slot), st_HP X (st_A S) q.1 H → va_S (st_A S) s.heap H locs → lv_has ls 4 [(0, .ref a0), (1, .int x1), (2, .int q.2)] → W p l e { frames := 5, cells := 0, slots := 0, locals := 114 } s m args below meth c H locs 0 0 (MQ below (st_Q X (st_A S) (some (.int rr)) SE) args s 0 0 (st_A S)) (F0 m 14 ls [])) ?_ _ _ Hf) _ _ _ hP hS (lv_sub hl [1, 2, 0] rfl)
    intro rec14 hrec14 q Hf H locs ls hP hS hl
    obtain ⟨S14, y2_14⟩ := q
    unfold b_X8_rounds_14 at Hf
    try dsimp only at Hf
    try dsimp only at hP
    try dsimp only at hl
    try dsimp only
    refine lv_iload_n hx hb dX8_rounds_14 rfl (lv_at hl 2 rfl) ?_
    refine lv_iload_n hx hb dX8_rounds_15 rfl (lv_at hl 1 rfl) ?_
    refine lv_icmp_ge hx hb dX8_rounds_16 (tgt := 43) (by decide) (fun hc => ?_) (fun hc => ?_)
    · have Hf := c_i_t Hf hc
      refine lv_aload_n hx hb dX8_rounds_43 rfl (lv_at hl 0 rfl) ?_
      obtain ⟨hk_a0, Hf⟩ := c_g_some Hf
      obtain ⟨r44, T44, hq44, Hf⟩ := c_c_some Hf
      refine r_cV (n := 0) (As := []) (rest := []) ⟨hx, hb, hml, hown, hts⟩ (s_X8_greatestDifference l X hq44) lkm_X8_181 (by decide +kernel) rfl (by decide) dX8_rounds_44 rfl rfl ⟨Nat.le_of_ble_eq_true rfl, Nat.le_of_ble_eq_true rfl⟩ hk_a0 rfl hl.1 (Nat.le_of_ble_eq_true rfl) ⟨Nat.le_of_ble_eq_true rfl, Nat.le_of_ble_eq_true rfl⟩ hK hRO hA hP hS (fun H locs hP hS => ?_)
      refine W.eq (g2 := F0 m 47 ls [.int r44]) rfl ?_
      cases Hf
      exact r_iret hx hb hr rfl hlocks dX8_rounds_47 (Nat.le_of_ble_eq_true rfl) (Nat.le_of_ble_eq_true rfl) hP hS
    have Hf := c_i_f Hf hc
    refine lv_iconst (v := 0) hx hb dX8_rounds_19 (by decide) ?_
    refine lv_istore_n (lv' := [(3, .int 0), (0, .ref a0), (1, .int x1), (2, .int y2_14)]) hx hb dX8_rounds_20 rfl hl (by decide) rfl (fun ls hl => ?_)
    refine (c_w_ind (P := fun (q : st_T × Int32) => ∀ (H : Heap) (locs : List Loc) (ls : Array Slot), st_HP X (st_A S) q.1 H → va_S (st_A S) s.heap H locs → lv_has ls 4 [(0, .ref a0), (1, .int x1), (2, .int y2_14), (3, .int q.2)] → W p l e { frames := 5, cells := 0, slots := 0, locals := 114 } s m args below meth c H locs 0 0 (MQ below (st_Q X (st_A S) (some (.int rr)) SE) args s 0 0 (st_A S)) (F0 m 21 ls [])) ?_ _ _ Hf) _ _ _ hP hS (lv_sub hl [1, 2, 3, 0] rfl)
    intro rec21 hrec21 q Hf H locs ls hP hS hl
    obtain ⟨S21, y3_21⟩ := q
    unfold b_X8_rounds_21 at Hf
    try dsimp only at Hf
    try dsimp only at hP
    try dsimp only at hl
    try dsimp only
    refine lv_iload_n hx hb dX8_rounds_21 rfl (lv_at hl 3 rfl) ?_
    refine lv_iconst (v := 5) hx hb dX8_rounds_22 (by decide) ?_
    refine lv_icmp_ge hx hb dX8_rounds_23 (tgt := 37) (by decide) (fun hc => ?_) (fun hc => ?_)
    · have Hf := c_i_t Hf hc
      refine lv_iinc (v := (y2_14 + 1)) (lv' := [(2, .int (y2_14 + 1)), (0, .ref a0), (1, .int x1), (3, .int y3_21)]) hx hb dX8_rounds_37 hl (k := 2) rfl rfl (by decide) rfl (fun ls hl => ?_)
      refine lv_goto hx hb dX8_rounds_40 (tgt := 14) (by decide) ?_
      exact hrec14 (S21, (y2_14 + 1)) Hf _ _ _ hP hS (lv_sub hl [1, 2, 0] rfl)
    have Hf := c_i_f Hf hc
    refine lv_aload_n hx hb dX8_rounds_26 rfl (lv_at hl 0 rfl) ?_
    refine lv_iload_n hx hb dX8_rounds_27 rfl (lv_at hl 3 rfl) ?_
    obtain ⟨hk_a0, Hf⟩ := c_g_some Hf
    obtain ⟨r28, T28, hq28, Hf⟩ := c_c_some Hf
    refine r_cV (n := 1) (As := [.int y3_21]) (rest := []) ⟨hx, hb, hml, hown, hts⟩ (s_X8_weighSort l X hq28) lkm_X8_178 (by decide +kernel) rfl (by decide) dX8_rounds_28 rfl rfl ⟨Nat.le_of_ble_eq_true rfl, Nat.le_of_ble_eq_true rfl⟩ hk_a0 rfl hl.1 (Nat.le_of_ble_eq_true rfl) ⟨Nat.le_of_ble_eq_true rfl, Nat.le_of_ble_eq_true rfl⟩ hK hRO hA hP hS (fun H locs hP hS => ?_)
    refine W.eq (g2 := F0 m 31 ls []) rfl ?_
    refine lv_iinc (v := (y3_21 + 1)) (lv' := [(3, .int (y3_21 + 1)), (0, .ref a0), (1, .int x1), (2, .int y2_14)]) hx hb dX8_rounds_31 hl (k := 3) rfl rfl (by decide) rfl (fun ls hl => ?_)
    refine lv_goto hx hb dX8_rounds_34 (tgt := 21) (by decide) ?_
    exact hrec21 (T28, (y3_21 + 1)) Hf _ _ _ hP hS (lv_sub hl [1, 2, 3, 0] rfl)
  have Hf := c_i_t Hf hc
  refine lv_iconst (v := (-1)) hx hb dX8_rounds_10 (by decide) ?_
  cases Hf
  exact r_iret hx hb hr rfl hlocks dX8_rounds_11 (Nat.le_of_ble_eq_true rfl) (Nat.le_of_ble_eq_true rfl) hP hS

set_option maxRecDepth 100000 in
def f_X8_weight (S : st_T) (a0 : Nat) (x1 : Int32) : Option (Int32 × st_T) :=
  (c_g (st_K S a0 = 10) (c_c (f_X8_find S a0 x1) (fun (r2 : Option Nat) (T2 : st_T) => (c_o r2 (some ((-1), T2)) (fun (p2 : Nat) => (c_g (st_K T2 p2 = 3) (some ((st_fi T2 205 p2), T2))))))))
set_option maxRecDepth 100000 in
set_option maxHeartbeats 4000000 in
theorem s_X8_weight (l : Launch) (X : st_I) {S SE : st_T} {a0 : Nat} {x1 : Int32} {rr : Int32} (Hf : f_X8_weight S a0 x1 = some (rr, SE)) : Met l yX8_weight (Cond.code yX8_weight cX8_weight 3 (some .int) :: lw_g) { frames := 4, cells := 0, slots := 0, locals := 85 } (st_P X S [.ref a0, .int x1]) (st_Q X (st_A S) (some (.int rr)) SE) 0 0 (st_A S) := by
  refine st_ofW (by decide) (Nat.le_of_ble_eq_true rfl) ?_
  intro p e s m args below meth c hx hb hr hml hlocks hnm hts hown hK hRO hA hP hS ls hl
  have hown : s.vm.findClass RX8 = some m.cls := hown
  have hl : lv_has ls 3 [(0, .ref a0), (1, .int x1)] := hl
  unfold f_X8_weight at Hf
  refine lv_aload_n hx hb dX8_weight_0 rfl (lv_at hl 0 rfl) ?_
  refine lv_iload_n hx hb dX8_weight_1 rfl (lv_at hl 1 rfl) ?_
  obtain ⟨hk_a0, Hf⟩ := c_g_some Hf
  obtain ⟨r2, T2, hq2, Hf⟩ := c_c_some Hf
  refine r_cV (n := 1) (As := [.int x1]) (rest := []) ⟨hx, hb, hml, hown, hts⟩ (s_X8_find l X hq2) lkm_X8_104 (by decide +kernel) rfl (by decide) dX8_weight_2 rfl rfl ⟨Nat.le_of_ble_eq_true rfl, Nat.le_of_ble_eq_true rfl⟩ hk_a0 rfl hl.1 (Nat.le_of_ble_eq_true rfl) ⟨Nat.le_of_ble_eq_true rfl, Nat.le_of_ble_eq_true rfl⟩ hK hRO hA hP hS (fun H locs hP hS => ?_)
  rcases r2 with _ | p2
  · have Hf := c_o_n Hf
    refine W.eq (g2 := F0 m 5 ls [.null]) rfl ?_
    refine lv_astore_nN (lv' := [(2, .null), (0, .ref a0), (1, .int x1)]) hx hb dX8_weight_5 rfl hl (by decide) rfl (fun ls hl => ?_)
    refine lv_aload_nN hx hb dX8_weight_6 rfl (lv_at hl 0 rfl) ?_
    refine lv_ifnonnullN hx hb dX8_weight_7 ?_
    refine lv_iconst (v := (-1)) hx hb dX8_weight_10 (by decide) ?_
    refine lv_goto hx hb dX8_weight_11 (tgt := 18) (by decide) ?_
    cases Hf
    exact r_iret hx hb hr rfl hlocks dX8_weight_18 (Nat.le_of_ble_eq_true rfl) (Nat.le_of_ble_eq_true rfl) hP hS
  have Hf := c_o_s Hf
  refine W.eq (g2 := F0 m 5 ls [.ref p2]) rfl ?_
  refine lv_astore_n (lv' := [(2, .ref p2), (0, .ref a0), (1, .int x1)]) hx hb dX8_weight_5 rfl hl (by decide) rfl (fun ls hl => ?_)
  refine lv_aload_n hx hb dX8_weight_6 rfl (lv_at hl 0 rfl) ?_
  refine lv_ifnonnull hx hb dX8_weight_7 (tgt := 14) (by decide) ?_
  refine lv_aload_n hx hb dX8_weight_14 rfl (lv_at hl 0 rfl) ?_
  obtain ⟨hk_p2, Hf⟩ := c_g_some Hf
  refine fg_2_5 hx hb hts hown hK hP hk_p2 lkf_X8_184 dX8_weight_15 ?_
  cases Hf
  exact r_iret hx hb hr rfl hlocks dX8_weight_18 (Nat.le_of_ble_eq_true rfl) (Nat.le_of_ble_eq_true rfl) hP hS

def j_X8_cell_111 (S111 : st_T) (u0_111 : Int64) : Option (Int32 × st_T) :=
  (some (((u0_111 : Int64).toInt32), S111))
def j_X8_cell_87 (rec31 : st_T × Int64 × Int32 → Option (Int32 × st_T)) (y4_31 : Int64) (y6_31 : Int32) (S87 : st_T) (u0_87 : Int64) : Option (Int32 × st_T) :=
  (c_l (y4_31 + u0_87) (fun (z4_88 : Int64) => (rec31 (S87, z4_88, (y6_31 + 1)))))
def b_X8_cell_31 (a0 : Nat) (x1 : Int32) (x2 : Int32) (x3 : Int32) (rec31 : st_T × Int64 × Int32 → Option (Int32 × st_T)) (q : st_T × Int64 × Int32) : Option (Int32 × st_T) :=
  (fun (S31 : st_T) (y4_31 : Int64) (y6_31 : Int32) =>
  (c_g (st_K S31 a0 = 10) (c_n (st_fr S31 901 a0) (fun (q34 : Nat) => (c_g (st_K S31 q34 = 1) (c_c (f_Jx4a65c_size_8abf5 S31 q34) (fun (r37 : Int32) (T37 : st_T) => (c_i (r37 ≤ y6_31) (c_i (x3 = 0) (j_X8_cell_111 T37 y4_31) (j_X8_cell_111 T37 (y4_31 / 1000))) (c_g (st_K T37 a0 = 10) (c_n (st_fr T37 901 a0) (fun (q44 : Nat) => (c_g (st_K T37 q44 = 1) (c_c (f_Jx4a65c_get_915e3 T37 q44 y6_31) (fun (r49 : Option Nat) (T49 : st_T) => (c_n r49 (fun (p49 : Nat) => (c_g (st_K T49 p49 = 3) (c_c (f_X1_tensInCell T49 p49 x1 x2) (fun (r61 : Int32) (T61 : st_T) => (c_l ((r61 : Int32).toInt64) (fun (z8_65 : Int64) => (c_i (x3 = 0) (j_X8_cell_87 rec31 y4_31 y6_31 T61 z8_65) (c_g (st_K T61 p49 = 3) (j_X8_cell_87 rec31 y4_31 y6_31 T61 (z8_65 * (((st_fi T61 205 p49) : Int32).toInt64)))))))))))))))))))))))))) q.1 q.2.1 q.2.2
set_option maxRecDepth 100000 in
def f_X8_cell (S : st_T) (a0 : Nat) (x1 : Int32) (x2 : Int32) (x3 : Int32) : Option (Int32 × st_T) :=
  (c_c (f_X8_isWithin S x1 0 49) (fun (r4 : Int32) (T4 : st_T) => (c_i (r4 = 0) (some ((-1), T4)) (c_c (f_X8_isWithin T4 x2 0 3) (fun (r13 : Int32) (T13 : st_T) => (c_i (r13 = 0) (some ((-1), T13)) (c_g (st_K T13 a0 = 10) (c_c (f_X8_codeDiaries T13 a0) (fun (r22 : Unit) (T22 : st_T) => (c_w (b_X8_cell_31 a0 x1 x2 x3) c_N (T22, 0, 0)))))))))))
set_option maxRecDepth 100000 in
set_option maxHeartbeats 4000000 in
theorem s_X8_cell (l : Launch) (X : st_I) {S SE : st_T} {a0 : Nat} {x1 : Int32} {x2 : Int32} {x3 : Int32} {rr : Int32} (Hf : f_X8_cell S a0 x1 x2 x3 = some (rr, SE)) : Met l yX8_cell (Cond.code yX8_cell cX8_cell 10 (some .int) :: lw_g) { frames := 7, cells := 0, slots := 0, locals := 167 } (st_P X S [.ref a0, .int x1, .int x2, .int x3]) (st_Q X (st_A S) (some (.int rr)) SE) 0 0 (st_A S) := by
  refine st_ofW (by decide) (Nat.le_of_ble_eq_true rfl) ?_
  intro p e s m args below meth c hx hb hr hml hlocks hnm hts hown hK hRO hA hP hS ls hl
  have hown : s.vm.findClass RX8 = some m.cls := hown
  have hl : lv_has ls 10 [(0, .ref a0), (1, .int x1), (2, .int x2), (3, .int x3)] := hl
  unfold f_X8_cell at Hf
  refine lv_iload_n hx hb dX8_cell_0 rfl (lv_at hl 1 rfl) ?_
  refine lv_iconst (v := 0) hx hb dX8_cell_1 (by decide) ?_
  refine lv_bipush (v := 49) hx hb dX8_cell_2 (by decide) ?_
  obtain ⟨r4, T4, hq4, Hf⟩ := c_c_some Hf
  refine r_cS (n := 3) (As := [.int x1, .int 0, .int 49]) (rest := []) ⟨hx, hb, hml, hown, hts⟩ (s_X8_isWithin l X hq4) lkm_X8_69 (by decide +kernel) dX8_cell_4 rfl rfl ⟨Nat.le_of_ble_eq_true rfl, Nat.le_of_ble_eq_true rfl⟩ rfl hl.1 (Nat.le_of_ble_eq_true rfl) ⟨Nat.le_of_ble_eq_true rfl, Nat.le_of_ble_eq_true rfl⟩ hK hRO hA hP hS (fun H locs hP hS => ?_)
  refine W.eq (g2 := F0 m 7 ls [.int r4]) rfl ?_
  refine lv_if_eq hx hb dX8_cell_7 (tgt := 19) (by decide) (fun hc => ?_) (fun hc => ?_)
  · have Hf := c_i_t Hf hc
    refine lv_iconst (v := (-1)) hx hb dX8_cell_19 (by decide) ?_
    cases Hf
    exact r_iret hx hb hr rfl hlocks dX8_cell_20 (Nat.le_of_ble_eq_true rfl) (Nat.le_of_ble_eq_true rfl) hP hS
  have Hf := c_i_f Hf hc
  refine lv_iload_n hx hb dX8_cell_10 rfl (lv_at hl 2 rfl) ?_
  refine lv_iconst (v := 0) hx hb dX8_cell_11 (by decide) ?_
  refine lv_iconst (v := 3) hx hb dX8_cell_12 (by decide) ?_
  obtain ⟨r13, T13, hq13, Hf⟩ := c_c_some Hf
  refine r_cS (n := 3) (As := [.int x2, .int 0, .int 3]) (rest := []) ⟨hx, hb, hml, hown, hts⟩ (s_X8_isWithin l X hq13) lkm_X8_69 (by decide +kernel) dX8_cell_13 rfl rfl ⟨Nat.le_of_ble_eq_true rfl, Nat.le_of_ble_eq_true rfl⟩ rfl hl.1 (Nat.le_of_ble_eq_true rfl) ⟨Nat.le_of_ble_eq_true rfl, Nat.le_of_ble_eq_true rfl⟩ hK hRO hA hP hS (fun H locs hP hS => ?_)
  refine W.eq (g2 := F0 m 16 ls [.int r13]) rfl ?_
  refine lv_if_ne hx hb dX8_cell_16 (tgt := 21) (by decide) (fun hc => ?_) (fun hc => ?_)
  · have Hf := c_i_f Hf hc
    refine lv_aload_n hx hb dX8_cell_21 rfl (lv_at hl 0 rfl) ?_
    obtain ⟨hk_a0, Hf⟩ := c_g_some Hf
    obtain ⟨r22, T22, hq22, Hf⟩ := c_c_some Hf
    refine r_cV (n := 0) (As := []) (rest := []) ⟨hx, hb, hml, hown, hts⟩ (s_X8_codeDiaries l X hq22) lkm_X8_187 (by decide +kernel) rfl (by decide) dX8_cell_22 rfl rfl ⟨Nat.le_of_ble_eq_true rfl, Nat.le_of_ble_eq_true rfl⟩ hk_a0 rfl hl.1 (Nat.le_of_ble_eq_true rfl) ⟨Nat.le_of_ble_eq_true rfl, Nat.le_of_ble_eq_true rfl⟩ hK hRO hA hP hS (fun H locs hP hS => ?_)
    refine W.eq (g2 := F0 m 25 ls []) rfl ?_
    refine lv_lconst (v := 0) hx hb dX8_cell_25 (by decide) ?_
    refine lv_lstore (lv' := [(4, .long 0), (0, .ref a0), (1, .int x1), (2, .int x2), (3, .int x3)]) hx hb dX8_cell_26 hl (by decide) rfl (fun ls hl => ?_)
    refine lv_iconst (v := 0) hx hb dX8_cell_28 (by decide) ?_
    refine lv_istore (lv' := [(6, .int 0), (4, .long 0), (0, .ref a0), (1, .int x1), (2, .int x2), (3, .int x3)]) hx hb dX8_cell_29 hl (by decide) rfl (fun ls hl => ?_)
    refine (c_w_ind (P := fun (q : st_T × Int64 × Int32) => ∀ (H : Heap) (locs : List Loc) (ls : Array Slot), st_HP X (st_A S) q.1 H → va_S (st_A S) s.heap H locs → lv_has ls 10 [(0, .ref a0), (1, .int x1), (2, .int x2), (3, .int x3), (4, .long q.2.1), (6, .int q.2.2)] → W p l e { frames := 7, cells := 0, slots := 0, locals := 167 } s m args below meth c H locs 0 0 (MQ below (st_Q X (st_A S) (some (.int rr)) SE) args s 0 0 (st_A S)) (F0 m 31 ls [])) ?_ _ _ Hf) _ _ _ hP hS (lv_sub hl [2, 3, 4, 5, 1, 0] rfl)
    intro rec31 hrec31 q Hf H locs ls hP hS hl
    obtain ⟨S31, y4_31, y6_31⟩ := q
    unfold b_X8_cell_31 at Hf
    try dsimp only at Hf
    try dsimp only at hP
    try dsimp only at hl
    try dsimp only
    refine lv_iload hx hb dX8_cell_31 (lv_at hl 5 rfl) ?_
    refine lv_aload_n hx hb dX8_cell_33 rfl (lv_at hl 0 rfl) ?_
    obtain ⟨hk_a0, Hf⟩ := c_g_some Hf
    obtain ⟨q34, hq34, Hf⟩ := c_n_some Hf
    refine fg_9_1 hx hb hts hown hK hP hk_a0 lkf_X8_19 hq34 dX8_cell_34 ?_
    obtain ⟨hk_q34, Hf⟩ := c_g_some Hf
    obtain ⟨r37, T37, hq37, Hf⟩ := c_c_some Hf
    refine r_cV (n := 0) (As := []) (rest := [.int y6_31]) ⟨hx, hb, hml, hown, hts⟩ (s_Jx4a65c_size_8abf5 l X hq37) lkm_X8_81 (by decide +kernel) rfl (by decide) dX8_cell_37 rfl rfl ⟨Nat.le_of_ble_eq_true rfl, Nat.le_of_ble_eq_true rfl⟩ hk_q34 rfl hl.1 (Nat.le_of_ble_eq_true rfl) ⟨Nat.le_of_ble_eq_true rfl, Nat.le_of_ble_eq_true rfl⟩ hK hRO hA hP hS (fun H locs hP hS => ?_)
    refine W.eq (g2 := F0 m 40 ls [.int r37, .int y6_31]) rfl ?_
    refine lv_icmp_ge hx hb dX8_cell_40 (tgt := 96) (by decide) (fun hc => ?_) (fun hc => ?_)
    · have Hf := c_i_t Hf hc
      refine lv_iload_n hx hb dX8_cell_96 rfl (lv_at hl 3 rfl) ?_
      have hJ111 : ∀ (S111 : st_T) (u0_111 : Int64), j_X8_cell_111 S111 u0_111 = some (rr, SE) → ∀ (H : Heap) (locs : List Loc) (ls : Array Slot), st_HP X (st_A S) S111 H → va_S (st_A S) s.heap H locs → lv_has ls 10 [] → W p l e { frames := 7, cells := 0, slots := 0, locals := 167 } s m args below meth c H locs 0 0 (MQ below (st_Q X (st_A S) (some (.int rr)) SE) args s 0 0 (st_A S)) (F0 m 111 ls [.long u0_111]) := by
        intro S111 u0_111 Hf H locs ls hP hS hl
        unfold j_X8_cell_111 at Hf
        refine lv_l2i (v := (u0_111 : Int64).toInt32) hx hb dX8_cell_111 rfl ?_
        cases Hf
        exact r_iret hx hb hr rfl hlocks dX8_cell_112 (Nat.le_of_ble_eq_true rfl) (Nat.le_of_ble_eq_true rfl) hP hS
      refine lv_if_eq hx hb dX8_cell_97 (tgt := 109) (by decide) (fun hc => ?_) (fun hc => ?_)
      · have Hf := c_i_t Hf hc
        refine lv_lload hx hb dX8_cell_109 (lv_at hl 4 rfl) ?_
        exact hJ111 T37 y4_31 Hf _ _ _ hP hS (lv_sub hl [] rfl)
      have Hf := c_i_f Hf hc
      refine lv_lload hx hb dX8_cell_100 (lv_at hl 4 rfl) ?_
      refine lv_ldc2 hx hb hown (hts _ lkc_X8_194) dX8_cell_102 ?_
      refine lv_ldiv hx hb dX8_cell_105 (by decide) ?_
      refine lv_goto hx hb dX8_cell_106 (tgt := 111) (by decide) ?_
      exact hJ111 T37 (y4_31 / 1000) Hf _ _ _ hP hS (lv_sub hl [] rfl)
    have Hf := c_i_f Hf hc
    refine lv_aload_n hx hb dX8_cell_43 rfl (lv_at hl 0 rfl) ?_
    obtain ⟨hk_a0, Hf⟩ := c_g_some Hf
    obtain ⟨q44, hq44, Hf⟩ := c_n_some Hf
    refine fg_9_1 hx hb hts hown hK hP hk_a0 lkf_X8_19 hq44 dX8_cell_44 ?_
    refine lv_iload hx hb dX8_cell_47 (lv_at hl 5 rfl) ?_
    obtain ⟨hk_q44, Hf⟩ := c_g_some Hf
    obtain ⟨r49, T49, hq49, Hf⟩ := c_c_some Hf
    refine r_cV (n := 1) (As := [.int y6_31]) (rest := []) ⟨hx, hb, hml, hown, hts⟩ (s_Jx4a65c_get_915e3 l X hq49) lkm_X8_85 (by decide +kernel) rfl (by decide) dX8_cell_49 rfl rfl ⟨Nat.le_of_ble_eq_true rfl, Nat.le_of_ble_eq_true rfl⟩ hk_q44 rfl hl.1 (Nat.le_of_ble_eq_true rfl) ⟨Nat.le_of_ble_eq_true rfl, Nat.le_of_ble_eq_true rfl⟩ hK hRO hA hP hS (fun H locs hP hS => ?_)
    obtain ⟨p49, ep49, Hf⟩ := c_n_some Hf
    subst ep49
    refine W.eq (g2 := F0 m 52 ls [.ref p49]) rfl ?_
    obtain ⟨hk_p49, Hf⟩ := c_g_some Hf
    refine va_castE hx hb hown (hts _ (lg_1 341 rfl rfl)) (st_recv hK hP hk_p49 (by decide) rfl) dX8_cell_52 ?_
    refine lv_astore (lv' := [(7, .ref p49), (0, .ref a0), (1, .int x1), (2, .int x2), (3, .int x3), (4, .long y4_31), (6, .int y6_31)]) hx hb dX8_cell_55 hl (by decide) rfl (fun ls hl => ?_)
    refine lv_aload hx hb dX8_cell_57 (lv_at hl 0 rfl) ?_
    refine lv_iload_n hx hb dX8_cell_59 rfl (lv_at hl 2 rfl) ?_
    refine lv_iload_n hx hb dX8_cell_60 rfl (lv_at hl 3 rfl) ?_
    obtain ⟨r61, T61, hq61, Hf⟩ := c_c_some Hf
    refine r_cV (n := 2) (As := [.int x1, .int x2]) (rest := []) ⟨hx, hb, hml, hown, hts⟩ (s_X1_tensInCell l X hq61) lkm_X8_190 (by decide +kernel) rfl (by decide) dX8_cell_61 rfl rfl ⟨Nat.le_of_ble_eq_true rfl, Nat.le_of_ble_eq_true rfl⟩ hk_p49 rfl hl.1 (Nat.le_of_ble_eq_true rfl) ⟨Nat.le_of_ble_eq_true rfl, Nat.le_of_ble_eq_true rfl⟩ hK hRO hA hP hS (fun H locs hP hS => ?_)
    refine W.eq (g2 := F0 m 64 ls [.int r61]) rfl ?_
    refine lv_i2l (v := (r61 : Int32).toInt64) hx hb dX8_cell_64 rfl ?_
    refine lv_topl (fun z8_65 ez8_65 => ?_)
    have Hf := c_l_ren Hf ez8_65
    refine lv_lstore (lv' := [(8, .long z8_65), (7, .ref p49), (0, .ref a0), (1, .int x1), (2, .int x2), (3, .int x3), (4, .long y4_31), (6, .int y6_31)]) hx hb dX8_cell_65 hl (by decide) rfl (fun ls hl => ?_)
    refine lv_lload hx hb dX8_cell_67 (lv_at hl 6 rfl) ?_
    refine lv_iload_n hx hb dX8_cell_69 rfl (lv_at hl 5 rfl) ?_
    have hJ87 : ∀ (S87 : st_T) (u0_87 : Int64), j_X8_cell_87 rec31 y4_31 y6_31 S87 u0_87 = some (rr, SE) → ∀ (H : Heap) (locs : List Loc) (ls : Array Slot), st_HP X (st_A S) S87 H → va_S (st_A S) s.heap H locs → lv_has ls 10 [(0, .ref a0), (1, .int x1), (2, .int x2), (3, .int x3), (6, .int y6_31)] → W p l e { frames := 7, cells := 0, slots := 0, locals := 167 } s m args below meth c H locs 0 0 (MQ below (st_Q X (st_A S) (some (.int rr)) SE) args s 0 0 (st_A S)) (F0 m 87 ls [.long u0_87, .long y4_31]) := by
      intro S87 u0_87 Hf H locs ls hP hS hl
      unfold j_X8_cell_87 at Hf
      refine lv_ladd hx hb dX8_cell_87 ?_
      refine lv_topl (fun z4_88 ez4_88 => ?_)
      have Hf := c_l_ren Hf ez4_88
      refine lv_lstore (lv' := [(4, .long z4_88), (0, .ref a0), (1, .int x1), (2, .int x2), (3, .int x3), (6, .int y6_31)]) hx hb dX8_cell_88 hl (by decide) rfl (fun ls hl => ?_)
      refine lv_iinc (v := (y6_31 + 1)) (lv' := [(6, .int (y6_31 + 1)), (4, .long z4_88), (0, .ref a0), (1, .int x1), (2, .int x2), (3, .int x3)]) hx hb dX8_cell_90 hl (k := 5) rfl rfl (by decide) rfl (fun ls hl => ?_)
      refine lv_goto hx hb dX8_cell_93 (tgt := 31) (by decide) ?_
      exact hrec31 (S87, z4_88, (y6_31 + 1)) Hf _ _ _ hP hS (lv_sub hl [2, 3, 4, 5, 1, 0] rfl)
    refine lv_if_eq hx hb dX8_cell_70 (tgt := 85) (by decide) (fun hc => ?_) (fun hc => ?_)
    · have Hf := c_i_t Hf hc
      refine lv_lload hx hb dX8_cell_85 (lv_at hl 0 rfl) ?_
      exact hJ87 T61 z8_65 Hf _ _ _ hP hS (lv_sub hl [2, 3, 4, 5, 7] rfl)
    have Hf := c_i_f Hf hc
    refine lv_lload hx hb dX8_cell_73 (lv_at hl 0 rfl) ?_
    refine lv_aload hx hb dX8_cell_75 (lv_at hl 1 rfl) ?_
    obtain ⟨hk_p49, Hf⟩ := c_g_some Hf
    refine fg_2_5 hx hb hts hown hK hP hk_p49 lkf_X8_184 dX8_cell_77 ?_
    refine lv_i2l (v := ((st_fi T61 205 p49) : Int32).toInt64) hx hb dX8_cell_80 rfl ?_
    refine lv_lmul hx hb dX8_cell_81 ?_
    refine lv_goto hx hb dX8_cell_82 (tgt := 87) (by decide) ?_
    exact hJ87 T61 (z8_65 * (((st_fi T61 205 p49) : Int32).toInt64)) Hf _ _ _ hP hS (lv_sub hl [2, 3, 4, 5, 7] rfl)
  have Hf := c_i_t Hf hc
  refine lv_iconst (v := (-1)) hx hb dX8_cell_19 (by decide) ?_
  cases Hf
  exact r_iret hx hb hr rfl hlocks dX8_cell_20 (Nat.le_of_ble_eq_true rfl) (Nat.le_of_ble_eq_true rfl) hP hS

def j_X8_lead_118 (rec64 : st_T × Int32 × Int32 → Option (Int32 × st_T)) (y7_64 : Int32) (S118 : st_T) (y4_118 : Int32) : Option (Int32 × st_T) :=
  (rec64 (S118, y4_118, (y7_64 + 1)))
def b_X8_lead_64 (x1 : Int32) (x2 : Int32) (rec35 : st_T × Int32 × Int32 → Option (Int32 × st_T)) (y5_35 : Int32) (p53 : Nat) (rec64 : st_T × Int32 × Int32 → Option (Int32 × st_T)) (q : st_T × Int32 × Int32) : Option (Int32 × st_T) :=
  (fun (S64 : st_T) (y4_64 : Int32) (y7_64 : Int32) =>
  (c_g (st_K S64 p53 = 3) (c_n (st_fr S64 204 p53) (fun (q68 : Nat) => (c_g (st_K S64 q68 = 1) (c_c (f_Jx4a65c_size_8abf5 S64 q68) (fun (r71 : Int32) (T71 : st_T) => (c_i (r71 ≤ y7_64) (rec35 (T71, y4_64, (y5_35 + 1))) (c_g (st_K T71 p53 = 3) (c_n (st_fr T71 204 p53) (fun (q79 : Nat) => (c_g (st_K T71 q79 = 1) (c_c (f_Jx4a65c_get_915e3 T71 q79 y7_64) (fun (r84 : Option Nat) (T84 : st_T) => (c_n r84 (fun (p84 : Nat) => (c_g (st_K T84 p84 = 4) (c_c (f_X2_isInCell T84 p84 x1 x2) (fun (r92 : Int32) (T92 : st_T) => (c_i (r92 = 0) (j_X8_lead_118 rec64 y7_64 T92 y4_64) (c_i (y4_64 = 0) (some (((100 * y5_35) + y7_64), T92)) (j_X8_lead_118 rec64 y7_64 T92 (y4_64 + (-1)))))))))))))))))))))))) q.1 q.2.1 q.2.2
def b_X8_lead_35 (a0 : Nat) (x1 : Int32) (x2 : Int32) (rec35 : st_T × Int32 × Int32 → Option (Int32 × st_T)) (q : st_T × Int32 × Int32) : Option (Int32 × st_T) :=
  (fun (S35 : st_T) (y4_35 : Int32) (y5_35 : Int32) =>
  (c_g (st_K S35 a0 = 10) (c_n (st_fr S35 901 a0) (fun (q38 : Nat) => (c_g (st_K S35 q38 = 1) (c_c (f_Jx4a65c_size_8abf5 S35 q38) (fun (r41 : Int32) (T41 : st_T) => (c_i (r41 ≤ y5_35) (some ((-1), T41)) (c_g (st_K T41 a0 = 10) (c_n (st_fr T41 901 a0) (fun (q48 : Nat) => (c_g (st_K T41 q48 = 1) (c_c (f_Jx4a65c_get_915e3 T41 q48 y5_35) (fun (r53 : Option Nat) (T53 : st_T) => (c_n r53 (fun (p53 : Nat) => (c_g (st_K T53 p53 = 3) (c_w (b_X8_lead_64 x1 x2 rec35 y5_35 p53) c_N (T53, y4_35, 0))))))))))))))))))) q.1 q.2.1 q.2.2
set_option maxRecDepth 100000 in
def f_X8_lead (S : st_T) (a0 : Nat) (x1 : Int32) (x2 : Int32) (x3 : Int32) : Option (Int32 × st_T) :=
  (c_c (f_X8_isWithin S x1 0 49) (fun (r4 : Int32) (T4 : st_T) => (c_i (r4 = 0) (some ((-1), T4)) (c_c (f_X8_isWithin T4 x2 0 2) (fun (r13 : Int32) (T13 : st_T) => (c_i (r13 = 0) (some ((-1), T13)) (c_i (0 ≤ x3) (c_g (st_K T13 a0 = 10) (c_c (f_X8_codeDiaries T13 a0) (fun (r26 : Unit) (T26 : st_T) => (c_w (b_X8_lead_35 a0 x1 x2) c_N (T26, x3, 0))))) (some ((-1), T13)))))))))
set_option maxRecDepth 100000 in
set_option maxHeartbeats 4000000 in
theorem s_X8_lead (l : Launch) (X : st_I) {S SE : st_T} {a0 : Nat} {x1 : Int32} {x2 : Int32} {x3 : Int32} {rr : Int32} (Hf : f_X8_lead S a0 x1 x2 x3 = some (rr, SE)) : Met l yX8_lead (Cond.code yX8_lead cX8_lead 8 (some .int) :: lw_g) { frames := 7, cells := 0, slots := 0, locals := 167 } (st_P X S [.ref a0, .int x1, .int x2, .int x3]) (st_Q X (st_A S) (some (.int rr)) SE) 0 0 (st_A S) := by
  refine st_ofW (by decide) (Nat.le_of_ble_eq_true rfl) ?_
  intro p e s m args below meth c hx hb hr hml hlocks hnm hts hown hK hRO hA hP hS ls hl
  have hown : s.vm.findClass RX8 = some m.cls := hown
  have hl : lv_has ls 8 [(0, .ref a0), (1, .int x1), (2, .int x2), (3, .int x3)] := hl
  unfold f_X8_lead at Hf
  refine lv_iload_n hx hb dX8_lead_0 rfl (lv_at hl 1 rfl) ?_
  refine lv_iconst (v := 0) hx hb dX8_lead_1 (by decide) ?_
  refine lv_bipush (v := 49) hx hb dX8_lead_2 (by decide) ?_
  obtain ⟨r4, T4, hq4, Hf⟩ := c_c_some Hf
  refine r_cS (n := 3) (As := [.int x1, .int 0, .int 49]) (rest := []) ⟨hx, hb, hml, hown, hts⟩ (s_X8_isWithin l X hq4) lkm_X8_69 (by decide +kernel) dX8_lead_4 rfl rfl ⟨Nat.le_of_ble_eq_true rfl, Nat.le_of_ble_eq_true rfl⟩ rfl hl.1 (Nat.le_of_ble_eq_true rfl) ⟨Nat.le_of_ble_eq_true rfl, Nat.le_of_ble_eq_true rfl⟩ hK hRO hA hP hS (fun H locs hP hS => ?_)
  refine W.eq (g2 := F0 m 7 ls [.int r4]) rfl ?_
  refine lv_if_eq hx hb dX8_lead_7 (tgt := 23) (by decide) (fun hc => ?_) (fun hc => ?_)
  · have Hf := c_i_t Hf hc
    refine lv_iconst (v := (-1)) hx hb dX8_lead_23 (by decide) ?_
    cases Hf
    exact r_iret hx hb hr rfl hlocks dX8_lead_24 (Nat.le_of_ble_eq_true rfl) (Nat.le_of_ble_eq_true rfl) hP hS
  have Hf := c_i_f Hf hc
  refine lv_iload_n hx hb dX8_lead_10 rfl (lv_at hl 2 rfl) ?_
  refine lv_iconst (v := 0) hx hb dX8_lead_11 (by decide) ?_
  refine lv_iconst (v := 2) hx hb dX8_lead_12 (by decide) ?_
  obtain ⟨r13, T13, hq13, Hf⟩ := c_c_some Hf
  refine r_cS (n := 3) (As := [.int x2, .int 0, .int 2]) (rest := []) ⟨hx, hb, hml, hown, hts⟩ (s_X8_isWithin l X hq13) lkm_X8_69 (by decide +kernel) dX8_lead_13 rfl rfl ⟨Nat.le_of_ble_eq_true rfl, Nat.le_of_ble_eq_true rfl⟩ rfl hl.1 (Nat.le_of_ble_eq_true rfl) ⟨Nat.le_of_ble_eq_true rfl, Nat.le_of_ble_eq_true rfl⟩ hK hRO hA hP hS (fun H locs hP hS => ?_)
  refine W.eq (g2 := F0 m 16 ls [.int r13]) rfl ?_
  refine lv_if_eq hx hb dX8_lead_16 (tgt := 23) (by decide) (fun hc => ?_) (fun hc => ?_)
  · have Hf := c_i_t Hf hc
    refine lv_iconst (v := (-1)) hx hb dX8_lead_23 (by decide) ?_
    cases Hf
    exact r_iret hx hb hr rfl hlocks dX8_lead_24 (Nat.le_of_ble_eq_true rfl) (Nat.le_of_ble_eq_true rfl) hP hS
  have Hf := c_i_f Hf hc
  refine lv_iload_n hx hb dX8_lead_19 rfl (lv_at hl 3 rfl) ?_
  refine lv_if_ge hx hb dX8_lead_20 (tgt := 25) (by decide) (fun hc => ?_) (fun hc => ?_)
  · have Hf := c_i_t Hf hc
    refine lv_aload_n hx hb dX8_lead_25 rfl (lv_at hl 0 rfl) ?_
    obtain ⟨hk_a0, Hf⟩ := c_g_some Hf
    obtain ⟨r26, T26, hq26, Hf⟩ := c_c_some Hf
    refine r_cV (n := 0) (As := []) (rest := []) ⟨hx, hb, hml, hown, hts⟩ (s_X8_codeDiaries l X hq26) lkm_X8_187 (by decide +kernel) rfl (by decide) dX8_lead_26 rfl rfl ⟨Nat.le_of_ble_eq_true rfl, Nat.le_of_ble_eq_true rfl⟩ hk_a0 rfl hl.1 (Nat.le_of_ble_eq_true rfl) ⟨Nat.le_of_ble_eq_true rfl, Nat.le_of_ble_eq_true rfl⟩ hK hRO hA hP hS (fun H locs hP hS => ?_)
    refine W.eq (g2 := F0 m 29 ls []) rfl ?_
    refine lv_iload_n hx hb dX8_lead_29 rfl (lv_at hl 3 rfl) ?_
    refine lv_istore (lv' := [(4, .int x3), (0, .ref a0), (1, .int x1), (2, .int x2), (3, .int x3)]) hx hb dX8_lead_30 hl (by decide) rfl (fun ls hl => ?_)
    refine lv_iconst (v := 0) hx hb dX8_lead_32 (by decide) ?_
    refine lv_istore (lv' := [(5, .int 0), (4, .int x3), (0, .ref a0), (1, .int x1), (2, .int x2), (3, .int x3)]) hx hb dX8_lead_33 hl (by decide) rfl (fun ls hl => ?_)
    refine (c_w_ind (P := fun (q : st_T × Int32 × Int32) => ∀ (H : Heap) (locs : List Loc) (ls : Array Slot), st_HP X (st_A S) q.1 H → va_S (st_A S) s.heap H locs → lv_has ls 8 [(0, .ref a0), (1, .int x1), (2, .int x2), (4, .int q.2.1), (5, .int q.2.2)] → W p l e { frames := 7, cells := 0, slots := 0, locals := 167 } s m args below meth c H locs 0 0 (MQ below (st_Q X (st_A S) (some (.int rr)) SE) args s 0 0 (st_A S)) (F0 m 35 ls [])) ?_ _ _ Hf) _ _ _ hP hS (lv_sub hl [2, 3, 4, 1, 0] rfl)
    intro rec35 hrec35 q Hf H locs ls hP hS hl
    obtain ⟨S35, y4_35, y5_35⟩ := q
    unfold b_X8_lead_35 at Hf
    try dsimp only at Hf
    try dsimp only at hP
    try dsimp only at hl
    try dsimp only
    refine lv_iload hx hb dX8_lead_35 (lv_at hl 4 rfl) ?_
    refine lv_aload_n hx hb dX8_lead_37 rfl (lv_at hl 0 rfl) ?_
    obtain ⟨hk_a0, Hf⟩ := c_g_some Hf
    obtain ⟨q38, hq38, Hf⟩ := c_n_some Hf
    refine fg_9_1 hx hb hts hown hK hP hk_a0 lkf_X8_19 hq38 dX8_lead_38 ?_
    obtain ⟨hk_q38, Hf⟩ := c_g_some Hf
    obtain ⟨r41, T41, hq41, Hf⟩ := c_c_some Hf
    refine r_cV (n := 0) (As := []) (rest := [.int y5_35]) ⟨hx, hb, hml, hown, hts⟩ (s_Jx4a65c_size_8abf5 l X hq41) lkm_X8_81 (by decide +kernel) rfl (by decide) dX8_lead_41 rfl rfl ⟨Nat.le_of_ble_eq_true rfl, Nat.le_of_ble_eq_true rfl⟩ hk_q38 rfl hl.1 (Nat.le_of_ble_eq_true rfl) ⟨Nat.le_of_ble_eq_true rfl, Nat.le_of_ble_eq_true rfl⟩ hK hRO hA hP hS (fun H locs hP hS => ?_)
    refine W.eq (g2 := F0 m 44 ls [.int r41, .int y5_35]) rfl ?_
    refine lv_icmp_ge hx hb dX8_lead_44 (tgt := 130) (by decide) (fun hc => ?_) (fun hc => ?_)
    · have Hf := c_i_t Hf hc
      refine lv_iconst (v := (-1)) hx hb dX8_lead_130 (by decide) ?_
      cases Hf
      exact r_iret hx hb hr rfl hlocks dX8_lead_131 (Nat.le_of_ble_eq_true rfl) (Nat.le_of_ble_eq_true rfl) hP hS
    have Hf := c_i_f Hf hc
    refine lv_aload_n hx hb dX8_lead_47 rfl (lv_at hl 0 rfl) ?_
    obtain ⟨hk_a0, Hf⟩ := c_g_some Hf
    obtain ⟨q48, hq48, Hf⟩ := c_n_some Hf
    refine fg_9_1 hx hb hts hown hK hP hk_a0 lkf_X8_19 hq48 dX8_lead_48 ?_
    refine lv_iload hx hb dX8_lead_51 (lv_at hl 4 rfl) ?_
    obtain ⟨hk_q48, Hf⟩ := c_g_some Hf
    obtain ⟨r53, T53, hq53, Hf⟩ := c_c_some Hf
    refine r_cV (n := 1) (As := [.int y5_35]) (rest := []) ⟨hx, hb, hml, hown, hts⟩ (s_Jx4a65c_get_915e3 l X hq53) lkm_X8_85 (by decide +kernel) rfl (by decide) dX8_lead_53 rfl rfl ⟨Nat.le_of_ble_eq_true rfl, Nat.le_of_ble_eq_true rfl⟩ hk_q48 rfl hl.1 (Nat.le_of_ble_eq_true rfl) ⟨Nat.le_of_ble_eq_true rfl, Nat.le_of_ble_eq_true rfl⟩ hK hRO hA hP hS (fun H locs hP hS => ?_)
    obtain ⟨p53, ep53, Hf⟩ := c_n_some Hf
    subst ep53
    refine W.eq (g2 := F0 m 56 ls [.ref p53]) rfl ?_
    obtain ⟨hk_p53, Hf⟩ := c_g_some Hf
    refine va_castE hx hb hown (hts _ (lg_1 341 rfl rfl)) (st_recv hK hP hk_p53 (by decide) rfl) dX8_lead_56 ?_
    refine lv_astore (lv' := [(6, .ref p53), (0, .ref a0), (1, .int x1), (2, .int x2), (4, .int y4_35), (5, .int y5_35)]) hx hb dX8_lead_59 hl (by decide) rfl (fun ls hl => ?_)
    refine lv_iconst (v := 0) hx hb dX8_lead_61 (by decide) ?_
    refine lv_istore (lv' := [(7, .int 0), (6, .ref p53), (0, .ref a0), (1, .int x1), (2, .int x2), (4, .int y4_35), (5, .int y5_35)]) hx hb dX8_lead_62 hl (by decide) rfl (fun ls hl => ?_)
    refine (c_w_ind (P := fun (q : st_T × Int32 × Int32) => ∀ (H : Heap) (locs : List Loc) (ls : Array Slot), st_HP X (st_A S) q.1 H → va_S (st_A S) s.heap H locs → lv_has ls 8 [(0, .ref a0), (1, .int x1), (2, .int x2), (4, .int q.2.1), (5, .int y5_35), (6, .ref p53), (7, .int q.2.2)] → W p l e { frames := 7, cells := 0, slots := 0, locals := 167 } s m args below meth c H locs 0 0 (MQ below (st_Q X (st_A S) (some (.int rr)) SE) args s 0 0 (st_A S)) (F0 m 64 ls [])) ?_ _ _ Hf) _ _ _ hP hS (lv_sub hl [2, 3, 4, 5, 6, 1, 0] rfl)
    intro rec64 hrec64 q Hf H locs ls hP hS hl
    obtain ⟨S64, y4_64, y7_64⟩ := q
    unfold b_X8_lead_64 at Hf
    try dsimp only at Hf
    try dsimp only at hP
    try dsimp only at hl
    try dsimp only
    refine lv_iload hx hb dX8_lead_64 (lv_at hl 6 rfl) ?_
    refine lv_aload hx hb dX8_lead_66 (lv_at hl 5 rfl) ?_
    obtain ⟨hk_p53, Hf⟩ := c_g_some Hf
    obtain ⟨q68, hq68, Hf⟩ := c_n_some Hf
    refine fg_2_4 hx hb hts hown hK hP hk_p53 lkf_X8_108 hq68 dX8_lead_68 ?_
    obtain ⟨hk_q68, Hf⟩ := c_g_some Hf
    obtain ⟨r71, T71, hq71, Hf⟩ := c_c_some Hf
    refine r_cV (n := 0) (As := []) (rest := [.int y7_64]) ⟨hx, hb, hml, hown, hts⟩ (s_Jx4a65c_size_8abf5 l X hq71) lkm_X8_81 (by decide +kernel) rfl (by decide) dX8_lead_71 rfl rfl ⟨Nat.le_of_ble_eq_true rfl, Nat.le_of_ble_eq_true rfl⟩ hk_q68 rfl hl.1 (Nat.le_of_ble_eq_true rfl) ⟨Nat.le_of_ble_eq_true rfl, Nat.le_of_ble_eq_true rfl⟩ hK hRO hA hP hS (fun H locs hP hS => ?_)
    refine W.eq (g2 := F0 m 74 ls [.int r71, .int y7_64]) rfl ?_
    refine lv_icmp_ge hx hb dX8_lead_74 (tgt := 124) (by decide) (fun hc => ?_) (fun hc => ?_)
    · have Hf := c_i_t Hf hc
      refine lv_iinc (v := (y5_35 + 1)) (lv' := [(5, .int (y5_35 + 1)), (0, .ref a0), (1, .int x1), (2, .int x2), (4, .int y4_64), (6, .ref p53), (7, .int y7_64)]) hx hb dX8_lead_124 hl (k := 4) rfl rfl (by decide) rfl (fun ls hl => ?_)
      refine lv_goto hx hb dX8_lead_127 (tgt := 35) (by decide) ?_
      exact hrec35 (T71, y4_64, (y5_35 + 1)) Hf _ _ _ hP hS (lv_sub hl [1, 2, 3, 4, 0] rfl)
    have Hf := c_i_f Hf hc
    refine lv_aload hx hb dX8_lead_77 (lv_at hl 5 rfl) ?_
    obtain ⟨hk_p53, Hf⟩ := c_g_some Hf
    obtain ⟨q79, hq79, Hf⟩ := c_n_some Hf
    refine fg_2_4 hx hb hts hown hK hP hk_p53 lkf_X8_108 hq79 dX8_lead_79 ?_
    refine lv_iload hx hb dX8_lead_82 (lv_at hl 6 rfl) ?_
    obtain ⟨hk_q79, Hf⟩ := c_g_some Hf
    obtain ⟨r84, T84, hq84, Hf⟩ := c_c_some Hf
    refine r_cV (n := 1) (As := [.int y7_64]) (rest := []) ⟨hx, hb, hml, hown, hts⟩ (s_Jx4a65c_get_915e3 l X hq84) lkm_X8_85 (by decide +kernel) rfl (by decide) dX8_lead_84 rfl rfl ⟨Nat.le_of_ble_eq_true rfl, Nat.le_of_ble_eq_true rfl⟩ hk_q79 rfl hl.1 (Nat.le_of_ble_eq_true rfl) ⟨Nat.le_of_ble_eq_true rfl, Nat.le_of_ble_eq_true rfl⟩ hK hRO hA hP hS (fun H locs hP hS => ?_)
    obtain ⟨p84, ep84, Hf⟩ := c_n_some Hf
    subst ep84
    refine W.eq (g2 := F0 m 87 ls [.ref p84]) rfl ?_
    obtain ⟨hk_p84, Hf⟩ := c_g_some Hf
    refine va_castE hx hb hown (hts _ (lg_1 456 rfl rfl)) (st_recv hK hP hk_p84 (by decide) rfl) dX8_lead_87 ?_
    refine lv_iload_n hx hb dX8_lead_90 rfl (lv_at hl 1 rfl) ?_
    refine lv_iload_n hx hb dX8_lead_91 rfl (lv_at hl 2 rfl) ?_
    obtain ⟨r92, T92, hq92, Hf⟩ := c_c_some Hf
    refine r_cV (n := 2) (As := [.int x1, .int x2]) (rest := []) ⟨hx, hb, hml, hown, hts⟩ (s_X2_isInCell l X hq92) lkm_X8_196 (by decide +kernel) rfl (by decide) dX8_lead_92 rfl rfl ⟨Nat.le_of_ble_eq_true rfl, Nat.le_of_ble_eq_true rfl⟩ hk_p84 rfl hl.1 (Nat.le_of_ble_eq_true rfl) ⟨Nat.le_of_ble_eq_true rfl, Nat.le_of_ble_eq_true rfl⟩ hK hRO hA hP hS (fun H locs hP hS => ?_)
    refine W.eq (g2 := F0 m 95 ls [.int r92]) rfl ?_
    have hJ118 : ∀ (S118 : st_T) (y4_118 : Int32), j_X8_lead_118 rec64 y7_64 S118 y4_118 = some (rr, SE) → ∀ (H : Heap) (locs : List Loc) (ls : Array Slot), st_HP X (st_A S) S118 H → va_S (st_A S) s.heap H locs → lv_has ls 8 [(0, .ref a0), (1, .int x1), (2, .int x2), (4, .int y4_118), (5, .int y5_35), (6, .ref p53), (7, .int y7_64)] → W p l e { frames := 7, cells := 0, slots := 0, locals := 167 } s m args below meth c H locs 0 0 (MQ below (st_Q X (st_A S) (some (.int rr)) SE) args s 0 0 (st_A S)) (F0 m 118 ls []) := by
      intro S118 y4_118 Hf H locs ls hP hS hl
      unfold j_X8_lead_118 at Hf
      refine lv_iinc (v := (y7_64 + 1)) (lv' := [(7, .int (y7_64 + 1)), (0, .ref a0), (1, .int x1), (2, .int x2), (4, .int y4_118), (5, .int y5_35), (6, .ref p53)]) hx hb dX8_lead_118 hl (k := 6) rfl rfl (by decide) rfl (fun ls hl => ?_)
      refine lv_goto hx hb dX8_lead_121 (tgt := 64) (by decide) ?_
      exact hrec64 (S118, y4_118, (y7_64 + 1)) Hf _ _ _ hP hS (lv_sub hl [1, 2, 3, 4, 5, 6, 0] rfl)
    refine lv_if_ne hx hb dX8_lead_95 (tgt := 101) (by decide) (fun hc => ?_) (fun hc => ?_)
    · have Hf := c_i_f Hf hc
      refine lv_iload hx hb dX8_lead_101 (lv_at hl 3 rfl) ?_
      refine lv_if_ne hx hb dX8_lead_103 (tgt := 115) (by decide) (fun hc => ?_) (fun hc => ?_)
      · have Hf := c_i_f Hf hc
        refine lv_iinc (v := (y4_64 + (-1))) (lv' := [(4, .int (y4_64 + (-1))), (0, .ref a0), (1, .int x1), (2, .int x2), (5, .int y5_35), (6, .ref p53), (7, .int y7_64)]) hx hb dX8_lead_115 hl (k := 3) rfl rfl (by decide) rfl (fun ls hl => ?_)
        exact hJ118 T92 (y4_64 + (-1)) Hf _ _ _ hP hS (lv_sub hl [1, 2, 3, 0, 4, 5, 6] rfl)
      have Hf := c_i_t Hf hc
      refine lv_bipush (v := 100) hx hb dX8_lead_106 (by decide) ?_
      refine lv_iload hx hb dX8_lead_108 (lv_at hl 4 rfl) ?_
      refine lv_imul hx hb dX8_lead_110 ?_
      refine lv_iload hx hb dX8_lead_111 (lv_at hl 6 rfl) ?_
      refine lv_iadd hx hb dX8_lead_113 ?_
      cases Hf
      exact r_iret hx hb hr rfl hlocks dX8_lead_114 (Nat.le_of_ble_eq_true rfl) (Nat.le_of_ble_eq_true rfl) hP hS
    have Hf := c_i_t Hf hc
    refine lv_goto hx hb dX8_lead_98 (tgt := 118) (by decide) ?_
    exact hJ118 T92 y4_64 Hf _ _ _ hP hS (lv_sub hl [0, 1, 2, 3, 4, 5, 6] rfl)
  have Hf := c_i_f Hf hc
  refine lv_iconst (v := (-1)) hx hb dX8_lead_23 (by decide) ?_
  cases Hf
  exact r_iret hx hb hr rfl hlocks dX8_lead_24 (Nat.le_of_ble_eq_true rfl) (Nat.le_of_ble_eq_true rfl) hP hS

def b_X8_next_31 (a0 : Nat) (x1 : Int32) (x2 : Int32) (rec31 : st_T × Int32 × Int32 → Option (Int32 × st_T)) (q : st_T × Int32 × Int32) : Option (Int32 × st_T) :=
  (fun (S31 : st_T) (y3_31 : Int32) (y4_31 : Int32) =>
  (c_g (st_K S31 a0 = 10) (c_n (st_fr S31 901 a0) (fun (q34 : Nat) => (c_g (st_K S31 q34 = 1) (c_c (f_Jx4a65c_size_8abf5 S31 q34) (fun (r37 : Int32) (T37 : st_T) => (c_i (r37 ≤ y4_31) (some (y3_31, T37)) (c_g (st_K T37 a0 = 10) (c_n (st_fr T37 901 a0) (fun (q45 : Nat) => (c_g (st_K T37 q45 = 1) (c_c (f_Jx4a65c_get_915e3 T37 q45 y4_31) (fun (r50 : Option Nat) (T50 : st_T) => (c_n r50 (fun (p50 : Nat) => (c_g (st_K T50 p50 = 3) (c_c (f_X1_followers T50 p50 x1 x2) (fun (r58 : Int32) (T58 : st_T) => (c_l (y3_31 + r58) (fun (z3_62 : Int32) => (rec31 (T58, z3_62, (y4_31 + 1)))))))))))))))))))))))) q.1 q.2.1 q.2.2
set_option maxRecDepth 100000 in
def f_X8_next (S : st_T) (a0 : Nat) (x1 : Int32) (x2 : Int32) : Option (Int32 × st_T) :=
  (c_c (f_X8_isWithin S x1 0 49) (fun (r4 : Int32) (T4 : st_T) => (c_i (r4 = 0) (some ((-1), T4)) (c_c (f_X8_isWithin T4 x2 0 49) (fun (r14 : Int32) (T14 : st_T) => (c_i (r14 = 0) (some ((-1), T14)) (c_g (st_K T14 a0 = 10) (c_c (f_X8_codeDiaries T14 a0) (fun (r23 : Unit) (T23 : st_T) => (c_w (b_X8_next_31 a0 x1 x2) c_N (T23, 0, 0)))))))))))
set_option maxRecDepth 100000 in
set_option maxHeartbeats 4000000 in
theorem s_X8_next (l : Launch) (X : st_I) {S SE : st_T} {a0 : Nat} {x1 : Int32} {x2 : Int32} {rr : Int32} (Hf : f_X8_next S a0 x1 x2 = some (rr, SE)) : Met l yX8_next (Cond.code yX8_next cX8_next 5 (some .int) :: lw_g) { frames := 7, cells := 0, slots := 0, locals := 167 } (st_P X S [.ref a0, .int x1, .int x2]) (st_Q X (st_A S) (some (.int rr)) SE) 0 0 (st_A S) := by
  refine st_ofW (by decide) (Nat.le_of_ble_eq_true rfl) ?_
  intro p e s m args below meth c hx hb hr hml hlocks hnm hts hown hK hRO hA hP hS ls hl
  have hown : s.vm.findClass RX8 = some m.cls := hown
  have hl : lv_has ls 5 [(0, .ref a0), (1, .int x1), (2, .int x2)] := hl
  unfold f_X8_next at Hf
  refine lv_iload_n hx hb dX8_next_0 rfl (lv_at hl 1 rfl) ?_
  refine lv_iconst (v := 0) hx hb dX8_next_1 (by decide) ?_
  refine lv_bipush (v := 49) hx hb dX8_next_2 (by decide) ?_
  obtain ⟨r4, T4, hq4, Hf⟩ := c_c_some Hf
  refine r_cS (n := 3) (As := [.int x1, .int 0, .int 49]) (rest := []) ⟨hx, hb, hml, hown, hts⟩ (s_X8_isWithin l X hq4) lkm_X8_69 (by decide +kernel) dX8_next_4 rfl rfl ⟨Nat.le_of_ble_eq_true rfl, Nat.le_of_ble_eq_true rfl⟩ rfl hl.1 (Nat.le_of_ble_eq_true rfl) ⟨Nat.le_of_ble_eq_true rfl, Nat.le_of_ble_eq_true rfl⟩ hK hRO hA hP hS (fun H locs hP hS => ?_)
  refine W.eq (g2 := F0 m 7 ls [.int r4]) rfl ?_
  refine lv_if_eq hx hb dX8_next_7 (tgt := 20) (by decide) (fun hc => ?_) (fun hc => ?_)
  · have Hf := c_i_t Hf hc
    refine lv_iconst (v := (-1)) hx hb dX8_next_20 (by decide) ?_
    cases Hf
    exact r_iret hx hb hr rfl hlocks dX8_next_21 (Nat.le_of_ble_eq_true rfl) (Nat.le_of_ble_eq_true rfl) hP hS
  have Hf := c_i_f Hf hc
  refine lv_iload_n hx hb dX8_next_10 rfl (lv_at hl 2 rfl) ?_
  refine lv_iconst (v := 0) hx hb dX8_next_11 (by decide) ?_
  refine lv_bipush (v := 49) hx hb dX8_next_12 (by decide) ?_
  obtain ⟨r14, T14, hq14, Hf⟩ := c_c_some Hf
  refine r_cS (n := 3) (As := [.int x2, .int 0, .int 49]) (rest := []) ⟨hx, hb, hml, hown, hts⟩ (s_X8_isWithin l X hq14) lkm_X8_69 (by decide +kernel) dX8_next_14 rfl rfl ⟨Nat.le_of_ble_eq_true rfl, Nat.le_of_ble_eq_true rfl⟩ rfl hl.1 (Nat.le_of_ble_eq_true rfl) ⟨Nat.le_of_ble_eq_true rfl, Nat.le_of_ble_eq_true rfl⟩ hK hRO hA hP hS (fun H locs hP hS => ?_)
  refine W.eq (g2 := F0 m 17 ls [.int r14]) rfl ?_
  refine lv_if_ne hx hb dX8_next_17 (tgt := 22) (by decide) (fun hc => ?_) (fun hc => ?_)
  · have Hf := c_i_f Hf hc
    refine lv_aload_n hx hb dX8_next_22 rfl (lv_at hl 0 rfl) ?_
    obtain ⟨hk_a0, Hf⟩ := c_g_some Hf
    obtain ⟨r23, T23, hq23, Hf⟩ := c_c_some Hf
    refine r_cV (n := 0) (As := []) (rest := []) ⟨hx, hb, hml, hown, hts⟩ (s_X8_codeDiaries l X hq23) lkm_X8_187 (by decide +kernel) rfl (by decide) dX8_next_23 rfl rfl ⟨Nat.le_of_ble_eq_true rfl, Nat.le_of_ble_eq_true rfl⟩ hk_a0 rfl hl.1 (Nat.le_of_ble_eq_true rfl) ⟨Nat.le_of_ble_eq_true rfl, Nat.le_of_ble_eq_true rfl⟩ hK hRO hA hP hS (fun H locs hP hS => ?_)
    refine W.eq (g2 := F0 m 26 ls []) rfl ?_
    refine lv_iconst (v := 0) hx hb dX8_next_26 (by decide) ?_
    refine lv_istore_n (lv' := [(3, .int 0), (0, .ref a0), (1, .int x1), (2, .int x2)]) hx hb dX8_next_27 rfl hl (by decide) rfl (fun ls hl => ?_)
    refine lv_iconst (v := 0) hx hb dX8_next_28 (by decide) ?_
    refine lv_istore (lv' := [(4, .int 0), (3, .int 0), (0, .ref a0), (1, .int x1), (2, .int x2)]) hx hb dX8_next_29 hl (by decide) rfl (fun ls hl => ?_)
    refine (c_w_ind (P := fun (q : st_T × Int32 × Int32) => ∀ (H : Heap) (locs : List Loc) (ls : Array Slot), st_HP X (st_A S) q.1 H → va_S (st_A S) s.heap H locs → lv_has ls 5 [(0, .ref a0), (1, .int x1), (2, .int x2), (3, .int q.2.1), (4, .int q.2.2)] → W p l e { frames := 7, cells := 0, slots := 0, locals := 167 } s m args below meth c H locs 0 0 (MQ below (st_Q X (st_A S) (some (.int rr)) SE) args s 0 0 (st_A S)) (F0 m 31 ls [])) ?_ _ _ Hf) _ _ _ hP hS (lv_sub hl [2, 3, 4, 1, 0] rfl)
    intro rec31 hrec31 q Hf H locs ls hP hS hl
    obtain ⟨S31, y3_31, y4_31⟩ := q
    unfold b_X8_next_31 at Hf
    try dsimp only at Hf
    try dsimp only at hP
    try dsimp only at hl
    try dsimp only
    refine lv_iload hx hb dX8_next_31 (lv_at hl 4 rfl) ?_
    refine lv_aload_n hx hb dX8_next_33 rfl (lv_at hl 0 rfl) ?_
    obtain ⟨hk_a0, Hf⟩ := c_g_some Hf
    obtain ⟨q34, hq34, Hf⟩ := c_n_some Hf
    refine fg_9_1 hx hb hts hown hK hP hk_a0 lkf_X8_19 hq34 dX8_next_34 ?_
    obtain ⟨hk_q34, Hf⟩ := c_g_some Hf
    obtain ⟨r37, T37, hq37, Hf⟩ := c_c_some Hf
    refine r_cV (n := 0) (As := []) (rest := [.int y4_31]) ⟨hx, hb, hml, hown, hts⟩ (s_Jx4a65c_size_8abf5 l X hq37) lkm_X8_81 (by decide +kernel) rfl (by decide) dX8_next_37 rfl rfl ⟨Nat.le_of_ble_eq_true rfl, Nat.le_of_ble_eq_true rfl⟩ hk_q34 rfl hl.1 (Nat.le_of_ble_eq_true rfl) ⟨Nat.le_of_ble_eq_true rfl, Nat.le_of_ble_eq_true rfl⟩ hK hRO hA hP hS (fun H locs hP hS => ?_)
    refine W.eq (g2 := F0 m 40 ls [.int r37, .int y4_31]) rfl ?_
    refine lv_icmp_ge hx hb dX8_next_40 (tgt := 69) (by decide) (fun hc => ?_) (fun hc => ?_)
    · have Hf := c_i_t Hf hc
      refine lv_iload_n hx hb dX8_next_69 rfl (lv_at hl 3 rfl) ?_
      cases Hf
      exact r_iret hx hb hr rfl hlocks dX8_next_70 (Nat.le_of_ble_eq_true rfl) (Nat.le_of_ble_eq_true rfl) hP hS
    have Hf := c_i_f Hf hc
    refine lv_iload_n hx hb dX8_next_43 rfl (lv_at hl 3 rfl) ?_
    refine lv_aload_n hx hb dX8_next_44 rfl (lv_at hl 0 rfl) ?_
    obtain ⟨hk_a0, Hf⟩ := c_g_some Hf
    obtain ⟨q45, hq45, Hf⟩ := c_n_some Hf
    refine fg_9_1 hx hb hts hown hK hP hk_a0 lkf_X8_19 hq45 dX8_next_45 ?_
    refine lv_iload hx hb dX8_next_48 (lv_at hl 4 rfl) ?_
    obtain ⟨hk_q45, Hf⟩ := c_g_some Hf
    obtain ⟨r50, T50, hq50, Hf⟩ := c_c_some Hf
    refine r_cV (n := 1) (As := [.int y4_31]) (rest := [.int y3_31]) ⟨hx, hb, hml, hown, hts⟩ (s_Jx4a65c_get_915e3 l X hq50) lkm_X8_85 (by decide +kernel) rfl (by decide) dX8_next_50 rfl rfl ⟨Nat.le_of_ble_eq_true rfl, Nat.le_of_ble_eq_true rfl⟩ hk_q45 rfl hl.1 (Nat.le_of_ble_eq_true rfl) ⟨Nat.le_of_ble_eq_true rfl, Nat.le_of_ble_eq_true rfl⟩ hK hRO hA hP hS (fun H locs hP hS => ?_)
    obtain ⟨p50, ep50, Hf⟩ := c_n_some Hf
    subst ep50
    refine W.eq (g2 := F0 m 53 ls [.ref p50, .int y3_31]) rfl ?_
    obtain ⟨hk_p50, Hf⟩ := c_g_some Hf
    refine va_castE hx hb hown (hts _ (lg_1 341 rfl rfl)) (st_recv hK hP hk_p50 (by decide) rfl) dX8_next_53 ?_
    refine lv_iload_n hx hb dX8_next_56 rfl (lv_at hl 1 rfl) ?_
    refine lv_iload_n hx hb dX8_next_57 rfl (lv_at hl 2 rfl) ?_
    obtain ⟨r58, T58, hq58, Hf⟩ := c_c_some Hf
    refine r_cV (n := 2) (As := [.int x1, .int x2]) (rest := [.int y3_31]) ⟨hx, hb, hml, hown, hts⟩ (s_X1_followers l X hq58) lkm_X8_199 (by decide +kernel) rfl (by decide) dX8_next_58 rfl rfl ⟨Nat.le_of_ble_eq_true rfl, Nat.le_of_ble_eq_true rfl⟩ hk_p50 rfl hl.1 (Nat.le_of_ble_eq_true rfl) ⟨Nat.le_of_ble_eq_true rfl, Nat.le_of_ble_eq_true rfl⟩ hK hRO hA hP hS (fun H locs hP hS => ?_)
    refine W.eq (g2 := F0 m 61 ls [.int r58, .int y3_31]) rfl ?_
    refine lv_iadd hx hb dX8_next_61 ?_
    refine lv_topi (fun z3_62 ez3_62 => ?_)
    have Hf := c_l_ren Hf ez3_62
    refine lv_istore_n (lv' := [(3, .int z3_62), (0, .ref a0), (1, .int x1), (2, .int x2), (4, .int y4_31)]) hx hb dX8_next_62 rfl hl (by decide) rfl (fun ls hl => ?_)
    refine lv_iinc (v := (y4_31 + 1)) (lv' := [(4, .int (y4_31 + 1)), (3, .int z3_62), (0, .ref a0), (1, .int x1), (2, .int x2)]) hx hb dX8_next_63 hl (k := 4) rfl rfl (by decide) rfl (fun ls hl => ?_)
    refine lv_goto hx hb dX8_next_66 (tgt := 31) (by decide) ?_
    exact hrec31 (T58, z3_62, (y4_31 + 1)) Hf _ _ _ hP hS (lv_sub hl [2, 3, 4, 1, 0] rfl)
  have Hf := c_i_t Hf hc
  refine lv_iconst (v := (-1)) hx hb dX8_next_20 (by decide) ?_
  cases Hf
  exact r_iret hx hb hr rfl hlocks dX8_next_21 (Nat.le_of_ble_eq_true rfl) (Nat.le_of_ble_eq_true rfl) hP hS

def j_X8_quarrels_110 (rec15 : st_T × Int32 × Int32 → Option (Int32 × st_T)) (y4_15 : Int32) (y3_44 : Int32) (S110 : st_T) : Option (Int32 × st_T) :=
  (rec15 (S110, y3_44, (y4_15 + 1)))
def j_X8_quarrels_102 (rec44 : st_T × Int32 × Int32 → Option (Int32 × st_T)) (y3_44 : Int32) (y6_44 : Int32) (S102 : st_T) (u0_102 : Int32) : Option (Int32 × st_T) :=
  (c_l (y3_44 + u0_102) (fun (z3_103 : Int32) => (rec44 (S102, z3_103, (y6_44 + 1)))))
def b_X8_quarrels_44 (a0 : Nat) (x1 : Int32) (x2 : Int32) (rec15 : st_T × Int32 × Int32 → Option (Int32 × st_T)) (y4_15 : Int32) (p33 : Nat) (rec44 : st_T × Int32 × Int32 → Option (Int32 × st_T)) (q : st_T × Int32 × Int32) : Option (Int32 × st_T) :=
  (fun (S44 : st_T) (y3_44 : Int32) (y6_44 : Int32) =>
  (c_g (st_K S44 a0 = 10) (c_n (st_fr S44 901 a0) (fun (q47 : Nat) => (c_g (st_K S44 q47 = 1) (c_c (f_Jx4a65c_size_8abf5 S44 q47) (fun (r50 : Int32) (T50 : st_T) => (c_i (r50 ≤ y6_44) (j_X8_quarrels_110 rec15 y4_15 y3_44 T50) (c_g (st_K T50 p33 = 3) (c_c (f_X1_isOf T50 p33 x1 x2) (fun (r60 : Int32) (T60 : st_T) => (c_i (r60 = 0) (j_X8_quarrels_110 rec15 y4_15 y3_44 T60) (c_g (st_K T60 a0 = 10) (c_n (st_fr T60 901 a0) (fun (q67 : Nat) => (c_g (st_K T60 q67 = 1) (c_c (f_Jx4a65c_get_915e3 T60 q67 y6_44) (fun (r72 : Option Nat) (T72 : st_T) => (c_n r72 (fun (p72 : Nat) => (c_g (st_K T72 p72 = 3) (c_c (f_X1_isOf T72 p72 x1 x2) (fun (r85 : Int32) (T85 : st_T) => (c_i (r85 = 0) (j_X8_quarrels_102 rec44 y3_44 y6_44 T85 0) (c_g (st_K T85 p33 = 3) (c_c (f_X1_tensDeniedBy T85 p33 p72) (fun (r95 : Int32) (T95 : st_T) => (j_X8_quarrels_102 rec44 y3_44 y6_44 T95 r95)))))))))))))))))))))))))))) q.1 q.2.1 q.2.2
def b_X8_quarrels_15 (a0 : Nat) (x1 : Int32) (x2 : Int32) (rec15 : st_T × Int32 × Int32 → Option (Int32 × st_T)) (q : st_T × Int32 × Int32) : Option (Int32 × st_T) :=
  (fun (S15 : st_T) (y3_15 : Int32) (y4_15 : Int32) =>
  (c_g (st_K S15 a0 = 10) (c_n (st_fr S15 901 a0) (fun (q18 : Nat) => (c_g (st_K S15 q18 = 1) (c_c (f_Jx4a65c_size_8abf5 S15 q18) (fun (r21 : Int32) (T21 : st_T) => (c_i (r21 ≤ y4_15) (some (y3_15, T21)) (c_g (st_K T21 a0 = 10) (c_n (st_fr T21 901 a0) (fun (q28 : Nat) => (c_g (st_K T21 q28 = 1) (c_c (f_Jx4a65c_get_915e3 T21 q28 y4_15) (fun (r33 : Option Nat) (T33 : st_T) => (c_n r33 (fun (p33 : Nat) => (c_g (st_K T33 p33 = 3) (c_w (b_X8_quarrels_44 a0 x1 x2 rec15 y4_15 p33) c_N (T33, y3_15, 0))))))))))))))))))) q.1 q.2.1 q.2.2
set_option maxRecDepth 100000 in
def f_X8_quarrels (S : st_T) (a0 : Nat) (x1 : Int32) (x2 : Int32) : Option (Int32 × st_T) :=
  (c_c (f_X8_isHouseAndDay S x1 x2) (fun (r2 : Int32) (T2 : st_T) => (c_i (r2 = 0) (some ((-1), T2)) (c_w (b_X8_quarrels_15 a0 x1 x2) c_N (T2, 0, 0)))))
set_option maxRecDepth 100000 in
set_option maxHeartbeats 4000000 in
theorem s_X8_quarrels (l : Launch) (X : st_I) {S SE : st_T} {a0 : Nat} {x1 : Int32} {x2 : Int32} {rr : Int32} (Hf : f_X8_quarrels S a0 x1 x2 = some (rr, SE)) : Met l yX8_quarrels (Cond.code yX8_quarrels cX8_quarrels 8 (some .int) :: lw_g) { frames := 5, cells := 0, slots := 0, locals := 113 } (st_P X S [.ref a0, .int x1, .int x2]) (st_Q X (st_A S) (some (.int rr)) SE) 0 0 (st_A S) := by
  refine st_ofW (by decide) (Nat.le_of_ble_eq_true rfl) ?_
  intro p e s m args below meth c hx hb hr hml hlocks hnm hts hown hK hRO hA hP hS ls hl
  have hown : s.vm.findClass RX8 = some m.cls := hown
  have hl : lv_has ls 8 [(0, .ref a0), (1, .int x1), (2, .int x2)] := hl
  unfold f_X8_quarrels at Hf
  refine lv_iload_n hx hb dX8_quarrels_0 rfl (lv_at hl 1 rfl) ?_
  refine lv_iload_n hx hb dX8_quarrels_1 rfl (lv_at hl 2 rfl) ?_
  obtain ⟨r2, T2, hq2, Hf⟩ := c_c_some Hf
  refine r_cS (n := 2) (As := [.int x1, .int x2]) (rest := []) ⟨hx, hb, hml, hown, hts⟩ (s_X8_isHouseAndDay l X hq2) lkm_X8_77 (by decide +kernel) dX8_quarrels_2 rfl rfl ⟨Nat.le_of_ble_eq_true rfl, Nat.le_of_ble_eq_true rfl⟩ rfl hl.1 (Nat.le_of_ble_eq_true rfl) ⟨Nat.le_of_ble_eq_true rfl, Nat.le_of_ble_eq_true rfl⟩ hK hRO hA hP hS (fun H locs hP hS => ?_)
  refine W.eq (g2 := F0 m 5 ls [.int r2]) rfl ?_
  refine lv_if_ne hx hb dX8_quarrels_5 (tgt := 10) (by decide) (fun hc => ?_) (fun hc => ?_)
  · have Hf := c_i_f Hf hc
    refine lv_iconst (v := 0) hx hb dX8_quarrels_10 (by decide) ?_
    refine lv_istore_n (lv' := [(3, .int 0), (0, .ref a0), (1, .int x1), (2, .int x2)]) hx hb dX8_quarrels_11 rfl hl (by decide) rfl (fun ls hl => ?_)
    refine lv_iconst (v := 0) hx hb dX8_quarrels_12 (by decide) ?_
    refine lv_istore (lv' := [(4, .int 0), (3, .int 0), (0, .ref a0), (1, .int x1), (2, .int x2)]) hx hb dX8_quarrels_13 hl (by decide) rfl (fun ls hl => ?_)
    refine (c_w_ind (P := fun (q : st_T × Int32 × Int32) => ∀ (H : Heap) (locs : List Loc) (ls : Array Slot), st_HP X (st_A S) q.1 H → va_S (st_A S) s.heap H locs → lv_has ls 8 [(0, .ref a0), (1, .int x1), (2, .int x2), (3, .int q.2.1), (4, .int q.2.2)] → W p l e { frames := 5, cells := 0, slots := 0, locals := 113 } s m args below meth c H locs 0 0 (MQ below (st_Q X (st_A S) (some (.int rr)) SE) args s 0 0 (st_A S)) (F0 m 15 ls [])) ?_ _ _ Hf) _ _ _ hP hS (lv_sub hl [2, 3, 4, 1, 0] rfl)
    intro rec15 hrec15 q Hf H locs ls hP hS hl
    obtain ⟨S15, y3_15, y4_15⟩ := q
    unfold b_X8_quarrels_15 at Hf
    try dsimp only at Hf
    try dsimp only at hP
    try dsimp only at hl
    try dsimp only
    refine lv_iload hx hb dX8_quarrels_15 (lv_at hl 4 rfl) ?_
    refine lv_aload_n hx hb dX8_quarrels_17 rfl (lv_at hl 0 rfl) ?_
    obtain ⟨hk_a0, Hf⟩ := c_g_some Hf
    obtain ⟨q18, hq18, Hf⟩ := c_n_some Hf
    refine fg_9_1 hx hb hts hown hK hP hk_a0 lkf_X8_19 hq18 dX8_quarrels_18 ?_
    obtain ⟨hk_q18, Hf⟩ := c_g_some Hf
    obtain ⟨r21, T21, hq21, Hf⟩ := c_c_some Hf
    refine r_cV (n := 0) (As := []) (rest := [.int y4_15]) ⟨hx, hb, hml, hown, hts⟩ (s_Jx4a65c_size_8abf5 l X hq21) lkm_X8_81 (by decide +kernel) rfl (by decide) dX8_quarrels_21 rfl rfl ⟨Nat.le_of_ble_eq_true rfl, Nat.le_of_ble_eq_true rfl⟩ hk_q18 rfl hl.1 (Nat.le_of_ble_eq_true rfl) ⟨Nat.le_of_ble_eq_true rfl, Nat.le_of_ble_eq_true rfl⟩ hK hRO hA hP hS (fun H locs hP hS => ?_)
    refine W.eq (g2 := F0 m 24 ls [.int r21, .int y4_15]) rfl ?_
    refine lv_icmp_ge hx hb dX8_quarrels_24 (tgt := 116) (by decide) (fun hc => ?_) (fun hc => ?_)
    · have Hf := c_i_t Hf hc
      refine lv_iload_n hx hb dX8_quarrels_116 rfl (lv_at hl 3 rfl) ?_
      cases Hf
      exact r_iret hx hb hr rfl hlocks dX8_quarrels_117 (Nat.le_of_ble_eq_true rfl) (Nat.le_of_ble_eq_true rfl) hP hS
    have Hf := c_i_f Hf hc
    refine lv_aload_n hx hb dX8_quarrels_27 rfl (lv_at hl 0 rfl) ?_
    obtain ⟨hk_a0, Hf⟩ := c_g_some Hf
    obtain ⟨q28, hq28, Hf⟩ := c_n_some Hf
    refine fg_9_1 hx hb hts hown hK hP hk_a0 lkf_X8_19 hq28 dX8_quarrels_28 ?_
    refine lv_iload hx hb dX8_quarrels_31 (lv_at hl 4 rfl) ?_
    obtain ⟨hk_q28, Hf⟩ := c_g_some Hf
    obtain ⟨r33, T33, hq33, Hf⟩ := c_c_some Hf
    refine r_cV (n := 1) (As := [.int y4_15]) (rest := []) ⟨hx, hb, hml, hown, hts⟩ (s_Jx4a65c_get_915e3 l X hq33) lkm_X8_85 (by decide +kernel) rfl (by decide) dX8_quarrels_33 rfl rfl ⟨Nat.le_of_ble_eq_true rfl, Nat.le_of_ble_eq_true rfl⟩ hk_q28 rfl hl.1 (Nat.le_of_ble_eq_true rfl) ⟨Nat.le_of_ble_eq_true rfl, Nat.le_of_ble_eq_true rfl⟩ hK hRO hA hP hS (fun H locs hP hS => ?_)
    obtain ⟨p33, ep33, Hf⟩ := c_n_some Hf
    subst ep33
    refine W.eq (g2 := F0 m 36 ls [.ref p33]) rfl ?_
    obtain ⟨hk_p33, Hf⟩ := c_g_some Hf
    refine va_castE hx hb hown (hts _ (lg_1 341 rfl rfl)) (st_recv hK hP hk_p33 (by decide) rfl) dX8_quarrels_36 ?_
    refine lv_astore (lv' := [(5, .ref p33), (0, .ref a0), (1, .int x1), (2, .int x2), (3, .int y3_15), (4, .int y4_15)]) hx hb dX8_quarrels_39 hl (by decide) rfl (fun ls hl => ?_)
    refine lv_iconst (v := 0) hx hb dX8_quarrels_41 (by decide) ?_
    refine lv_istore (lv' := [(6, .int 0), (5, .ref p33), (0, .ref a0), (1, .int x1), (2, .int x2), (3, .int y3_15), (4, .int y4_15)]) hx hb dX8_quarrels_42 hl (by decide) rfl (fun ls hl => ?_)
    refine (c_w_ind (P := fun (q : st_T × Int32 × Int32) => ∀ (H : Heap) (locs : List Loc) (ls : Array Slot), st_HP X (st_A S) q.1 H → va_S (st_A S) s.heap H locs → lv_has ls 8 [(0, .ref a0), (1, .int x1), (2, .int x2), (3, .int q.2.1), (4, .int y4_15), (5, .ref p33), (6, .int q.2.2)] → W p l e { frames := 5, cells := 0, slots := 0, locals := 113 } s m args below meth c H locs 0 0 (MQ below (st_Q X (st_A S) (some (.int rr)) SE) args s 0 0 (st_A S)) (F0 m 44 ls [])) ?_ _ _ Hf) _ _ _ hP hS (lv_sub hl [2, 3, 4, 5, 6, 1, 0] rfl)
    intro rec44 hrec44 q Hf H locs ls hP hS hl
    obtain ⟨S44, y3_44, y6_44⟩ := q
    unfold b_X8_quarrels_44 at Hf
    try dsimp only at Hf
    try dsimp only at hP
    try dsimp only at hl
    try dsimp only
    refine lv_iload hx hb dX8_quarrels_44 (lv_at hl 6 rfl) ?_
    refine lv_aload_n hx hb dX8_quarrels_46 rfl (lv_at hl 0 rfl) ?_
    obtain ⟨hk_a0, Hf⟩ := c_g_some Hf
    obtain ⟨q47, hq47, Hf⟩ := c_n_some Hf
    refine fg_9_1 hx hb hts hown hK hP hk_a0 lkf_X8_19 hq47 dX8_quarrels_47 ?_
    obtain ⟨hk_q47, Hf⟩ := c_g_some Hf
    obtain ⟨r50, T50, hq50, Hf⟩ := c_c_some Hf
    refine r_cV (n := 0) (As := []) (rest := [.int y6_44]) ⟨hx, hb, hml, hown, hts⟩ (s_Jx4a65c_size_8abf5 l X hq50) lkm_X8_81 (by decide +kernel) rfl (by decide) dX8_quarrels_50 rfl rfl ⟨Nat.le_of_ble_eq_true rfl, Nat.le_of_ble_eq_true rfl⟩ hk_q47 rfl hl.1 (Nat.le_of_ble_eq_true rfl) ⟨Nat.le_of_ble_eq_true rfl, Nat.le_of_ble_eq_true rfl⟩ hK hRO hA hP hS (fun H locs hP hS => ?_)
    refine W.eq (g2 := F0 m 53 ls [.int r50, .int y6_44]) rfl ?_
    have hJ110 : ∀ (S110 : st_T), j_X8_quarrels_110 rec15 y4_15 y3_44 S110 = some (rr, SE) → ∀ (H : Heap) (locs : List Loc) (ls : Array Slot), st_HP X (st_A S) S110 H → va_S (st_A S) s.heap H locs → lv_has ls 8 [(0, .ref a0), (1, .int x1), (2, .int x2), (3, .int y3_44), (4, .int y4_15)] → W p l e { frames := 5, cells := 0, slots := 0, locals := 113 } s m args below meth c H locs 0 0 (MQ below (st_Q X (st_A S) (some (.int rr)) SE) args s 0 0 (st_A S)) (F0 m 110 ls []) := by
      intro S110 Hf H locs ls hP hS hl
      unfold j_X8_quarrels_110 at Hf
      refine lv_iinc (v := (y4_15 + 1)) (lv' := [(4, .int (y4_15 + 1)), (0, .ref a0), (1, .int x1), (2, .int x2), (3, .int y3_44)]) hx hb dX8_quarrels_110 hl (k := 4) rfl rfl (by decide) rfl (fun ls hl => ?_)
      refine lv_goto hx hb dX8_quarrels_113 (tgt := 15) (by decide) ?_
      exact hrec15 (S110, y3_44, (y4_15 + 1)) Hf _ _ _ hP hS (lv_sub hl [1, 2, 3, 4, 0] rfl)
    refine lv_icmp_ge hx hb dX8_quarrels_53 (tgt := 110) (by decide) (fun hc => ?_) (fun hc => ?_)
    · have Hf := c_i_t Hf hc
      exact hJ110 T50 Hf _ _ _ hP hS (lv_sub hl [0, 1, 2, 3, 4] rfl)
    have Hf := c_i_f Hf hc
    refine lv_aload hx hb dX8_quarrels_56 (lv_at hl 5 rfl) ?_
    refine lv_iload_n hx hb dX8_quarrels_58 rfl (lv_at hl 1 rfl) ?_
    refine lv_iload_n hx hb dX8_quarrels_59 rfl (lv_at hl 2 rfl) ?_
    obtain ⟨hk_p33, Hf⟩ := c_g_some Hf
    obtain ⟨r60, T60, hq60, Hf⟩ := c_c_some Hf
    refine r_cV (n := 2) (As := [.int x1, .int x2]) (rest := []) ⟨hx, hb, hml, hown, hts⟩ (s_X1_isOf l X hq60) lkm_X8_91 (by decide +kernel) rfl (by decide) dX8_quarrels_60 rfl rfl ⟨Nat.le_of_ble_eq_true rfl, Nat.le_of_ble_eq_true rfl⟩ hk_p33 rfl hl.1 (Nat.le_of_ble_eq_true rfl) ⟨Nat.le_of_ble_eq_true rfl, Nat.le_of_ble_eq_true rfl⟩ hK hRO hA hP hS (fun H locs hP hS => ?_)
    refine W.eq (g2 := F0 m 63 ls [.int r60]) rfl ?_
    refine lv_if_eq hx hb dX8_quarrels_63 (tgt := 110) (by decide) (fun hc => ?_) (fun hc => ?_)
    · have Hf := c_i_t Hf hc
      exact hJ110 T60 Hf _ _ _ hP hS (lv_sub hl [0, 1, 2, 3, 4] rfl)
    have Hf := c_i_f Hf hc
    refine lv_aload_n hx hb dX8_quarrels_66 rfl (lv_at hl 0 rfl) ?_
    obtain ⟨hk_a0, Hf⟩ := c_g_some Hf
    obtain ⟨q67, hq67, Hf⟩ := c_n_some Hf
    refine fg_9_1 hx hb hts hown hK hP hk_a0 lkf_X8_19 hq67 dX8_quarrels_67 ?_
    refine lv_iload hx hb dX8_quarrels_70 (lv_at hl 6 rfl) ?_
    obtain ⟨hk_q67, Hf⟩ := c_g_some Hf
    obtain ⟨r72, T72, hq72, Hf⟩ := c_c_some Hf
    refine r_cV (n := 1) (As := [.int y6_44]) (rest := []) ⟨hx, hb, hml, hown, hts⟩ (s_Jx4a65c_get_915e3 l X hq72) lkm_X8_85 (by decide +kernel) rfl (by decide) dX8_quarrels_72 rfl rfl ⟨Nat.le_of_ble_eq_true rfl, Nat.le_of_ble_eq_true rfl⟩ hk_q67 rfl hl.1 (Nat.le_of_ble_eq_true rfl) ⟨Nat.le_of_ble_eq_true rfl, Nat.le_of_ble_eq_true rfl⟩ hK hRO hA hP hS (fun H locs hP hS => ?_)
    obtain ⟨p72, ep72, Hf⟩ := c_n_some Hf
    subst ep72
    refine W.eq (g2 := F0 m 75 ls [.ref p72]) rfl ?_
    obtain ⟨hk_p72, Hf⟩ := c_g_some Hf
    refine va_castE hx hb hown (hts _ (lg_1 341 rfl rfl)) (st_recv hK hP hk_p72 (by decide) rfl) dX8_quarrels_75 ?_
    refine lv_astore (lv' := [(7, .ref p72), (0, .ref a0), (1, .int x1), (2, .int x2), (3, .int y3_44), (4, .int y4_15), (5, .ref p33), (6, .int y6_44)]) hx hb dX8_quarrels_78 hl (by decide) rfl (fun ls hl => ?_)
    refine lv_iload_n hx hb dX8_quarrels_80 rfl (lv_at hl 4 rfl) ?_
    refine lv_aload hx hb dX8_quarrels_81 (lv_at hl 0 rfl) ?_
    refine lv_iload_n hx hb dX8_quarrels_83 rfl (lv_at hl 2 rfl) ?_
    refine lv_iload_n hx hb dX8_quarrels_84 rfl (lv_at hl 3 rfl) ?_
    obtain ⟨r85, T85, hq85, Hf⟩ := c_c_some Hf
    refine r_cV (n := 2) (As := [.int x1, .int x2]) (rest := [.int y3_44]) ⟨hx, hb, hml, hown, hts⟩ (s_X1_isOf l X hq85) lkm_X8_91 (by decide +kernel) rfl (by decide) dX8_quarrels_85 rfl rfl ⟨Nat.le_of_ble_eq_true rfl, Nat.le_of_ble_eq_true rfl⟩ hk_p72 rfl hl.1 (Nat.le_of_ble_eq_true rfl) ⟨Nat.le_of_ble_eq_true rfl, Nat.le_of_ble_eq_true rfl⟩ hK hRO hA hP hS (fun H locs hP hS => ?_)
    refine W.eq (g2 := F0 m 88 ls [.int r85, .int y3_44]) rfl ?_
    have hJ102 : ∀ (S102 : st_T) (u0_102 : Int32), j_X8_quarrels_102 rec44 y3_44 y6_44 S102 u0_102 = some (rr, SE) → ∀ (H : Heap) (locs : List Loc) (ls : Array Slot), st_HP X (st_A S) S102 H → va_S (st_A S) s.heap H locs → lv_has ls 8 [(0, .ref a0), (1, .int x1), (2, .int x2), (4, .int y4_15), (5, .ref p33), (6, .int y6_44)] → W p l e { frames := 5, cells := 0, slots := 0, locals := 113 } s m args below meth c H locs 0 0 (MQ below (st_Q X (st_A S) (some (.int rr)) SE) args s 0 0 (st_A S)) (F0 m 102 ls [.int u0_102, .int y3_44]) := by
      intro S102 u0_102 Hf H locs ls hP hS hl
      unfold j_X8_quarrels_102 at Hf
      refine lv_iadd hx hb dX8_quarrels_102 ?_
      refine lv_topi (fun z3_103 ez3_103 => ?_)
      have Hf := c_l_ren Hf ez3_103
      refine lv_istore_n (lv' := [(3, .int z3_103), (0, .ref a0), (1, .int x1), (2, .int x2), (4, .int y4_15), (5, .ref p33), (6, .int y6_44)]) hx hb dX8_quarrels_103 rfl hl (by decide) rfl (fun ls hl => ?_)
      refine lv_iinc (v := (y6_44 + 1)) (lv' := [(6, .int (y6_44 + 1)), (3, .int z3_103), (0, .ref a0), (1, .int x1), (2, .int x2), (4, .int y4_15), (5, .ref p33)]) hx hb dX8_quarrels_104 hl (k := 6) rfl rfl (by decide) rfl (fun ls hl => ?_)
      refine lv_goto hx hb dX8_quarrels_107 (tgt := 44) (by decide) ?_
      exact hrec44 (S102, z3_103, (y6_44 + 1)) Hf _ _ _ hP hS (lv_sub hl [2, 3, 4, 1, 5, 6, 0] rfl)
    refine lv_if_eq hx hb dX8_quarrels_88 (tgt := 101) (by decide) (fun hc => ?_) (fun hc => ?_)
    · have Hf := c_i_t Hf hc
      refine lv_iconst (v := 0) hx hb dX8_quarrels_101 (by decide) ?_
      exact hJ102 T85 0 Hf _ _ _ hP hS (lv_sub hl [1, 2, 3, 5, 6, 7] rfl)
    have Hf := c_i_f Hf hc
    refine lv_aload hx hb dX8_quarrels_91 (lv_at hl 6 rfl) ?_
    refine lv_aload hx hb dX8_quarrels_93 (lv_at hl 0 rfl) ?_
    obtain ⟨hk_p33, Hf⟩ := c_g_some Hf
    obtain ⟨r95, T95, hq95, Hf⟩ := c_c_some Hf
    refine r_cV (n := 1) (As := [.ref p72]) (rest := [.int y3_44]) ⟨hx, hb, hml, hown, hts⟩ (s_X1_tensDeniedBy l X hq95) lkm_X8_202 (by decide +kernel) rfl (by decide) dX8_quarrels_95 rfl rfl ⟨Nat.le_of_ble_eq_true rfl, Nat.le_of_ble_eq_true rfl⟩ hk_p33 rfl hl.1 (Nat.le_of_ble_eq_true rfl) ⟨Nat.le_of_ble_eq_true rfl, Nat.le_of_ble_eq_true rfl⟩ hK hRO hA hP hS (fun H locs hP hS => ?_)
    refine W.eq (g2 := F0 m 98 ls [.int r95, .int y3_44]) rfl ?_
    refine lv_goto hx hb dX8_quarrels_98 (tgt := 102) (by decide) ?_
    exact hJ102 T95 r95 Hf _ _ _ hP hS (lv_sub hl [1, 2, 3, 5, 6, 7] rfl)
  have Hf := c_i_t Hf hc
  refine lv_iconst (v := (-1)) hx hb dX8_quarrels_8 (by decide) ?_
  cases Hf
  exact r_iret hx hb hr rfl hlocks dX8_quarrels_9 (Nat.le_of_ble_eq_true rfl) (Nat.le_of_ble_eq_true rfl) hP hS

set_option maxRecDepth 100000 in
def f_X8_count (S : st_T) (a0 : Nat) (x1 : Int32) : Option (Int32 × st_T) :=
  (c_i (x1 = 0) (c_g (st_K S a0 = 10) (c_n (st_fr S 901 a0) (fun (q41 : Nat) => (c_g (st_K S q41 = 1) (c_c (f_Jx4a65c_size_8abf5 S q41) (fun (r44 : Int32) (T44 : st_T) => (some (r44, T44)))))))) (c_i (x1 = 1) (c_g (st_K S a0 = 10) (c_n (st_fr S 902 a0) (fun (q49 : Nat) => (c_g (st_K S q49 = 1) (c_c (f_Jx4a65c_size_8abf5 S q49) (fun (r52 : Int32) (T52 : st_T) => (some (r52, T52)))))))) (c_i (x1 = 2) (c_g (st_K S a0 = 10) (some ((st_fi S 908 a0), S))) (c_i (x1 = 3) (c_g (st_K S a0 = 10) (c_n (st_fr S 904 a0) (fun (q62 : Nat) => (c_g (st_K S q62 = 6) (some ((st_fi S 501 q62), S)))))) (c_i (x1 = 4) (c_g (st_K S a0 = 10) (c_c (f_X8_linesInAll S a0) (fun (r70 : Int32) (T70 : st_T) => (some (r70, T70))))) (c_i (x1 = 5) (c_g (st_K S a0 = 10) (c_c (f_X8_textInForce S a0) (fun (r75 : Option Nat) (T75 : st_T) => (c_n r75 (fun (p75 : Nat) => (c_g (st_K T75 p75 = 7) (c_n (st_fr T75 600 p75) (fun (q78 : Nat) => (c_g ((20 ≤ st_K T75 q78 ∧ st_K T75 q78 < 25) ∨ st_K T75 q78 = 30) (some ((nI (st_ln T75 q78)), T75))))))))))) (some ((-1), S))))))))
set_option maxRecDepth 100000 in
set_option maxHeartbeats 4000000 in
theorem s_X8_count (l : Launch) (X : st_I) {S SE : st_T} {a0 : Nat} {x1 : Int32} {rr : Int32} (Hf : f_X8_count S a0 x1 = some (rr, SE)) : Met l yX8_count (Cond.code yX8_count cX8_count 2 (some .int) :: lw_g) { frames := 4, cells := 0, slots := 0, locals := 86 } (st_P X S [.ref a0, .int x1]) (st_Q X (st_A S) (some (.int rr)) SE) 0 0 (st_A S) := by
  refine st_ofW (by decide) (Nat.le_of_ble_eq_true rfl) ?_
  intro p e s m args below meth c hx hb hr hml hlocks hnm hts hown hK hRO hA hP hS ls hl
  have hown : s.vm.findClass RX8 = some m.cls := hown
  have hl : lv_has ls 2 [(0, .ref a0), (1, .int x1)] := hl
  unfold f_X8_count at Hf
  refine lv_iload_n hx hb dX8_count_0 rfl (lv_at hl 1 rfl) ?_
  by_cases hs0 : x1 = 0
  · have Hf := c_i_t Hf hs0
    refine lv_tableIn hx hb dX8_count_1 (by rw [hs0]; decide) (by rw [hs0]; decide) (off := 39) (by rw [hs0]; rfl) (tgt := 40) (by decide) ?_
    refine lv_aload_n hx hb dX8_count_40 rfl (lv_at hl 0 rfl) ?_
    obtain ⟨hk_a0, Hf⟩ := c_g_some Hf
    obtain ⟨q41, hq41, Hf⟩ := c_n_some Hf
    refine fg_9_1 hx hb hts hown hK hP hk_a0 lkf_X8_19 hq41 dX8_count_41 ?_
    obtain ⟨hk_q41, Hf⟩ := c_g_some Hf
    obtain ⟨r44, T44, hq44, Hf⟩ := c_c_some Hf
    refine r_cV (n := 0) (As := []) (rest := []) ⟨hx, hb, hml, hown, hts⟩ (s_Jx4a65c_size_8abf5 l X hq44) lkm_X8_81 (by decide +kernel) rfl (by decide) dX8_count_44 rfl rfl ⟨Nat.le_of_ble_eq_true rfl, Nat.le_of_ble_eq_true rfl⟩ hk_q41 rfl hl.1 (Nat.le_of_ble_eq_true rfl) ⟨Nat.le_of_ble_eq_true rfl, Nat.le_of_ble_eq_true rfl⟩ hK hRO hA hP hS (fun H locs hP hS => ?_)
    refine W.eq (g2 := F0 m 47 ls [.int r44]) rfl ?_
    cases Hf
    exact r_iret hx hb hr rfl hlocks dX8_count_47 (Nat.le_of_ble_eq_true rfl) (Nat.le_of_ble_eq_true rfl) hP hS
  have Hf := c_i_f Hf hs0
  by_cases hs1 : x1 = 1
  · have Hf := c_i_t Hf hs1
    refine lv_tableIn hx hb dX8_count_1 (by rw [hs1]; decide) (by rw [hs1]; decide) (off := 47) (by rw [hs1]; rfl) (tgt := 48) (by decide) ?_
    refine lv_aload_n hx hb dX8_count_48 rfl (lv_at hl 0 rfl) ?_
    obtain ⟨hk_a0, Hf⟩ := c_g_some Hf
    obtain ⟨q49, hq49, Hf⟩ := c_n_some Hf
    refine fg_9_2 hx hb hts hown hK hP hk_a0 lkf_X8_23 hq49 dX8_count_49 ?_
    obtain ⟨hk_q49, Hf⟩ := c_g_some Hf
    obtain ⟨r52, T52, hq52, Hf⟩ := c_c_some Hf
    refine r_cV (n := 0) (As := []) (rest := []) ⟨hx, hb, hml, hown, hts⟩ (s_Jx4a65c_size_8abf5 l X hq52) lkm_X8_81 (by decide +kernel) rfl (by decide) dX8_count_52 rfl rfl ⟨Nat.le_of_ble_eq_true rfl, Nat.le_of_ble_eq_true rfl⟩ hk_q49 rfl hl.1 (Nat.le_of_ble_eq_true rfl) ⟨Nat.le_of_ble_eq_true rfl, Nat.le_of_ble_eq_true rfl⟩ hK hRO hA hP hS (fun H locs hP hS => ?_)
    refine W.eq (g2 := F0 m 55 ls [.int r52]) rfl ?_
    cases Hf
    exact r_iret hx hb hr rfl hlocks dX8_count_55 (Nat.le_of_ble_eq_true rfl) (Nat.le_of_ble_eq_true rfl) hP hS
  have Hf := c_i_f Hf hs1
  by_cases hs2 : x1 = 2
  · have Hf := c_i_t Hf hs2
    refine lv_tableIn hx hb dX8_count_1 (by rw [hs2]; decide) (by rw [hs2]; decide) (off := 55) (by rw [hs2]; rfl) (tgt := 56) (by decide) ?_
    refine lv_aload_n hx hb dX8_count_56 rfl (lv_at hl 0 rfl) ?_
    obtain ⟨hk_a0, Hf⟩ := c_g_some Hf
    refine fg_9_8 hx hb hts hown hK hP hk_a0 lkf_X8_62 dX8_count_57 ?_
    cases Hf
    exact r_iret hx hb hr rfl hlocks dX8_count_60 (Nat.le_of_ble_eq_true rfl) (Nat.le_of_ble_eq_true rfl) hP hS
  have Hf := c_i_f Hf hs2
  by_cases hs3 : x1 = 3
  · have Hf := c_i_t Hf hs3
    refine lv_tableIn hx hb dX8_count_1 (by rw [hs3]; decide) (by rw [hs3]; decide) (off := 60) (by rw [hs3]; rfl) (tgt := 61) (by decide) ?_
    refine lv_aload_n hx hb dX8_count_61 rfl (lv_at hl 0 rfl) ?_
    obtain ⟨hk_a0, Hf⟩ := c_g_some Hf
    obtain ⟨q62, hq62, Hf⟩ := c_n_some Hf
    refine fg_9_4 hx hb hts hown hK hP hk_a0 lkf_X8_38 hq62 dX8_count_62 ?_
    obtain ⟨hk_q62, Hf⟩ := c_g_some Hf
    refine fg_5_1 hx hb hts hown hK hP hk_q62 lkf_X8_127 dX8_count_65 ?_
    cases Hf
    exact r_iret hx hb hr rfl hlocks dX8_count_68 (Nat.le_of_ble_eq_true rfl) (Nat.le_of_ble_eq_true rfl) hP hS
  have Hf := c_i_f Hf hs3
  by_cases hs4 : x1 = 4
  · have Hf := c_i_t Hf hs4
    refine lv_tableIn hx hb dX8_count_1 (by rw [hs4]; decide) (by rw [hs4]; decide) (off := 68) (by rw [hs4]; rfl) (tgt := 69) (by decide) ?_
    refine lv_aload_n hx hb dX8_count_69 rfl (lv_at hl 0 rfl) ?_
    obtain ⟨hk_a0, Hf⟩ := c_g_some Hf
    obtain ⟨r70, T70, hq70, Hf⟩ := c_c_some Hf
    refine r_cV (n := 0) (As := []) (rest := []) ⟨hx, hb, hml, hown, hts⟩ (s_X8_linesInAll l X hq70) lkm_X8_228 (by decide +kernel) rfl (by decide) dX8_count_70 rfl rfl ⟨Nat.le_of_ble_eq_true rfl, Nat.le_of_ble_eq_true rfl⟩ hk_a0 rfl hl.1 (Nat.le_of_ble_eq_true rfl) ⟨Nat.le_of_ble_eq_true rfl, Nat.le_of_ble_eq_true rfl⟩ hK hRO hA hP hS (fun H locs hP hS => ?_)
    refine W.eq (g2 := F0 m 73 ls [.int r70]) rfl ?_
    cases Hf
    exact r_iret hx hb hr rfl hlocks dX8_count_73 (Nat.le_of_ble_eq_true rfl) (Nat.le_of_ble_eq_true rfl) hP hS
  have Hf := c_i_f Hf hs4
  by_cases hs5 : x1 = 5
  · have Hf := c_i_t Hf hs5
    refine lv_tableIn hx hb dX8_count_1 (by rw [hs5]; decide) (by rw [hs5]; decide) (off := 73) (by rw [hs5]; rfl) (tgt := 74) (by decide) ?_
    refine lv_aload_n hx hb dX8_count_74 rfl (lv_at hl 0 rfl) ?_
    obtain ⟨hk_a0, Hf⟩ := c_g_some Hf
    obtain ⟨r75, T75, hq75, Hf⟩ := c_c_some Hf
    refine r_cV (n := 0) (As := []) (rest := []) ⟨hx, hb, hml, hown, hts⟩ (s_X8_textInForce l X hq75) lkm_X8_231 (by decide +kernel) rfl (by decide) dX8_count_75 rfl rfl ⟨Nat.le_of_ble_eq_true rfl, Nat.le_of_ble_eq_true rfl⟩ hk_a0 rfl hl.1 (Nat.le_of_ble_eq_true rfl) ⟨Nat.le_of_ble_eq_true rfl, Nat.le_of_ble_eq_true rfl⟩ hK hRO hA hP hS (fun H locs hP hS => ?_)
    obtain ⟨p75, ep75, Hf⟩ := c_n_some Hf
    subst ep75
    refine W.eq (g2 := F0 m 78 ls [.ref p75]) rfl ?_
    obtain ⟨hk_p75, Hf⟩ := c_g_some Hf
    obtain ⟨q78, hq78, Hf⟩ := c_n_some Hf
    refine fg_6_0 hx hb hts hown hK hP hk_p75 lkf_X8_234 hq78 dX8_count_78 ?_
    obtain ⟨hl81, Hf⟩ := c_g_some Hf
    refine r_alen2 hx hb hK hRO hP hS hl81 dX8_count_81 ?_
    cases Hf
    exact r_iret hx hb hr rfl hlocks dX8_count_82 (Nat.le_of_ble_eq_true rfl) (Nat.le_of_ble_eq_true rfl) hP hS
  have Hf := c_i_f Hf hs5
  refine lv_tableOut hx hb dX8_count_1 (by have n0 := sw_ne 0 hs0 (n := 0) rfl; have n1 := sw_ne 1 hs1 (n := 1) rfl; have n2 := sw_ne 2 hs2 (n := 2) rfl; have n3 := sw_ne 3 hs3 (n := 3) rfl; have n4 := sw_ne 4 hs4 (n := 4) rfl; have n5 := sw_ne 5 hs5 (n := 5) rfl; omega) (tgt := 83) (by decide) ?_
  refine lv_iconst (v := (-1)) hx hb dX8_count_83 (by decide) ?_
  cases Hf
  exact r_iret hx hb hr rfl hlocks dX8_count_84 (Nat.le_of_ble_eq_true rfl) (Nat.le_of_ble_eq_true rfl) hP hS

set_option maxRecDepth 100000 in
def f_X6_add (S : st_T) (a0 : Nat) (x1 : Int32) (x2 : Int32) (x3 : Int32) : Option (Unit × st_T) :=
  (c_g (st_K S a0 = 8) (c_i (801 ≤ (st_fi S 703 a0)) (some ((), S)) (c_n (st_fr S 700 a0) (fun (q11 : Nat) => (c_g (st_K S q11 = 20) (c_g (c_in (st_fi S 703 a0) (st_ln S q11)) (c_l (st_wi S q11 ((st_fi S 703 a0) : Int32).toNatClampNeg x1) (fun (S_19 : st_T) => (c_n (st_fr S_19 701 a0) (fun (q21 : Nat) => (c_g (st_K S_19 q21 = 20) (c_g (c_in (st_fi S_19 703 a0) (st_ln S_19 q21)) (c_l (st_wi S_19 q21 ((st_fi S_19 703 a0) : Int32).toNatClampNeg x2) (fun (S_29 : st_T) => (c_n (st_fr S_29 702 a0) (fun (q31 : Nat) => (c_g (st_K S_29 q31 = 20) (c_g (c_in (st_fi S_29 703 a0) (st_ln S_29 q31)) (c_l (st_wi S_29 q31 ((st_fi S_29 703 a0) : Int32).toNatClampNeg x3) (fun (S_39 : st_T) => (c_l (st_pi S_39 703 a0 ((st_fi S_39 703 a0) + 1)) (fun (S_47 : st_T) => (some ((), S_47))))))))))))))))))))))))
set_option maxRecDepth 100000 in
set_option maxHeartbeats 4000000 in
theorem s_X6_add (l : Launch) (X : st_I) {S SE : st_T} {a0 : Nat} {x1 : Int32} {x2 : Int32} {x3 : Int32} {rr : Unit} (Hf : f_X6_add S a0 x1 x2 x3 = some (rr, SE)) : Met l yX6_add (Cond.code yX6_add cX6_add 4 (none) :: lw_g) { frames := 0, cells := 0, slots := 0, locals := 0 } (st_P X S [.ref a0, .int x1, .int x2, .int x3]) (st_Q X (st_A S) none SE) 0 0 (st_A S) := by
  refine st_ofW (by decide) (Nat.le_of_ble_eq_true rfl) ?_
  intro p e s m args below meth c hx hb hr hml hlocks hnm hts hown hK hRO hA hP hS ls hl
  have hown : s.vm.findClass RX6 = some m.cls := hown
  have hl : lv_has ls 4 [(0, .ref a0), (1, .int x1), (2, .int x2), (3, .int x3)] := hl
  unfold f_X6_add at Hf
  refine lv_aload_n hx hb dX6_add_0 rfl (lv_at hl 0 rfl) ?_
  obtain ⟨hk_a0, Hf⟩ := c_g_some Hf
  refine fg_7_3 hx hb hts hown hK hP hk_a0 lkf_X6_21 dX6_add_1 ?_
  refine lv_sipush (v := 801) hx hb dX6_add_4 (by decide) ?_
  refine lv_icmp_ge hx hb dX6_add_7 (tgt := 50) (by decide) (fun hc => ?_) (fun hc => ?_)
  · have Hf := c_i_t Hf hc
    cases Hf
    exact r_vret hx hb hr rfl hlocks dX6_add_50 (Nat.le_of_ble_eq_true rfl) (Nat.le_of_ble_eq_true rfl) hP hS
  have Hf := c_i_f Hf hc
  refine lv_aload_n hx hb dX6_add_10 rfl (lv_at hl 0 rfl) ?_
  obtain ⟨q11, hq11, Hf⟩ := c_n_some Hf
  refine fg_7_0 hx hb hts hown hK hP hk_a0 lkf_X6_9 hq11 dX6_add_11 ?_
  refine lv_aload_n hx hb dX6_add_14 rfl (lv_at hl 0 rfl) ?_
  refine fg_7_3 hx hb hts hown hK hP hk_a0 lkf_X6_21 dX6_add_15 ?_
  refine lv_iload_n hx hb dX6_add_18 rfl (lv_at hl 1 rfl) ?_
  obtain ⟨hk_q11, Hf⟩ := c_g_some Hf
  obtain ⟨hi19, Hf⟩ := c_g_some Hf
  refine r_iast hx hb hK hP hS hk_q11 hi19 dX6_add_19 (fun H locs hP hS => ?_)
  obtain ⟨S_19, eS_19, Hf⟩ := c_l_ex Hf
  have hP : st_HP X (st_A S) S_19 H := by rw [eS_19]; exact hP
  refine lv_aload_n hx hb dX6_add_20 rfl (lv_at hl 0 rfl) ?_
  have hk_a0 : st_K S_19 a0 = 8 := by rw [kp_wi eS_19]; exact hk_a0
  obtain ⟨q21, hq21, Hf⟩ := c_n_some Hf
  refine fg_7_1 hx hb hts hown hK hP hk_a0 lkf_X6_15 hq21 dX6_add_21 ?_
  refine lv_aload_n hx hb dX6_add_24 rfl (lv_at hl 0 rfl) ?_
  refine fg_7_3 hx hb hts hown hK hP hk_a0 lkf_X6_21 dX6_add_25 ?_
  refine lv_iload_n hx hb dX6_add_28 rfl (lv_at hl 2 rfl) ?_
  obtain ⟨hk_q21, Hf⟩ := c_g_some Hf
  obtain ⟨hi29, Hf⟩ := c_g_some Hf
  refine r_iast hx hb hK hP hS hk_q21 hi29 dX6_add_29 (fun H locs hP hS => ?_)
  obtain ⟨S_29, eS_29, Hf⟩ := c_l_ex Hf
  have hP : st_HP X (st_A S) S_29 H := by rw [eS_29]; exact hP
  refine lv_aload_n hx hb dX6_add_30 rfl (lv_at hl 0 rfl) ?_
  have hk_a0 : st_K S_29 a0 = 8 := by rw [kp_wi eS_29]; exact hk_a0
  obtain ⟨q31, hq31, Hf⟩ := c_n_some Hf
  refine fg_7_2 hx hb hts hown hK hP hk_a0 lkf_X6_18 hq31 dX6_add_31 ?_
  refine lv_aload_n hx hb dX6_add_34 rfl (lv_at hl 0 rfl) ?_
  refine fg_7_3 hx hb hts hown hK hP hk_a0 lkf_X6_21 dX6_add_35 ?_
  refine lv_iload_n hx hb dX6_add_38 rfl (lv_at hl 3 rfl) ?_
  obtain ⟨hk_q31, Hf⟩ := c_g_some Hf
  obtain ⟨hi39, Hf⟩ := c_g_some Hf
  refine r_iast hx hb hK hP hS hk_q31 hi39 dX6_add_39 (fun H locs hP hS => ?_)
  obtain ⟨S_39, eS_39, Hf⟩ := c_l_ex Hf
  have hP : st_HP X (st_A S) S_39 H := by rw [eS_39]; exact hP
  refine lv_aload_n hx hb dX6_add_40 rfl (lv_at hl 0 rfl) ?_
  refine lv_dup hx hb dX6_add_41 rfl ?_
  have hk_a0 : st_K S_39 a0 = 8 := by rw [kp_wi eS_39]; exact hk_a0
  refine fg_7_3 hx hb hts hown hK hP hk_a0 lkf_X6_21 dX6_add_42 ?_
  refine lv_iconst (v := 1) hx hb dX6_add_45 (by decide) ?_
  refine lv_iadd hx hb dX6_add_46 ?_
  refine fp_7_3 hx hb hts hown hK hP hS hk_a0 lkf_X6_21 dX6_add_47 (fun H locs hP hS => ?_)
  obtain ⟨S_47, eS_47, Hf⟩ := c_l_ex Hf
  have hP : st_HP X (st_A S) S_47 H := by rw [eS_47]; exact hP
  cases Hf
  exact r_vret hx hb hr rfl hlocks dX6_add_50 (Nat.le_of_ble_eq_true rfl) (Nat.le_of_ble_eq_true rfl) hP hS

def j_X6_addNumber_59 (a0 : Nat) (x2 : Int32) (y4_21 : Int32) (S59 : st_T) : Option (Unit × st_T) :=
  (c_g (st_K S59 a0 = 8) (c_c (f_X6_add S59 a0 2 y4_21 x2) (fun (r64 : Unit) (T64 : st_T) => (some ((), T64)))))
def b_X6_addNumber_21 (a0 : Nat) (x1 : Nat) (x2 : Int32) (x3 : Int32) (rec21 : st_T × Int32 × Int32 → Option (Unit × st_T)) (q : st_T × Int32 × Int32) : Option (Unit × st_T) :=
  (fun (S21 : st_T) (y4_21 : Int32) (y5_21 : Int32) =>
  (c_i (x3 ≤ y5_21) (j_X6_addNumber_59 a0 x2 y4_21 S21) (c_i (800 ≤ y5_21) (j_X6_addNumber_59 a0 x2 y4_21 S21) (c_g (st_K S21 x1 = 6) (c_n (st_fr S21 500 x1) (fun (q41 : Nat) => (c_g (st_K S21 q41 = 22) (c_g (c_in y5_21 (st_ln S21 q41)) (c_l ((10 * y4_21) + ((st_ri S21 q41 (y5_21 : Int32).toNatClampNeg) - 48)) (fun (z4_51 : Int32) => (rec21 (S21, z4_51, (y5_21 + 1))))))))))))) q.1 q.2.1 q.2.2
set_option maxRecDepth 100000 in
def f_X6_addNumber (S : st_T) (a0 : Nat) (x1 : Nat) (x2 : Int32) (x3 : Int32) : Option (Unit × st_T) :=
  (c_i ((x3 - x2) ≤ 4) (c_w (b_X6_addNumber_21 a0 x1 x2 x3) c_N (S, 0, x2)) (c_g (st_K S a0 = 8) (c_c (f_X6_add S a0 0 0 x2) (fun (r11 : Unit) (T11 : st_T) => (some ((), T11))))))
set_option maxRecDepth 100000 in
set_option maxHeartbeats 4000000 in
theorem s_X6_addNumber (l : Launch) (X : st_I) {S SE : st_T} {a0 : Nat} {x1 : Nat} {x2 : Int32} {x3 : Int32} {rr : Unit} (Hf : f_X6_addNumber S a0 x1 x2 x3 = some (rr, SE)) : Met l yX6_addNumber (Cond.code yX6_addNumber cX6_addNumber 6 (none) :: lw_g) { frames := 1, cells := 0, slots := 0, locals := 23 } (st_P X S [.ref a0, .ref x1, .int x2, .int x3]) (st_Q X (st_A S) none SE) 0 0 (st_A S) := by
  refine st_ofW (by decide) (Nat.le_of_ble_eq_true rfl) ?_
  intro p e s m args below meth c hx hb hr hml hlocks hnm hts hown hK hRO hA hP hS ls hl
  have hown : s.vm.findClass RX6 = some m.cls := hown
  have hl : lv_has ls 6 [(0, .ref a0), (1, .ref x1), (2, .int x2), (3, .int x3)] := hl
  unfold f_X6_addNumber at Hf
  refine lv_iload_n hx hb dX6_addNumber_0 rfl (lv_at hl 3 rfl) ?_
  refine lv_iload_n hx hb dX6_addNumber_1 rfl (lv_at hl 2 rfl) ?_
  refine lv_isub hx hb dX6_addNumber_2 ?_
  refine lv_iconst (v := 4) hx hb dX6_addNumber_3 (by decide) ?_
  refine lv_icmp_le hx hb dX6_addNumber_4 (tgt := 15) (by decide) (fun hc => ?_) (fun hc => ?_)
  · have Hf := c_i_t Hf hc
    refine lv_iconst (v := 0) hx hb dX6_addNumber_15 (by decide) ?_
    refine lv_istore (lv' := [(4, .int 0), (0, .ref a0), (1, .ref x1), (2, .int x2), (3, .int x3)]) hx hb dX6_addNumber_16 hl (by decide) rfl (fun ls hl => ?_)
    refine lv_iload_n hx hb dX6_addNumber_18 rfl (lv_at hl 3 rfl) ?_
    refine lv_istore (lv' := [(5, .int x2), (4, .int 0), (0, .ref a0), (1, .ref x1), (2, .int x2), (3, .int x3)]) hx hb dX6_addNumber_19 hl (by decide) rfl (fun ls hl => ?_)
    refine (c_w_ind (P := fun (q : st_T × Int32 × Int32) => ∀ (H : Heap) (locs : List Loc) (ls : Array Slot), st_HP X (st_A S) q.1 H → va_S (st_A S) s.heap H locs → lv_has ls 6 [(0, .ref a0), (1, .ref x1), (2, .int x2), (3, .int x3), (4, .int q.2.1), (5, .int q.2.2)] → W p l e { frames := 1, cells := 0, slots := 0, locals := 23 } s m args below meth c H locs 0 0 (MQ below (st_Q X (st_A S) none SE) args s 0 0 (st_A S)) (F0 m 21 ls [])) ?_ _ _ Hf) _ _ _ hP hS (lv_sub hl [2, 3, 4, 5, 1, 0] rfl)
    intro rec21 hrec21 q Hf H locs ls hP hS hl
    obtain ⟨S21, y4_21, y5_21⟩ := q
    unfold b_X6_addNumber_21 at Hf
    try dsimp only at Hf
    try dsimp only at hP
    try dsimp only at hl
    try dsimp only
    refine lv_iload hx hb dX6_addNumber_21 (lv_at hl 5 rfl) ?_
    refine lv_iload_n hx hb dX6_addNumber_23 rfl (lv_at hl 3 rfl) ?_
    have hJ59 : ∀ (S59 : st_T), j_X6_addNumber_59 a0 x2 y4_21 S59 = some (rr, SE) → ∀ (H : Heap) (locs : List Loc) (ls : Array Slot), st_HP X (st_A S) S59 H → va_S (st_A S) s.heap H locs → lv_has ls 6 [(0, .ref a0), (2, .int x2), (4, .int y4_21)] → W p l e { frames := 1, cells := 0, slots := 0, locals := 23 } s m args below meth c H locs 0 0 (MQ below (st_Q X (st_A S) none SE) args s 0 0 (st_A S)) (F0 m 59 ls []) := by
      intro S59 Hf H locs ls hP hS hl
      unfold j_X6_addNumber_59 at Hf
      refine lv_aload_n hx hb dX6_addNumber_59 rfl (lv_at hl 0 rfl) ?_
      refine lv_iconst (v := 2) hx hb dX6_addNumber_60 (by decide) ?_
      refine lv_iload hx hb dX6_addNumber_61 (lv_at hl 2 rfl) ?_
      refine lv_iload_n hx hb dX6_addNumber_63 rfl (lv_at hl 1 rfl) ?_
      obtain ⟨hk_a0, Hf⟩ := c_g_some Hf
      obtain ⟨r64, T64, hq64, Hf⟩ := c_c_some Hf
      refine r_cV (n := 3) (As := [.int 2, .int y4_21, .int x2]) (rest := []) ⟨hx, hb, hml, hown, hts⟩ (s_X6_add l X hq64) lkm_X6_44 (by decide +kernel) rfl (by decide) dX6_addNumber_64 rfl rfl ⟨Nat.le_of_ble_eq_true rfl, Nat.le_of_ble_eq_true rfl⟩ hk_a0 rfl hl.1 (Nat.le_of_ble_eq_true rfl) ⟨Nat.le_of_ble_eq_true rfl, Nat.le_of_ble_eq_true rfl⟩ hK hRO hA hP hS (fun H locs hP hS => ?_)
      refine W.eq (g2 := F0 m 67 ls []) rfl ?_
      cases Hf
      exact r_vret hx hb hr rfl hlocks dX6_addNumber_67 (Nat.le_of_ble_eq_true rfl) (Nat.le_of_ble_eq_true rfl) hP hS
    refine lv_icmp_ge hx hb dX6_addNumber_24 (tgt := 59) (by decide) (fun hc => ?_) (fun hc => ?_)
    · have Hf := c_i_t Hf hc
      exact hJ59 S21 Hf _ _ _ hP hS (lv_sub hl [0, 2, 4] rfl)
    have Hf := c_i_f Hf hc
    refine lv_iload hx hb dX6_addNumber_27 (lv_at hl 5 rfl) ?_
    refine lv_sipush (v := 800) hx hb dX6_addNumber_29 (by decide) ?_
    refine lv_icmp_ge hx hb dX6_addNumber_32 (tgt := 59) (by decide) (fun hc => ?_) (fun hc => ?_)
    · have Hf := c_i_t Hf hc
      exact hJ59 S21 Hf _ _ _ hP hS (lv_sub hl [0, 2, 4] rfl)
    have Hf := c_i_f Hf hc
    refine lv_bipush (v := 10) hx hb dX6_addNumber_35 (by decide) ?_
    refine lv_iload hx hb dX6_addNumber_37 (lv_at hl 4 rfl) ?_
    refine lv_imul hx hb dX6_addNumber_39 ?_
    refine lv_aload_n hx hb dX6_addNumber_40 rfl (lv_at hl 1 rfl) ?_
    obtain ⟨hk_x1, Hf⟩ := c_g_some Hf
    obtain ⟨q41, hq41, Hf⟩ := c_n_some Hf
    refine fg_5_0 hx hb hts hown hK hP hk_x1 lkf_X6_28 hq41 dX6_addNumber_41 ?_
    refine lv_iload hx hb dX6_addNumber_44 (lv_at hl 5 rfl) ?_
    obtain ⟨hk_q41, Hf⟩ := c_g_some Hf
    obtain ⟨hi46, Hf⟩ := c_g_some Hf
    refine r_cald hx hb hK hP hk_q41 hi46 dX6_addNumber_46 ?_
    refine lv_bipush (v := 48) hx hb dX6_addNumber_47 (by decide) ?_
    refine lv_isub hx hb dX6_addNumber_49 ?_
    refine lv_iadd hx hb dX6_addNumber_50 ?_
    refine lv_topi (fun z4_51 ez4_51 => ?_)
    have Hf := c_l_ren Hf ez4_51
    refine lv_istore (lv' := [(4, .int z4_51), (0, .ref a0), (1, .ref x1), (2, .int x2), (3, .int x3), (5, .int y5_21)]) hx hb dX6_addNumber_51 hl (by decide) rfl (fun ls hl => ?_)
    refine lv_iinc (v := (y5_21 + 1)) (lv' := [(5, .int (y5_21 + 1)), (4, .int z4_51), (0, .ref a0), (1, .ref x1), (2, .int x2), (3, .int x3)]) hx hb dX6_addNumber_53 hl (k := 5) rfl rfl (by decide) rfl (fun ls hl => ?_)
    refine lv_goto hx hb dX6_addNumber_56 (tgt := 21) (by decide) ?_
    exact hrec21 (S21, z4_51, (y5_21 + 1)) Hf _ _ _ hP hS (lv_sub hl [2, 3, 4, 5, 1, 0] rfl)
  have Hf := c_i_f Hf hc
  refine lv_aload_n hx hb dX6_addNumber_7 rfl (lv_at hl 0 rfl) ?_
  refine lv_iconst (v := 0) hx hb dX6_addNumber_8 (by decide) ?_
  refine lv_iconst (v := 0) hx hb dX6_addNumber_9 (by decide) ?_
  refine lv_iload_n hx hb dX6_addNumber_10 rfl (lv_at hl 2 rfl) ?_
  obtain ⟨hk_a0, Hf⟩ := c_g_some Hf
  obtain ⟨r11, T11, hq11, Hf⟩ := c_c_some Hf
  refine r_cV (n := 3) (As := [.int 0, .int 0, .int x2]) (rest := []) ⟨hx, hb, hml, hown, hts⟩ (s_X6_add l X hq11) lkm_X6_44 (by decide +kernel) rfl (by decide) dX6_addNumber_11 rfl rfl ⟨Nat.le_of_ble_eq_true rfl, Nat.le_of_ble_eq_true rfl⟩ hk_a0 rfl hl.1 (Nat.le_of_ble_eq_true rfl) ⟨Nat.le_of_ble_eq_true rfl, Nat.le_of_ble_eq_true rfl⟩ hK hRO hA hP hS (fun H locs hP hS => ?_)
  refine W.eq (g2 := F0 m 14 ls []) rfl ?_
  cases Hf
  exact r_vret hx hb hr rfl hlocks dX6_addNumber_14 (Nat.le_of_ble_eq_true rfl) (Nat.le_of_ble_eq_true rfl) hP hS

set_option maxRecDepth 100000 in
def f_X6_kindOfSign (S : st_T) (x0 : Int32) : Option (Int32 × st_T) :=
  (c_i (x0 = 40) (some (3, S)) (c_i (x0 = 41) (some (4, S)) (c_i (x0 = 42) (some (0, S)) (c_i (x0 = 43) (some (8, S)) (c_i (x0 = 44) (some (0, S)) (c_i (x0 = 45) (some (9, S)) (c_i (x0 = 46) (some (0, S)) (c_i (x0 = 47) (some (0, S)) (c_i (x0 = 48) (some (0, S)) (c_i (x0 = 49) (some (0, S)) (c_i (x0 = 50) (some (0, S)) (c_i (x0 = 51) (some (0, S)) (c_i (x0 = 52) (some (0, S)) (c_i (x0 = 53) (some (0, S)) (c_i (x0 = 54) (some (0, S)) (c_i (x0 = 55) (some (0, S)) (c_i (x0 = 56) (some (0, S)) (c_i (x0 = 57) (some (0, S)) (c_i (x0 = 58) (some (0, S)) (c_i (x0 = 59) (some (5, S)) (c_i (x0 = 60) (some (6, S)) (c_i (x0 = 61) (some (7, S)) (some (0, S))))))))))))))))))))))))
set_option maxRecDepth 100000 in
set_option maxHeartbeats 4000000 in
theorem s_X6_kindOfSign (l : Launch) (X : st_I) {S SE : st_T} {x0 : Int32} {rr : Int32} (Hf : f_X6_kindOfSign S x0 = some (rr, SE)) : Met l yX6_kindOfSign (Cond.code yX6_kindOfSign cX6_kindOfSign 1 (some .int) :: lw_g) { frames := 0, cells := 0, slots := 0, locals := 0 } (st_P X S [.int x0]) (st_Q X (st_A S) (some (.int rr)) SE) 0 0 (st_A S) := by
  refine st_ofW (by decide) (Nat.le_of_ble_eq_true rfl) ?_
  intro p e s m args below meth c hx hb hr hml hlocks hnm hts hown hK hRO hA hP hS ls hl
  have hown : s.vm.findClass RX6 = some m.cls := hown
  have hl : lv_has ls 1 [(0, .int x0)] := hl
  unfold f_X6_kindOfSign at Hf
  refine lv_iload_n hx hb dX6_kindOfSign_0 rfl (lv_at hl 0 rfl) ?_
  by_cases hs40 : x0 = 40
  · have Hf := c_i_t Hf hs40
    refine lv_tableIn hx hb dX6_kindOfSign_1 (by rw [hs40]; decide) (by rw [hs40]; decide) (off := 103) (by rw [hs40]; rfl) (tgt := 104) (by decide) ?_
    refine lv_iconst (v := 3) hx hb dX6_kindOfSign_104 (by decide) ?_
    cases Hf
    exact r_iret hx hb hr rfl hlocks dX6_kindOfSign_105 (Nat.le_of_ble_eq_true rfl) (Nat.le_of_ble_eq_true rfl) hP hS
  have Hf := c_i_f Hf hs40
  by_cases hs41 : x0 = 41
  · have Hf := c_i_t Hf hs41
    refine lv_tableIn hx hb dX6_kindOfSign_1 (by rw [hs41]; decide) (by rw [hs41]; decide) (off := 105) (by rw [hs41]; rfl) (tgt := 106) (by decide) ?_
    refine lv_iconst (v := 4) hx hb dX6_kindOfSign_106 (by decide) ?_
    cases Hf
    exact r_iret hx hb hr rfl hlocks dX6_kindOfSign_107 (Nat.le_of_ble_eq_true rfl) (Nat.le_of_ble_eq_true rfl) hP hS
  have Hf := c_i_f Hf hs41
  by_cases hs42 : x0 = 42
  · have Hf := c_i_t Hf hs42
    refine lv_tableIn hx hb dX6_kindOfSign_1 (by rw [hs42]; decide) (by rw [hs42]; decide) (off := 121) (by rw [hs42]; rfl) (tgt := 122) (by decide) ?_
    refine lv_iconst (v := 0) hx hb dX6_kindOfSign_122 (by decide) ?_
    cases Hf
    exact r_iret hx hb hr rfl hlocks dX6_kindOfSign_123 (Nat.le_of_ble_eq_true rfl) (Nat.le_of_ble_eq_true rfl) hP hS
  have Hf := c_i_f Hf hs42
  by_cases hs43 : x0 = 43
  · have Hf := c_i_t Hf hs43
    refine lv_tableIn hx hb dX6_kindOfSign_1 (by rw [hs43]; decide) (by rw [hs43]; decide) (off := 115) (by rw [hs43]; rfl) (tgt := 116) (by decide) ?_
    refine lv_bipush (v := 8) hx hb dX6_kindOfSign_116 (by decide) ?_
    cases Hf
    exact r_iret hx hb hr rfl hlocks dX6_kindOfSign_118 (Nat.le_of_ble_eq_true rfl) (Nat.le_of_ble_eq_true rfl) hP hS
  have Hf := c_i_f Hf hs43
  by_cases hs44 : x0 = 44
  · have Hf := c_i_t Hf hs44
    refine lv_tableIn hx hb dX6_kindOfSign_1 (by rw [hs44]; decide) (by rw [hs44]; decide) (off := 121) (by rw [hs44]; rfl) (tgt := 122) (by decide) ?_
    refine lv_iconst (v := 0) hx hb dX6_kindOfSign_122 (by decide) ?_
    cases Hf
    exact r_iret hx hb hr rfl hlocks dX6_kindOfSign_123 (Nat.le_of_ble_eq_true rfl) (Nat.le_of_ble_eq_true rfl) hP hS
  have Hf := c_i_f Hf hs44
  by_cases hs45 : x0 = 45
  · have Hf := c_i_t Hf hs45
    refine lv_tableIn hx hb dX6_kindOfSign_1 (by rw [hs45]; decide) (by rw [hs45]; decide) (off := 118) (by rw [hs45]; rfl) (tgt := 119) (by decide) ?_
    refine lv_bipush (v := 9) hx hb dX6_kindOfSign_119 (by decide) ?_
    cases Hf
    exact r_iret hx hb hr rfl hlocks dX6_kindOfSign_121 (Nat.le_of_ble_eq_true rfl) (Nat.le_of_ble_eq_true rfl) hP hS
  have Hf := c_i_f Hf hs45
  by_cases hs46 : x0 = 46
  · have Hf := c_i_t Hf hs46
    refine lv_tableIn hx hb dX6_kindOfSign_1 (by rw [hs46]; decide) (by rw [hs46]; decide) (off := 121) (by rw [hs46]; rfl) (tgt := 122) (by decide) ?_
    refine lv_iconst (v := 0) hx hb dX6_kindOfSign_122 (by decide) ?_
    cases Hf
    exact r_iret hx hb hr rfl hlocks dX6_kindOfSign_123 (Nat.le_of_ble_eq_true rfl) (Nat.le_of_ble_eq_true rfl) hP hS
  have Hf := c_i_f Hf hs46
  by_cases hs47 : x0 = 47
  · have Hf := c_i_t Hf hs47
    refine lv_tableIn hx hb dX6_kindOfSign_1 (by rw [hs47]; decide) (by rw [hs47]; decide) (off := 121) (by rw [hs47]; rfl) (tgt := 122) (by decide) ?_
    refine lv_iconst (v := 0) hx hb dX6_kindOfSign_122 (by decide) ?_
    cases Hf
    exact r_iret hx hb hr rfl hlocks dX6_kindOfSign_123 (Nat.le_of_ble_eq_true rfl) (Nat.le_of_ble_eq_true rfl) hP hS
  have Hf := c_i_f Hf hs47
  by_cases hs48 : x0 = 48
  · have Hf := c_i_t Hf hs48
    refine lv_tableIn hx hb dX6_kindOfSign_1 (by rw [hs48]; decide) (by rw [hs48]; decide) (off := 121) (by rw [hs48]; rfl) (tgt := 122) (by decide) ?_
    refine lv_iconst (v := 0) hx hb dX6_kindOfSign_122 (by decide) ?_
    cases Hf
    exact r_iret hx hb hr rfl hlocks dX6_kindOfSign_123 (Nat.le_of_ble_eq_true rfl) (Nat.le_of_ble_eq_true rfl) hP hS
  have Hf := c_i_f Hf hs48
  by_cases hs49 : x0 = 49
  · have Hf := c_i_t Hf hs49
    refine lv_tableIn hx hb dX6_kindOfSign_1 (by rw [hs49]; decide) (by rw [hs49]; decide) (off := 121) (by rw [hs49]; rfl) (tgt := 122) (by decide) ?_
    refine lv_iconst (v := 0) hx hb dX6_kindOfSign_122 (by decide) ?_
    cases Hf
    exact r_iret hx hb hr rfl hlocks dX6_kindOfSign_123 (Nat.le_of_ble_eq_true rfl) (Nat.le_of_ble_eq_true rfl) hP hS
  have Hf := c_i_f Hf hs49
  by_cases hs50 : x0 = 50
  · have Hf := c_i_t Hf hs50
    refine lv_tableIn hx hb dX6_kindOfSign_1 (by rw [hs50]; decide) (by rw [hs50]; decide) (off := 121) (by rw [hs50]; rfl) (tgt := 122) (by decide) ?_
    refine lv_iconst (v := 0) hx hb dX6_kindOfSign_122 (by decide) ?_
    cases Hf
    exact r_iret hx hb hr rfl hlocks dX6_kindOfSign_123 (Nat.le_of_ble_eq_true rfl) (Nat.le_of_ble_eq_true rfl) hP hS
  have Hf := c_i_f Hf hs50
  by_cases hs51 : x0 = 51
  · have Hf := c_i_t Hf hs51
    refine lv_tableIn hx hb dX6_kindOfSign_1 (by rw [hs51]; decide) (by rw [hs51]; decide) (off := 121) (by rw [hs51]; rfl) (tgt := 122) (by decide) ?_
    refine lv_iconst (v := 0) hx hb dX6_kindOfSign_122 (by decide) ?_
    cases Hf
    exact r_iret hx hb hr rfl hlocks dX6_kindOfSign_123 (Nat.le_of_ble_eq_true rfl) (Nat.le_of_ble_eq_true rfl) hP hS
  have Hf := c_i_f Hf hs51
  by_cases hs52 : x0 = 52
  · have Hf := c_i_t Hf hs52
    refine lv_tableIn hx hb dX6_kindOfSign_1 (by rw [hs52]; decide) (by rw [hs52]; decide) (off := 121) (by rw [hs52]; rfl) (tgt := 122) (by decide) ?_
    refine lv_iconst (v := 0) hx hb dX6_kindOfSign_122 (by decide) ?_
    cases Hf
    exact r_iret hx hb hr rfl hlocks dX6_kindOfSign_123 (Nat.le_of_ble_eq_true rfl) (Nat.le_of_ble_eq_true rfl) hP hS
  have Hf := c_i_f Hf hs52
  by_cases hs53 : x0 = 53
  · have Hf := c_i_t Hf hs53
    refine lv_tableIn hx hb dX6_kindOfSign_1 (by rw [hs53]; decide) (by rw [hs53]; decide) (off := 121) (by rw [hs53]; rfl) (tgt := 122) (by decide) ?_
    refine lv_iconst (v := 0) hx hb dX6_kindOfSign_122 (by decide) ?_
    cases Hf
    exact r_iret hx hb hr rfl hlocks dX6_kindOfSign_123 (Nat.le_of_ble_eq_true rfl) (Nat.le_of_ble_eq_true rfl) hP hS
  have Hf := c_i_f Hf hs53
  by_cases hs54 : x0 = 54
  · have Hf := c_i_t Hf hs54
    refine lv_tableIn hx hb dX6_kindOfSign_1 (by rw [hs54]; decide) (by rw [hs54]; decide) (off := 121) (by rw [hs54]; rfl) (tgt := 122) (by decide) ?_
    refine lv_iconst (v := 0) hx hb dX6_kindOfSign_122 (by decide) ?_
    cases Hf
    exact r_iret hx hb hr rfl hlocks dX6_kindOfSign_123 (Nat.le_of_ble_eq_true rfl) (Nat.le_of_ble_eq_true rfl) hP hS
  have Hf := c_i_f Hf hs54
  by_cases hs55 : x0 = 55
  · have Hf := c_i_t Hf hs55
    refine lv_tableIn hx hb dX6_kindOfSign_1 (by rw [hs55]; decide) (by rw [hs55]; decide) (off := 121) (by rw [hs55]; rfl) (tgt := 122) (by decide) ?_
    refine lv_iconst (v := 0) hx hb dX6_kindOfSign_122 (by decide) ?_
    cases Hf
    exact r_iret hx hb hr rfl hlocks dX6_kindOfSign_123 (Nat.le_of_ble_eq_true rfl) (Nat.le_of_ble_eq_true rfl) hP hS
  have Hf := c_i_f Hf hs55
  by_cases hs56 : x0 = 56
  · have Hf := c_i_t Hf hs56
    refine lv_tableIn hx hb dX6_kindOfSign_1 (by rw [hs56]; decide) (by rw [hs56]; decide) (off := 121) (by rw [hs56]; rfl) (tgt := 122) (by decide) ?_
    refine lv_iconst (v := 0) hx hb dX6_kindOfSign_122 (by decide) ?_
    cases Hf
    exact r_iret hx hb hr rfl hlocks dX6_kindOfSign_123 (Nat.le_of_ble_eq_true rfl) (Nat.le_of_ble_eq_true rfl) hP hS
  have Hf := c_i_f Hf hs56
  by_cases hs57 : x0 = 57
  · have Hf := c_i_t Hf hs57
    refine lv_tableIn hx hb dX6_kindOfSign_1 (by rw [hs57]; decide) (by rw [hs57]; decide) (off := 121) (by rw [hs57]; rfl) (tgt := 122) (by decide) ?_
    refine lv_iconst (v := 0) hx hb dX6_kindOfSign_122 (by decide) ?_
    cases Hf
    exact r_iret hx hb hr rfl hlocks dX6_kindOfSign_123 (Nat.le_of_ble_eq_true rfl) (Nat.le_of_ble_eq_true rfl) hP hS
  have Hf := c_i_f Hf hs57
  by_cases hs58 : x0 = 58
  · have Hf := c_i_t Hf hs58
    refine lv_tableIn hx hb dX6_kindOfSign_1 (by rw [hs58]; decide) (by rw [hs58]; decide) (off := 121) (by rw [hs58]; rfl) (tgt := 122) (by decide) ?_
    refine lv_iconst (v := 0) hx hb dX6_kindOfSign_122 (by decide) ?_
    cases Hf
    exact r_iret hx hb hr rfl hlocks dX6_kindOfSign_123 (Nat.le_of_ble_eq_true rfl) (Nat.le_of_ble_eq_true rfl) hP hS
  have Hf := c_i_f Hf hs58
  by_cases hs59 : x0 = 59
  · have Hf := c_i_t Hf hs59
    refine lv_tableIn hx hb dX6_kindOfSign_1 (by rw [hs59]; decide) (by rw [hs59]; decide) (off := 107) (by rw [hs59]; rfl) (tgt := 108) (by decide) ?_
    refine lv_iconst (v := 5) hx hb dX6_kindOfSign_108 (by decide) ?_
    cases Hf
    exact r_iret hx hb hr rfl hlocks dX6_kindOfSign_109 (Nat.le_of_ble_eq_true rfl) (Nat.le_of_ble_eq_true rfl) hP hS
  have Hf := c_i_f Hf hs59
  by_cases hs60 : x0 = 60
  · have Hf := c_i_t Hf hs60
    refine lv_tableIn hx hb dX6_kindOfSign_1 (by rw [hs60]; decide) (by rw [hs60]; decide) (off := 109) (by rw [hs60]; rfl) (tgt := 110) (by decide) ?_
    refine lv_bipush (v := 6) hx hb dX6_kindOfSign_110 (by decide) ?_
    cases Hf
    exact r_iret hx hb hr rfl hlocks dX6_kindOfSign_112 (Nat.le_of_ble_eq_true rfl) (Nat.le_of_ble_eq_true rfl) hP hS
  have Hf := c_i_f Hf hs60
  by_cases hs61 : x0 = 61
  · have Hf := c_i_t Hf hs61
    refine lv_tableIn hx hb dX6_kindOfSign_1 (by rw [hs61]; decide) (by rw [hs61]; decide) (off := 112) (by rw [hs61]; rfl) (tgt := 113) (by decide) ?_
    refine lv_bipush (v := 7) hx hb dX6_kindOfSign_113 (by decide) ?_
    cases Hf
    exact r_iret hx hb hr rfl hlocks dX6_kindOfSign_115 (Nat.le_of_ble_eq_true rfl) (Nat.le_of_ble_eq_true rfl) hP hS
  have Hf := c_i_f Hf hs61
  refine lv_tableOut hx hb dX6_kindOfSign_1 (by have n40 := sw_ne 40 hs40 (n := 40) rfl; have n41 := sw_ne 41 hs41 (n := 41) rfl; have n42 := sw_ne 42 hs42 (n := 42) rfl; have n43 := sw_ne 43 hs43 (n := 43) rfl; have n44 := sw_ne 44 hs44 (n := 44) rfl; have n45 := sw_ne 45 hs45 (n := 45) rfl; have n46 := sw_ne 46 hs46 (n := 46) rfl; have n47 := sw_ne 47 hs47 (n := 47) rfl; have n48 := sw_ne 48 hs48 (n := 48) rfl; have n49 := sw_ne 49 hs49 (n := 49) rfl; have n50 := sw_ne 50 hs50 (n := 50) rfl; have n51 := sw_ne 51 hs51 (n := 51) rfl; have n52 := sw_ne 52 hs52 (n := 52) rfl; have n53 := sw_ne 53 hs53 (n := 53) rfl; have n54 := sw_ne 54 hs54 (n := 54) rfl; have n55 := sw_ne 55 hs55 (n := 55) rfl; have n56 := sw_ne 56 hs56 (n := 56) rfl; have n57 := sw_ne 57 hs57 (n := 57) rfl; have n58 := sw_ne 58 hs58 (n := 58) rfl; have n59 := sw_ne 59 hs59 (n := 59) rfl; have n60 := sw_ne 60 hs60 (n := 60) rfl; have n61 := sw_ne 61 hs61 (n := 61) rfl; omega) (tgt := 122) (by decide) ?_
  refine lv_iconst (v := 0) hx hb dX6_kindOfSign_122 (by decide) ?_
  cases Hf
  exact r_iret hx hb hr rfl hlocks dX6_kindOfSign_123 (Nat.le_of_ble_eq_true rfl) (Nat.le_of_ble_eq_true rfl) hP hS

set_option maxRecDepth 100000 in
def f_X3_moveTo (S : st_T) (a0 : Nat) (x1 : Int32) : Option (Unit × st_T) :=
  (c_i (x1 < 0) (some ((), S)) (c_g (st_K S a0 = 5) (c_n (st_fr S 400 a0) (fun (q6 : Nat) => (c_g (st_K S q6 = 8) (c_i ((st_fi S 703 q6) ≤ x1) (some ((), S)) (c_l (st_pi S 409 a0 x1) (fun (S_17 : st_T) => (c_n (st_fr S_17 700 q6) (fun (q25 : Nat) => (c_g (st_K S_17 q25 = 20) (c_g (c_in x1 (st_ln S_17 q25)) (c_l (st_pi S_17 410 a0 (st_ri S_17 q25 (x1 : Int32).toNatClampNeg)) (fun (S_30 : st_T) => (some ((), S_30))))))))))))))))
set_option maxRecDepth 100000 in
set_option maxHeartbeats 4000000 in
theorem s_X3_moveTo (l : Launch) (X : st_I) {S SE : st_T} {a0 : Nat} {x1 : Int32} {rr : Unit} (Hf : f_X3_moveTo S a0 x1 = some (rr, SE)) : Met l yX3_moveTo (Cond.code yX3_moveTo cX3_moveTo 2 (none) :: lw_g) { frames := 0, cells := 0, slots := 0, locals := 0 } (st_P X S [.ref a0, .int x1]) (st_Q X (st_A S) none SE) 0 0 (st_A S) := by
  refine st_ofW (by decide) (Nat.le_of_ble_eq_true rfl) ?_
  intro p e s m args below meth c hx hb hr hml hlocks hnm hts hown hK hRO hA hP hS ls hl
  have hown : s.vm.findClass RX3 = some m.cls := hown
  have hl : lv_has ls 2 [(0, .ref a0), (1, .int x1)] := hl
  unfold f_X3_moveTo at Hf
  refine lv_iload_n hx hb dX3_moveTo_0 rfl (lv_at hl 1 rfl) ?_
  refine lv_if_lt hx hb dX3_moveTo_1 (tgt := 33) (by decide) (fun hc => ?_) (fun hc => ?_)
  · have Hf := c_i_t Hf hc
    cases Hf
    exact r_vret hx hb hr rfl hlocks dX3_moveTo_33 (Nat.le_of_ble_eq_true rfl) (Nat.le_of_ble_eq_true rfl) hP hS
  have Hf := c_i_f Hf hc
  refine lv_iload_n hx hb dX3_moveTo_4 rfl (lv_at hl 1 rfl) ?_
  refine lv_aload_n hx hb dX3_moveTo_5 rfl (lv_at hl 0 rfl) ?_
  obtain ⟨hk_a0, Hf⟩ := c_g_some Hf
  obtain ⟨q6, hq6, Hf⟩ := c_n_some Hf
  refine fg_4_0 hx hb hts hown hK hP hk_a0 lkf_X3_12 hq6 dX3_moveTo_6 ?_
  obtain ⟨hk_q6, Hf⟩ := c_g_some Hf
  refine fg_7_3 hx hb hts hown hK hP hk_q6 lkf_X3_105 dX3_moveTo_9 ?_
  refine lv_icmp_ge hx hb dX3_moveTo_12 (tgt := 33) (by decide) (fun hc => ?_) (fun hc => ?_)
  · have Hf := c_i_t Hf hc
    cases Hf
    exact r_vret hx hb hr rfl hlocks dX3_moveTo_33 (Nat.le_of_ble_eq_true rfl) (Nat.le_of_ble_eq_true rfl) hP hS
  have Hf := c_i_f Hf hc
  refine lv_aload_n hx hb dX3_moveTo_15 rfl (lv_at hl 0 rfl) ?_
  refine lv_iload_n hx hb dX3_moveTo_16 rfl (lv_at hl 1 rfl) ?_
  refine fp_4_9 hx hb hts hown hK hP hS hk_a0 lkf_X3_44 dX3_moveTo_17 (fun H locs hP hS => ?_)
  obtain ⟨S_17, eS_17, Hf⟩ := c_l_ex Hf
  have hP : st_HP X (st_A S) S_17 H := by rw [eS_17]; exact hP
  refine lv_aload_n hx hb dX3_moveTo_20 rfl (lv_at hl 0 rfl) ?_
  refine lv_aload_n hx hb dX3_moveTo_21 rfl (lv_at hl 0 rfl) ?_
  have hk_a0 : st_K S_17 a0 = 5 := by rw [kp_pi eS_17]; exact hk_a0
  have hq6 : st_fr S_17 400 a0 = some q6 := by rw [fr_pi eS_17]; exact hq6
  refine fg_4_0 hx hb hts hown hK hP hk_a0 lkf_X3_12 hq6 dX3_moveTo_22 ?_
  have hk_q6 : st_K S_17 q6 = 8 := by rw [kp_pi eS_17]; exact hk_q6
  obtain ⟨q25, hq25, Hf⟩ := c_n_some Hf
  refine fg_7_0 hx hb hts hown hK hP hk_q6 lkf_X3_109 hq25 dX3_moveTo_25 ?_
  refine lv_iload_n hx hb dX3_moveTo_28 rfl (lv_at hl 1 rfl) ?_
  obtain ⟨hk_q25, Hf⟩ := c_g_some Hf
  obtain ⟨hi29, Hf⟩ := c_g_some Hf
  refine r_iald hx hb hK hP hk_q25 hi29 dX3_moveTo_29 ?_
  refine fp_4_10 hx hb hts hown hK hP hS hk_a0 lkf_X3_47 dX3_moveTo_30 (fun H locs hP hS => ?_)
  obtain ⟨S_30, eS_30, Hf⟩ := c_l_ex Hf
  have hP : st_HP X (st_A S) S_30 H := by rw [eS_30]; exact hP
  cases Hf
  exact r_vret hx hb hr rfl hlocks dX3_moveTo_33 (Nat.le_of_ble_eq_true rfl) (Nat.le_of_ble_eq_true rfl) hP hS

def j_X3_fail_42 (a0 : Nat) (S42 : st_T) : Option (Unit × st_T) :=
  (c_g (st_K S42 a0 = 5) (c_l (st_pi S42 410 a0 0) (fun (S_44 : st_T) => (some ((), S_44)))))
set_option maxRecDepth 100000 in
def f_X3_fail (S : st_T) (a0 : Nat) (x1 : Int32) : Option (Unit × st_T) :=
  (c_g (st_K S a0 = 5) (c_i ((st_fi S 408 a0) = 0) (c_n (st_fr S 400 a0) (fun (q12 : Nat) => (c_g (st_K S q12 = 8) (c_i ((st_fi S 703 q12) ≤ (st_fi S 409 a0)) (j_X3_fail_42 a0 S) (c_n (st_fr S 702 q12) (fun (q29 : Nat) => (c_g (st_K S q29 = 20) (c_g (c_in (st_fi S 409 a0) (st_ln S q29)) (c_l (st_pi S 408 a0 (x1 + (16 * (st_ri S q29 ((st_fi S 409 a0) : Int32).toNatClampNeg)))) (fun (S_39 : st_T) => (j_X3_fail_42 a0 S_39))))))))))) (j_X3_fail_42 a0 S)))
set_option maxRecDepth 100000 in
set_option maxHeartbeats 4000000 in
theorem s_X3_fail (l : Launch) (X : st_I) {S SE : st_T} {a0 : Nat} {x1 : Int32} {rr : Unit} (Hf : f_X3_fail S a0 x1 = some (rr, SE)) : Met l yX3_fail (Cond.code yX3_fail cX3_fail 2 (none) :: lw_g) { frames := 0, cells := 0, slots := 0, locals := 0 } (st_P X S [.ref a0, .int x1]) (st_Q X (st_A S) none SE) 0 0 (st_A S) := by
  refine st_ofW (by decide) (Nat.le_of_ble_eq_true rfl) ?_
  intro p e s m args below meth c hx hb hr hml hlocks hnm hts hown hK hRO hA hP hS ls hl
  have hown : s.vm.findClass RX3 = some m.cls := hown
  have hl : lv_has ls 2 [(0, .ref a0), (1, .int x1)] := hl
  unfold f_X3_fail at Hf
  refine lv_aload_n hx hb dX3_fail_0 rfl (lv_at hl 0 rfl) ?_
  obtain ⟨hk_a0, Hf⟩ := c_g_some Hf
  refine fg_4_8 hx hb hts hown hK hP hk_a0 lkf_X3_41 dX3_fail_1 ?_
  have hJ42 : ∀ (S42 : st_T), j_X3_fail_42 a0 S42 = some (rr, SE) → ∀ (H : Heap) (locs : List Loc) (ls : Array Slot), st_HP X (st_A S) S42 H → va_S (st_A S) s.heap H locs → lv_has ls 2 [(0, .ref a0)] → W p l e { frames := 0, cells := 0, slots := 0, locals := 0 } s m args below meth c H locs 0 0 (MQ below (st_Q X (st_A S) none SE) args s 0 0 (st_A S)) (F0 m 42 ls []) := by
    intro S42 Hf H locs ls hP hS hl
    unfold j_X3_fail_42 at Hf
    refine lv_aload_n hx hb dX3_fail_42 rfl (lv_at hl 0 rfl) ?_
    refine lv_iconst (v := 0) hx hb dX3_fail_43 (by decide) ?_
    obtain ⟨hk_a0, Hf⟩ := c_g_some Hf
    refine fp_4_10 hx hb hts hown hK hP hS hk_a0 lkf_X3_47 dX3_fail_44 (fun H locs hP hS => ?_)
    obtain ⟨S_44, eS_44, Hf⟩ := c_l_ex Hf
    have hP : st_HP X (st_A S) S_44 H := by rw [eS_44]; exact hP
    cases Hf
    exact r_vret hx hb hr rfl hlocks dX3_fail_47 (Nat.le_of_ble_eq_true rfl) (Nat.le_of_ble_eq_true rfl) hP hS
  refine lv_if_ne hx hb dX3_fail_4 (tgt := 42) (by decide) (fun hc => ?_) (fun hc => ?_)
  · have Hf := c_i_f Hf hc
    exact hJ42 S Hf _ _ _ hP hS (lv_sub hl [0] rfl)
  have Hf := c_i_t Hf hc
  refine lv_aload_n hx hb dX3_fail_7 rfl (lv_at hl 0 rfl) ?_
  refine fg_4_9 hx hb hts hown hK hP hk_a0 lkf_X3_44 dX3_fail_8 ?_
  refine lv_aload_n hx hb dX3_fail_11 rfl (lv_at hl 0 rfl) ?_
  obtain ⟨q12, hq12, Hf⟩ := c_n_some Hf
  refine fg_4_0 hx hb hts hown hK hP hk_a0 lkf_X3_12 hq12 dX3_fail_12 ?_
  obtain ⟨hk_q12, Hf⟩ := c_g_some Hf
  refine fg_7_3 hx hb hts hown hK hP hk_q12 lkf_X3_105 dX3_fail_15 ?_
  refine lv_icmp_ge hx hb dX3_fail_18 (tgt := 42) (by decide) (fun hc => ?_) (fun hc => ?_)
  · have Hf := c_i_t Hf hc
    exact hJ42 S Hf _ _ _ hP hS (lv_sub hl [0] rfl)
  have Hf := c_i_f Hf hc
  refine lv_aload_n hx hb dX3_fail_21 rfl (lv_at hl 0 rfl) ?_
  refine lv_iload_n hx hb dX3_fail_22 rfl (lv_at hl 1 rfl) ?_
  refine lv_bipush (v := 16) hx hb dX3_fail_23 (by decide) ?_
  refine lv_aload_n hx hb dX3_fail_25 rfl (lv_at hl 0 rfl) ?_
  refine fg_4_0 hx hb hts hown hK hP hk_a0 lkf_X3_12 hq12 dX3_fail_26 ?_
  obtain ⟨q29, hq29, Hf⟩ := c_n_some Hf
  refine fg_7_2 hx hb hts hown hK hP hk_q12 lkf_X3_112 hq29 dX3_fail_29 ?_
  refine lv_aload_n hx hb dX3_fail_32 rfl (lv_at hl 0 rfl) ?_
  refine fg_4_9 hx hb hts hown hK hP hk_a0 lkf_X3_44 dX3_fail_33 ?_
  obtain ⟨hk_q29, Hf⟩ := c_g_some Hf
  obtain ⟨hi36, Hf⟩ := c_g_some Hf
  refine r_iald hx hb hK hP hk_q29 hi36 dX3_fail_36 ?_
  refine lv_imul hx hb dX3_fail_37 ?_
  refine lv_iadd hx hb dX3_fail_38 ?_
  refine fp_4_8 hx hb hts hown hK hP hS hk_a0 lkf_X3_41 dX3_fail_39 (fun H locs hP hS => ?_)
  obtain ⟨S_39, eS_39, Hf⟩ := c_l_ex Hf
  have hP : st_HP X (st_A S) S_39 H := by rw [eS_39]; exact hP
  exact hJ42 S_39 Hf _ _ _ hP hS (lv_sub hl [0] rfl)

set_option maxRecDepth 100000 in
def f_X3_take (S : st_T) (a0 : Nat) (x1 : Int32) : Option (Unit × st_T) :=
  (c_g (st_K S a0 = 5) (c_i ((st_fi S 410 a0) = x1) (c_c (f_X3_moveTo S a0 ((st_fi S 409 a0) + 1)) (fun (r15 : Unit) (T15 : st_T) => (some ((), T15)))) (c_c (f_X3_fail S a0 1) (fun (r23 : Unit) (T23 : st_T) => (some ((), T23))))))
set_option maxRecDepth 100000 in
set_option maxHeartbeats 4000000 in
theorem s_X3_take (l : Launch) (X : st_I) {S SE : st_T} {a0 : Nat} {x1 : Int32} {rr : Unit} (Hf : f_X3_take S a0 x1 = some (rr, SE)) : Met l yX3_take (Cond.code yX3_take cX3_take 2 (none) :: lw_g) { frames := 1, cells := 0, slots := 0, locals := 21 } (st_P X S [.ref a0, .int x1]) (st_Q X (st_A S) none SE) 0 0 (st_A S) := by
  refine st_ofW (by decide) (Nat.le_of_ble_eq_true rfl) ?_
  intro p e s m args below meth c hx hb hr hml hlocks hnm hts hown hK hRO hA hP hS ls hl
  have hown : s.vm.findClass RX3 = some m.cls := hown
  have hl : lv_has ls 2 [(0, .ref a0), (1, .int x1)] := hl
  unfold f_X3_take at Hf
  refine lv_aload_n hx hb dX3_take_0 rfl (lv_at hl 0 rfl) ?_
  obtain ⟨hk_a0, Hf⟩ := c_g_some Hf
  refine fg_4_10 hx hb hts hown hK hP hk_a0 lkf_X3_47 dX3_take_1 ?_
  refine lv_iload_n hx hb dX3_take_4 rfl (lv_at hl 1 rfl) ?_
  refine lv_icmp_ne hx hb dX3_take_5 (tgt := 21) (by decide) (fun hc => ?_) (fun hc => ?_)
  · have Hf := c_i_f Hf hc
    refine lv_aload_n hx hb dX3_take_21 rfl (lv_at hl 0 rfl) ?_
    refine lv_iconst (v := 1) hx hb dX3_take_22 (by decide) ?_
    obtain ⟨r23, T23, hq23, Hf⟩ := c_c_some Hf
    refine r_cV (n := 1) (As := [.int 1]) (rest := []) ⟨hx, hb, hml, hown, hts⟩ (s_X3_fail l X hq23) lkm_X3_58 (by decide +kernel) rfl (by decide) dX3_take_23 rfl rfl ⟨Nat.le_of_ble_eq_true rfl, Nat.le_of_ble_eq_true rfl⟩ hk_a0 rfl hl.1 (Nat.le_of_ble_eq_true rfl) ⟨Nat.le_of_ble_eq_true rfl, Nat.le_of_ble_eq_true rfl⟩ hK hRO hA hP hS (fun H locs hP hS => ?_)
    refine W.eq (g2 := F0 m 26 ls []) rfl ?_
    cases Hf
    exact r_vret hx hb hr rfl hlocks dX3_take_26 (Nat.le_of_ble_eq_true rfl) (Nat.le_of_ble_eq_true rfl) hP hS
  have Hf := c_i_t Hf hc
  refine lv_aload_n hx hb dX3_take_8 rfl (lv_at hl 0 rfl) ?_
  refine lv_aload_n hx hb dX3_take_9 rfl (lv_at hl 0 rfl) ?_
  refine fg_4_9 hx hb hts hown hK hP hk_a0 lkf_X3_44 dX3_take_10 ?_
  refine lv_iconst (v := 1) hx hb dX3_take_13 (by decide) ?_
  refine lv_iadd hx hb dX3_take_14 ?_
  obtain ⟨r15, T15, hq15, Hf⟩ := c_c_some Hf
  refine r_cV (n := 1) (As := [.int ((st_fi S 409 a0) + 1)]) (rest := []) ⟨hx, hb, hml, hown, hts⟩ (s_X3_moveTo l X hq15) lkm_X3_54 (by decide +kernel) rfl (by decide) dX3_take_15 rfl rfl ⟨Nat.le_of_ble_eq_true rfl, Nat.le_of_ble_eq_true rfl⟩ hk_a0 rfl hl.1 (Nat.le_of_ble_eq_true rfl) ⟨Nat.le_of_ble_eq_true rfl, Nat.le_of_ble_eq_true rfl⟩ hK hRO hA hP hS (fun H locs hP hS => ?_)
  refine W.eq (g2 := F0 m 18 ls []) rfl ?_
  refine lv_goto hx hb dX3_take_18 (tgt := 26) (by decide) ?_
  cases Hf
  exact r_vret hx hb hr rfl hlocks dX3_take_26 (Nat.le_of_ble_eq_true rfl) (Nat.le_of_ble_eq_true rfl) hP hS

def j_X3_takeNumber_22 (a0 : Nat) (x1 : Int32) (S22 : st_T) : Option (Int32 × st_T) :=
  (c_g (st_K S22 a0 = 5) (c_c (f_X3_fail S22 a0 1) (fun (r24 : Unit) (T24 : st_T) => (some (x1, T24)))))
set_option maxRecDepth 100000 in
def f_X3_takeNumber (S : st_T) (a0 : Nat) (x1 : Int32) (x2 : Int32) : Option (Int32 × st_T) :=
  (c_g (st_K S a0 = 5) (c_i ((st_fi S 410 a0) = 2) (c_n (st_fr S 400 a0) (fun (q13 : Nat) => (c_g (st_K S q13 = 8) (c_i ((st_fi S 409 a0) < (st_fi S 703 q13)) (c_n (st_fr S 701 q13) (fun (q33 : Nat) => (c_g (st_K S q33 = 20) (c_g (c_in (st_fi S 409 a0) (st_ln S q33)) (c_l (st_ri S q33 ((st_fi S 409 a0) : Int32).toNatClampNeg) (fun (z3_41 : Int32) => (c_c (f_X8_isWithin S z3_41 x1 x2) (fun (r45 : Int32) (T45 : st_T) => (c_i (r45 = 0) (c_g (st_K T45 a0 = 5) (c_c (f_X3_fail T45 a0 4) (fun (r66 : Unit) (T66 : st_T) => (some (z3_41, T66))))) (c_g (st_K T45 a0 = 5) (c_c (f_X3_moveTo T45 a0 ((st_fi T45 409 a0) + 1)) (fun (r58 : Unit) (T58 : st_T) => (some (z3_41, T58)))))))))))))) (j_X3_takeNumber_22 a0 x1 S))))) (j_X3_takeNumber_22 a0 x1 S)))
set_option maxRecDepth 100000 in
set_option maxHeartbeats 4000000 in
theorem s_X3_takeNumber (l : Launch) (X : st_I) {S SE : st_T} {a0 : Nat} {x1 : Int32} {x2 : Int32} {rr : Int32} (Hf : f_X3_takeNumber S a0 x1 x2 = some (rr, SE)) : Met l yX3_takeNumber (Cond.code yX3_takeNumber cX3_takeNumber 4 (some .int) :: lw_g) { frames := 1, cells := 0, slots := 0, locals := 22 } (st_P X S [.ref a0, .int x1, .int x2]) (st_Q X (st_A S) (some (.int rr)) SE) 0 0 (st_A S) := by
  refine st_ofW (by decide) (Nat.le_of_ble_eq_true rfl) ?_
  intro p e s m args below meth c hx hb hr hml hlocks hnm hts hown hK hRO hA hP hS ls hl
  have hown : s.vm.findClass RX3 = some m.cls := hown
  have hl : lv_has ls 4 [(0, .ref a0), (1, .int x1), (2, .int x2)] := hl
  unfold f_X3_takeNumber at Hf
  refine lv_aload_n hx hb dX3_takeNumber_0 rfl (lv_at hl 0 rfl) ?_
  obtain ⟨hk_a0, Hf⟩ := c_g_some Hf
  refine fg_4_10 hx hb hts hown hK hP hk_a0 lkf_X3_47 dX3_takeNumber_1 ?_
  refine lv_iconst (v := 2) hx hb dX3_takeNumber_4 (by decide) ?_
  have hJ22 : ∀ (S22 : st_T), j_X3_takeNumber_22 a0 x1 S22 = some (rr, SE) → ∀ (H : Heap) (locs : List Loc) (ls : Array Slot), st_HP X (st_A S) S22 H → va_S (st_A S) s.heap H locs → lv_has ls 4 [(0, .ref a0), (1, .int x1)] → W p l e { frames := 1, cells := 0, slots := 0, locals := 22 } s m args below meth c H locs 0 0 (MQ below (st_Q X (st_A S) (some (.int rr)) SE) args s 0 0 (st_A S)) (F0 m 22 ls []) := by
    intro S22 Hf H locs ls hP hS hl
    unfold j_X3_takeNumber_22 at Hf
    refine lv_aload_n hx hb dX3_takeNumber_22 rfl (lv_at hl 0 rfl) ?_
    refine lv_iconst (v := 1) hx hb dX3_takeNumber_23 (by decide) ?_
    obtain ⟨hk_a0, Hf⟩ := c_g_some Hf
    obtain ⟨r24, T24, hq24, Hf⟩ := c_c_some Hf
    refine r_cV (n := 1) (As := [.int 1]) (rest := []) ⟨hx, hb, hml, hown, hts⟩ (s_X3_fail l X hq24) lkm_X3_58 (by decide +kernel) rfl (by decide) dX3_takeNumber_24 rfl rfl ⟨Nat.le_of_ble_eq_true rfl, Nat.le_of_ble_eq_true rfl⟩ hk_a0 rfl hl.1 (Nat.le_of_ble_eq_true rfl) ⟨Nat.le_of_ble_eq_true rfl, Nat.le_of_ble_eq_true rfl⟩ hK hRO hA hP hS (fun H locs hP hS => ?_)
    refine W.eq (g2 := F0 m 27 ls []) rfl ?_
    refine lv_iload_n hx hb dX3_takeNumber_27 rfl (lv_at hl 1 rfl) ?_
    cases Hf
    exact r_iret hx hb hr rfl hlocks dX3_takeNumber_28 (Nat.le_of_ble_eq_true rfl) (Nat.le_of_ble_eq_true rfl) hP hS
  refine lv_icmp_ne hx hb dX3_takeNumber_5 (tgt := 22) (by decide) (fun hc => ?_) (fun hc => ?_)
  · have Hf := c_i_f Hf hc
    exact hJ22 S Hf _ _ _ hP hS (lv_sub hl [0, 1] rfl)
  have Hf := c_i_t Hf hc
  refine lv_aload_n hx hb dX3_takeNumber_8 rfl (lv_at hl 0 rfl) ?_
  refine fg_4_9 hx hb hts hown hK hP hk_a0 lkf_X3_44 dX3_takeNumber_9 ?_
  refine lv_aload_n hx hb dX3_takeNumber_12 rfl (lv_at hl 0 rfl) ?_
  obtain ⟨q13, hq13, Hf⟩ := c_n_some Hf
  refine fg_4_0 hx hb hts hown hK hP hk_a0 lkf_X3_12 hq13 dX3_takeNumber_13 ?_
  obtain ⟨hk_q13, Hf⟩ := c_g_some Hf
  refine fg_7_3 hx hb hts hown hK hP hk_q13 lkf_X3_105 dX3_takeNumber_16 ?_
  refine lv_icmp_lt hx hb dX3_takeNumber_19 (tgt := 29) (by decide) (fun hc => ?_) (fun hc => ?_)
  · have Hf := c_i_t Hf hc
    refine lv_aload_n hx hb dX3_takeNumber_29 rfl (lv_at hl 0 rfl) ?_
    refine fg_4_0 hx hb hts hown hK hP hk_a0 lkf_X3_12 hq13 dX3_takeNumber_30 ?_
    obtain ⟨q33, hq33, Hf⟩ := c_n_some Hf
    refine fg_7_1 hx hb hts hown hK hP hk_q13 lkf_X3_108 hq33 dX3_takeNumber_33 ?_
    refine lv_aload_n hx hb dX3_takeNumber_36 rfl (lv_at hl 0 rfl) ?_
    refine fg_4_9 hx hb hts hown hK hP hk_a0 lkf_X3_44 dX3_takeNumber_37 ?_
    obtain ⟨hk_q33, Hf⟩ := c_g_some Hf
    obtain ⟨hi40, Hf⟩ := c_g_some Hf
    refine r_iald hx hb hK hP hk_q33 hi40 dX3_takeNumber_40 ?_
    refine lv_topi (fun z3_41 ez3_41 => ?_)
    have Hf := c_l_ren Hf ez3_41
    refine lv_istore_n (lv' := [(3, .int z3_41), (0, .ref a0), (1, .int x1), (2, .int x2)]) hx hb dX3_takeNumber_41 rfl hl (by decide) rfl (fun ls hl => ?_)
    refine lv_iload_n hx hb dX3_takeNumber_42 rfl (lv_at hl 0 rfl) ?_
    refine lv_iload_n hx hb dX3_takeNumber_43 rfl (lv_at hl 2 rfl) ?_
    refine lv_iload_n hx hb dX3_takeNumber_44 rfl (lv_at hl 3 rfl) ?_
    obtain ⟨r45, T45, hq45, Hf⟩ := c_c_some Hf
    refine r_cN (n := 3) (As := [.int z3_41, .int x1, .int x2]) (rest := []) ⟨hx, hb, hml, hown, hts⟩ (s_X8_isWithin l X hq45) lkm_X3_98 lkn_X3_98 (by decide +kernel) dX3_takeNumber_45 rfl rfl ⟨Nat.le_of_ble_eq_true rfl, Nat.le_of_ble_eq_true rfl⟩ rfl hl.1 (Nat.le_of_ble_eq_true rfl) ⟨Nat.le_of_ble_eq_true rfl, Nat.le_of_ble_eq_true rfl⟩ hK hRO hA hP hS (fun H locs hP hS => ?_)
    refine W.eq (g2 := F0 m 48 ls [.int r45]) rfl ?_
    refine lv_if_eq hx hb dX3_takeNumber_48 (tgt := 64) (by decide) (fun hc => ?_) (fun hc => ?_)
    · have Hf := c_i_t Hf hc
      refine lv_aload_n hx hb dX3_takeNumber_64 rfl (lv_at hl 1 rfl) ?_
      refine lv_iconst (v := 4) hx hb dX3_takeNumber_65 (by decide) ?_
      obtain ⟨hk_a0, Hf⟩ := c_g_some Hf
      obtain ⟨r66, T66, hq66, Hf⟩ := c_c_some Hf
      refine r_cV (n := 1) (As := [.int 4]) (rest := []) ⟨hx, hb, hml, hown, hts⟩ (s_X3_fail l X hq66) lkm_X3_58 (by decide +kernel) rfl (by decide) dX3_takeNumber_66 rfl rfl ⟨Nat.le_of_ble_eq_true rfl, Nat.le_of_ble_eq_true rfl⟩ hk_a0 rfl hl.1 (Nat.le_of_ble_eq_true rfl) ⟨Nat.le_of_ble_eq_true rfl, Nat.le_of_ble_eq_true rfl⟩ hK hRO hA hP hS (fun H locs hP hS => ?_)
      refine W.eq (g2 := F0 m 69 ls []) rfl ?_
      refine lv_iload_n hx hb dX3_takeNumber_69 rfl (lv_at hl 0 rfl) ?_
      cases Hf
      exact r_iret hx hb hr rfl hlocks dX3_takeNumber_70 (Nat.le_of_ble_eq_true rfl) (Nat.le_of_ble_eq_true rfl) hP hS
    have Hf := c_i_f Hf hc
    refine lv_aload_n hx hb dX3_takeNumber_51 rfl (lv_at hl 1 rfl) ?_
    refine lv_aload_n hx hb dX3_takeNumber_52 rfl (lv_at hl 1 rfl) ?_
    obtain ⟨hk_a0, Hf⟩ := c_g_some Hf
    refine fg_4_9 hx hb hts hown hK hP hk_a0 lkf_X3_44 dX3_takeNumber_53 ?_
    refine lv_iconst (v := 1) hx hb dX3_takeNumber_56 (by decide) ?_
    refine lv_iadd hx hb dX3_takeNumber_57 ?_
    obtain ⟨r58, T58, hq58, Hf⟩ := c_c_some Hf
    refine r_cV (n := 1) (As := [.int ((st_fi T45 409 a0) + 1)]) (rest := []) ⟨hx, hb, hml, hown, hts⟩ (s_X3_moveTo l X hq58) lkm_X3_54 (by decide +kernel) rfl (by decide) dX3_takeNumber_58 rfl rfl ⟨Nat.le_of_ble_eq_true rfl, Nat.le_of_ble_eq_true rfl⟩ hk_a0 rfl hl.1 (Nat.le_of_ble_eq_true rfl) ⟨Nat.le_of_ble_eq_true rfl, Nat.le_of_ble_eq_true rfl⟩ hK hRO hA hP hS (fun H locs hP hS => ?_)
    refine W.eq (g2 := F0 m 61 ls []) rfl ?_
    refine lv_goto hx hb dX3_takeNumber_61 (tgt := 69) (by decide) ?_
    refine lv_iload_n hx hb dX3_takeNumber_69 rfl (lv_at hl 0 rfl) ?_
    cases Hf
    exact r_iret hx hb hr rfl hlocks dX3_takeNumber_70 (Nat.le_of_ble_eq_true rfl) (Nat.le_of_ble_eq_true rfl) hP hS
  have Hf := c_i_f Hf hc
  exact hJ22 S Hf _ _ _ hP hS (lv_sub hl [0, 1] rfl)

set_option maxRecDepth 100000 in
def f_X3_emit (S : st_T) (a0 : Nat) (x1 : Int32) (x2 : Int32) : Option (Unit × st_T) :=
  (c_g (st_K S a0 = 5) (c_i (800 ≤ (st_fi S 406 a0)) (some ((), S)) (c_n (st_fr S 403 a0) (fun (q11 : Nat) => (c_g (st_K S q11 = 20) (c_g (c_in (st_fi S 406 a0) (st_ln S q11)) (c_l (st_wi S q11 ((st_fi S 406 a0) : Int32).toNatClampNeg x1) (fun (S_19 : st_T) => (c_n (st_fr S_19 404 a0) (fun (q21 : Nat) => (c_g (st_K S_19 q21 = 20) (c_g (c_in (st_fi S_19 406 a0) (st_ln S_19 q21)) (c_l (st_wi S_19 q21 ((st_fi S_19 406 a0) : Int32).toNatClampNeg x2) (fun (S_29 : st_T) => (c_l (st_pi S_29 406 a0 ((st_fi S_29 406 a0) + 1)) (fun (S_37 : st_T) => (some ((), S_37))))))))))))))))))
set_option maxRecDepth 100000 in
set_option maxHeartbeats 4000000 in
theorem s_X3_emit (l : Launch) (X : st_I) {S SE : st_T} {a0 : Nat} {x1 : Int32} {x2 : Int32} {rr : Unit} (Hf : f_X3_emit S a0 x1 x2 = some (rr, SE)) : Met l yX3_emit (Cond.code yX3_emit cX3_emit 3 (none) :: lw_g) { frames := 0, cells := 0, slots := 0, locals := 0 } (st_P X S [.ref a0, .int x1, .int x2]) (st_Q X (st_A S) none SE) 0 0 (st_A S) := by
  refine st_ofW (by decide) (Nat.le_of_ble_eq_true rfl) ?_
  intro p e s m args below meth c hx hb hr hml hlocks hnm hts hown hK hRO hA hP hS ls hl
  have hown : s.vm.findClass RX3 = some m.cls := hown
  have hl : lv_has ls 3 [(0, .ref a0), (1, .int x1), (2, .int x2)] := hl
  unfold f_X3_emit at Hf
  refine lv_aload_n hx hb dX3_emit_0 rfl (lv_at hl 0 rfl) ?_
  obtain ⟨hk_a0, Hf⟩ := c_g_some Hf
  refine fg_4_6 hx hb hts hown hK hP hk_a0 lkf_X3_35 dX3_emit_1 ?_
  refine lv_sipush (v := 800) hx hb dX3_emit_4 (by decide) ?_
  refine lv_icmp_ge hx hb dX3_emit_7 (tgt := 40) (by decide) (fun hc => ?_) (fun hc => ?_)
  · have Hf := c_i_t Hf hc
    cases Hf
    exact r_vret hx hb hr rfl hlocks dX3_emit_40 (Nat.le_of_ble_eq_true rfl) (Nat.le_of_ble_eq_true rfl) hP hS
  have Hf := c_i_f Hf hc
  refine lv_aload_n hx hb dX3_emit_10 rfl (lv_at hl 0 rfl) ?_
  obtain ⟨q11, hq11, Hf⟩ := c_n_some Hf
  refine fg_4_3 hx hb hts hown hK hP hk_a0 lkf_X3_25 hq11 dX3_emit_11 ?_
  refine lv_aload_n hx hb dX3_emit_14 rfl (lv_at hl 0 rfl) ?_
  refine fg_4_6 hx hb hts hown hK hP hk_a0 lkf_X3_35 dX3_emit_15 ?_
  refine lv_iload_n hx hb dX3_emit_18 rfl (lv_at hl 1 rfl) ?_
  obtain ⟨hk_q11, Hf⟩ := c_g_some Hf
  obtain ⟨hi19, Hf⟩ := c_g_some Hf
  refine r_iast hx hb hK hP hS hk_q11 hi19 dX3_emit_19 (fun H locs hP hS => ?_)
  obtain ⟨S_19, eS_19, Hf⟩ := c_l_ex Hf
  have hP : st_HP X (st_A S) S_19 H := by rw [eS_19]; exact hP
  refine lv_aload_n hx hb dX3_emit_20 rfl (lv_at hl 0 rfl) ?_
  have hk_a0 : st_K S_19 a0 = 5 := by rw [kp_wi eS_19]; exact hk_a0
  obtain ⟨q21, hq21, Hf⟩ := c_n_some Hf
  refine fg_4_4 hx hb hts hown hK hP hk_a0 lkf_X3_28 hq21 dX3_emit_21 ?_
  refine lv_aload_n hx hb dX3_emit_24 rfl (lv_at hl 0 rfl) ?_
  refine fg_4_6 hx hb hts hown hK hP hk_a0 lkf_X3_35 dX3_emit_25 ?_
  refine lv_iload_n hx hb dX3_emit_28 rfl (lv_at hl 2 rfl) ?_
  obtain ⟨hk_q21, Hf⟩ := c_g_some Hf
  obtain ⟨hi29, Hf⟩ := c_g_some Hf
  refine r_iast hx hb hK hP hS hk_q21 hi29 dX3_emit_29 (fun H locs hP hS => ?_)
  obtain ⟨S_29, eS_29, Hf⟩ := c_l_ex Hf
  have hP : st_HP X (st_A S) S_29 H := by rw [eS_29]; exact hP
  refine lv_aload_n hx hb dX3_emit_30 rfl (lv_at hl 0 rfl) ?_
  refine lv_dup hx hb dX3_emit_31 rfl ?_
  have hk_a0 : st_K S_29 a0 = 5 := by rw [kp_wi eS_29]; exact hk_a0
  refine fg_4_6 hx hb hts hown hK hP hk_a0 lkf_X3_35 dX3_emit_32 ?_
  refine lv_iconst (v := 1) hx hb dX3_emit_35 (by decide) ?_
  refine lv_iadd hx hb dX3_emit_36 ?_
  refine fp_4_6 hx hb hts hown hK hP hS hk_a0 lkf_X3_35 dX3_emit_37 (fun H locs hP hS => ?_)
  obtain ⟨S_37, eS_37, Hf⟩ := c_l_ex Hf
  have hP : st_HP X (st_A S) S_37 H := by rw [eS_37]; exact hP
  cases Hf
  exact r_vret hx hb hr rfl hlocks dX3_emit_40 (Nat.le_of_ble_eq_true rfl) (Nat.le_of_ble_eq_true rfl) hP hS

set_option maxRecDepth 100000 in
def f_X3_endRule (S : st_T) (a0 : Nat) (x1 : Int32) : Option (Unit × st_T) :=
  (c_g (st_K S a0 = 5) (c_i (24 ≤ (st_fi S 405 a0)) (some ((), S)) (c_n (st_fr S 401 a0) (fun (q10 : Nat) => (c_g (st_K S q10 = 20) (c_g (c_in (st_fi S 405 a0) (st_ln S q10)) (c_l (st_wi S q10 ((st_fi S 405 a0) : Int32).toNatClampNeg x1) (fun (S_18 : st_T) => (c_n (st_fr S_18 402 a0) (fun (q20 : Nat) => (c_g (st_K S_18 q20 = 20) (c_g (c_in (st_fi S_18 405 a0) (st_ln S_18 q20)) (c_l (st_wi S_18 q20 ((st_fi S_18 405 a0) : Int32).toNatClampNeg (st_fi S_18 406 a0)) (fun (S_31 : st_T) => (c_l (st_pi S_31 405 a0 ((st_fi S_31 405 a0) + 1)) (fun (S_39 : st_T) => (some ((), S_39))))))))))))))))))
set_option maxRecDepth 100000 in
set_option maxHeartbeats 4000000 in
theorem s_X3_endRule (l : Launch) (X : st_I) {S SE : st_T} {a0 : Nat} {x1 : Int32} {rr : Unit} (Hf : f_X3_endRule S a0 x1 = some (rr, SE)) : Met l yX3_endRule (Cond.code yX3_endRule cX3_endRule 2 (none) :: lw_g) { frames := 0, cells := 0, slots := 0, locals := 0 } (st_P X S [.ref a0, .int x1]) (st_Q X (st_A S) none SE) 0 0 (st_A S) := by
  refine st_ofW (by decide) (Nat.le_of_ble_eq_true rfl) ?_
  intro p e s m args below meth c hx hb hr hml hlocks hnm hts hown hK hRO hA hP hS ls hl
  have hown : s.vm.findClass RX3 = some m.cls := hown
  have hl : lv_has ls 2 [(0, .ref a0), (1, .int x1)] := hl
  unfold f_X3_endRule at Hf
  refine lv_aload_n hx hb dX3_endRule_0 rfl (lv_at hl 0 rfl) ?_
  obtain ⟨hk_a0, Hf⟩ := c_g_some Hf
  refine fg_4_5 hx hb hts hown hK hP hk_a0 lkf_X3_31 dX3_endRule_1 ?_
  refine lv_bipush (v := 24) hx hb dX3_endRule_4 (by decide) ?_
  refine lv_icmp_ge hx hb dX3_endRule_6 (tgt := 42) (by decide) (fun hc => ?_) (fun hc => ?_)
  · have Hf := c_i_t Hf hc
    cases Hf
    exact r_vret hx hb hr rfl hlocks dX3_endRule_42 (Nat.le_of_ble_eq_true rfl) (Nat.le_of_ble_eq_true rfl) hP hS
  have Hf := c_i_f Hf hc
  refine lv_aload_n hx hb dX3_endRule_9 rfl (lv_at hl 0 rfl) ?_
  obtain ⟨q10, hq10, Hf⟩ := c_n_some Hf
  refine fg_4_1 hx hb hts hown hK hP hk_a0 lkf_X3_18 hq10 dX3_endRule_10 ?_
  refine lv_aload_n hx hb dX3_endRule_13 rfl (lv_at hl 0 rfl) ?_
  refine fg_4_5 hx hb hts hown hK hP hk_a0 lkf_X3_31 dX3_endRule_14 ?_
  refine lv_iload_n hx hb dX3_endRule_17 rfl (lv_at hl 1 rfl) ?_
  obtain ⟨hk_q10, Hf⟩ := c_g_some Hf
  obtain ⟨hi18, Hf⟩ := c_g_some Hf
  refine r_iast hx hb hK hP hS hk_q10 hi18 dX3_endRule_18 (fun H locs hP hS => ?_)
  obtain ⟨S_18, eS_18, Hf⟩ := c_l_ex Hf
  have hP : st_HP X (st_A S) S_18 H := by rw [eS_18]; exact hP
  refine lv_aload_n hx hb dX3_endRule_19 rfl (lv_at hl 0 rfl) ?_
  have hk_a0 : st_K S_18 a0 = 5 := by rw [kp_wi eS_18]; exact hk_a0
  obtain ⟨q20, hq20, Hf⟩ := c_n_some Hf
  refine fg_4_2 hx hb hts hown hK hP hk_a0 lkf_X3_22 hq20 dX3_endRule_20 ?_
  refine lv_aload_n hx hb dX3_endRule_23 rfl (lv_at hl 0 rfl) ?_
  refine fg_4_5 hx hb hts hown hK hP hk_a0 lkf_X3_31 dX3_endRule_24 ?_
  refine lv_aload_n hx hb dX3_endRule_27 rfl (lv_at hl 0 rfl) ?_
  refine fg_4_6 hx hb hts hown hK hP hk_a0 lkf_X3_35 dX3_endRule_28 ?_
  obtain ⟨hk_q20, Hf⟩ := c_g_some Hf
  obtain ⟨hi31, Hf⟩ := c_g_some Hf
  refine r_iast hx hb hK hP hS hk_q20 hi31 dX3_endRule_31 (fun H locs hP hS => ?_)
  obtain ⟨S_31, eS_31, Hf⟩ := c_l_ex Hf
  have hP : st_HP X (st_A S) S_31 H := by rw [eS_31]; exact hP
  refine lv_aload_n hx hb dX3_endRule_32 rfl (lv_at hl 0 rfl) ?_
  refine lv_dup hx hb dX3_endRule_33 rfl ?_
  have hk_a0 : st_K S_31 a0 = 5 := by rw [kp_wi eS_31]; exact hk_a0
  refine fg_4_5 hx hb hts hown hK hP hk_a0 lkf_X3_31 dX3_endRule_34 ?_
  refine lv_iconst (v := 1) hx hb dX3_endRule_37 (by decide) ?_
  refine lv_iadd hx hb dX3_endRule_38 ?_
  refine fp_4_5 hx hb hts hown hK hP hS hk_a0 lkf_X3_31 dX3_endRule_39 (fun H locs hP hS => ?_)
  obtain ⟨S_39, eS_39, Hf⟩ := c_l_ex Hf
  have hP : st_HP X (st_A S) S_39 H := by rw [eS_39]; exact hP
  cases Hf
  exact r_vret hx hb hr rfl hlocks dX3_endRule_42 (Nat.le_of_ble_eq_true rfl) (Nat.le_of_ble_eq_true rfl) hP hS
