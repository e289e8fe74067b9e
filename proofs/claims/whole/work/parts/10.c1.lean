def j_J3_checkIndex_8e157_9 (S9 : st_T) : Option (Int32 × st_T) :=
  none
set_option maxRecDepth 100000 in
def f_J3_checkIndex_8e157 (S : st_T) (x0 : Int32) (x1 : Int32) : Option (Int32 × st_T) :=
  (c_i (x0 < 0) (j_J3_checkIndex_8e157_9 S) (c_i (x0 < x1) (some (x0, S)) (j_J3_checkIndex_8e157_9 S)))
set_option maxRecDepth 100000 in
set_option maxHeartbeats 4000000 in
theorem s_J3_checkIndex_8e157 (l : Launch) (X : st_I) {S SE : st_T} {x0 : Int32} {x1 : Int32} {rr : Int32} (Hf : f_J3_checkIndex_8e157 S x0 x1 = some (rr, SE)) : Met l yJ3_checkIndex_8e157 (Cond.code yJ3_checkIndex_8e157 cJ3_checkIndex_8e157 3 (some .int) :: lw_g) { frames := 0, cells := 0, slots := 0, locals := 0 } (st_P X S [.int x0, .int x1, .null]) (st_Q X (st_A S) (some (.int rr)) SE) 0 0 (st_A S) := by
  refine st_ofW (by decide) (Nat.le_of_ble_eq_true rfl) ?_
  intro p e s m args below meth c hx hb hr hml hlocks hnm hts hown hK hRO hA hP hS ls hl
  have hown : s.vm.findClass RJ3 = some m.cls := hown
  have hl : lv_has ls 3 [(0, .int x0), (1, .int x1), (2, .null)] := hl
  unfold f_J3_checkIndex_8e157 at Hf
  refine lv_iload_n hx hb dJ3_checkIndex_8e157_0 rfl (lv_at hl 0 rfl) ?_
  have hJ9 : ∀ (S9 : st_T), j_J3_checkIndex_8e157_9 S9 = some (rr, SE) → ∀ (H : Heap) (locs : List Loc) (ls : Array Slot), st_HP X (st_A S) S9 H → va_S (st_A S) s.heap H locs → lv_has ls 3 [(0, .int x0), (1, .int x1), (2, .null)] → W p l e { frames := 0, cells := 0, slots := 0, locals := 0 } s m args below meth c H locs 0 0 (MQ below (st_Q X (st_A S) (some (.int rr)) SE) args s 0 0 (st_A S)) (F0 m 9 ls []) := by
    intro S9 Hf H locs ls hP hS hl
    unfold j_J3_checkIndex_8e157_9 at Hf
    refine lv_aload_nN hx hb dJ3_checkIndex_8e157_9 rfl (lv_at hl 2 rfl) ?_
    refine lv_iload_n hx hb dJ3_checkIndex_8e157_10 rfl (lv_at hl 0 rfl) ?_
    refine lv_iload_n hx hb dJ3_checkIndex_8e157_11 rfl (lv_at hl 1 rfl) ?_
    cases Hf
  refine lv_if_lt hx hb dJ3_checkIndex_8e157_1 (tgt := 9) (by decide) (fun hc => ?_) (fun hc => ?_)
  · have Hf := c_i_t Hf hc
    exact hJ9 S Hf _ _ _ hP hS (lv_sub hl [0, 1, 2] rfl)
  have Hf := c_i_f Hf hc
  refine lv_iload_n hx hb dJ3_checkIndex_8e157_4 rfl (lv_at hl 0 rfl) ?_
  refine lv_iload_n hx hb dJ3_checkIndex_8e157_5 rfl (lv_at hl 1 rfl) ?_
  refine lv_icmp_lt hx hb dJ3_checkIndex_8e157_6 (tgt := 16) (by decide) (fun hc => ?_) (fun hc => ?_)
  · have Hf := c_i_t Hf hc
    refine lv_iload_n hx hb dJ3_checkIndex_8e157_16 rfl (lv_at hl 0 rfl) ?_
    cases Hf
    exact r_iret hx hb hr rfl hlocks dJ3_checkIndex_8e157_17 (Nat.le_of_ble_eq_true rfl) (Nat.le_of_ble_eq_true rfl) hP hS
  have Hf := c_i_f Hf hc
  exact hJ9 S Hf _ _ _ hP hS (lv_sub hl [0, 1, 2] rfl)

set_option maxRecDepth 100000 in
def f_J15_checkIndex_7cf53 (S : st_T) (x0 : Int32) (x1 : Int32) : Option (Int32 × st_T) :=
  (c_c (f_J3_checkIndex_8e157 S x0 x1) (fun (r3 : Int32) (T3 : st_T) => (some (r3, T3))))
set_option maxRecDepth 100000 in
set_option maxHeartbeats 4000000 in
theorem s_J15_checkIndex_7cf53 (l : Launch) (X : st_I) {S SE : st_T} {x0 : Int32} {x1 : Int32} {rr : Int32} (Hf : f_J15_checkIndex_7cf53 S x0 x1 = some (rr, SE)) : Met l yJ15_checkIndex_7cf53 (Cond.code yJ15_checkIndex_7cf53 cJ15_checkIndex_7cf53 2 (some .int) :: lw_g) { frames := 1, cells := 0, slots := 0, locals := 22 } (st_P X S [.int x0, .int x1]) (st_Q X (st_A S) (some (.int rr)) SE) 0 0 (st_A S) := by
  refine st_ofW (by decide) (Nat.le_of_ble_eq_true rfl) ?_
  intro p e s m args below meth c hx hb hr hml hlocks hnm hts hown hK hRO hA hP hS ls hl
  have hown : s.vm.findClass RJ15 = some m.cls := hown
  have hl : lv_has ls 2 [(0, .int x0), (1, .int x1)] := hl
  unfold f_J15_checkIndex_7cf53 at Hf
  refine lv_iload_n hx hb dJ15_checkIndex_7cf53_0 rfl (lv_at hl 0 rfl) ?_
  refine lv_iload_n hx hb dJ15_checkIndex_7cf53_1 rfl (lv_at hl 1 rfl) ?_
  refine lv_null hx hb dJ15_checkIndex_7cf53_2 ?_
  obtain ⟨r3, T3, hq3, Hf⟩ := c_c_some Hf
  refine r_cX (n := 3) (As := [.int x0, .int x1, .null]) (rest := []) ⟨hx, hb, hml, hown, hts⟩ (s_J3_checkIndex_8e157 l X hq3) lkm_J15_105 (by decide +kernel) dJ15_checkIndex_7cf53_3 rfl rfl ⟨Nat.le_of_ble_eq_true rfl, Nat.le_of_ble_eq_true rfl⟩ rfl hl.1 (Nat.le_of_ble_eq_true rfl) ⟨Nat.le_of_ble_eq_true rfl, Nat.le_of_ble_eq_true rfl⟩ hK hRO hA hP hS (fun H locs hP hS => ?_)
  refine W.eq (g2 := F0 m 6 ls [.int r3]) rfl ?_
  cases Hf
  exact r_iret hx hb hr rfl hlocks dJ15_checkIndex_7cf53_6 (Nat.le_of_ble_eq_true rfl) (Nat.le_of_ble_eq_true rfl) hP hS

set_option maxRecDepth 100000 in
def f_Jx4a65c_size_8abf5 (S : st_T) (a0 : Nat) : Option (Int32 × st_T) :=
  (c_g (st_K S a0 = 1) (some ((st_fi S 2 a0), S)))
set_option maxRecDepth 100000 in
set_option maxHeartbeats 4000000 in
theorem s_Jx4a65c_size_8abf5 (l : Launch) (X : st_I) {S SE : st_T} {a0 : Nat} {rr : Int32} (Hf : f_Jx4a65c_size_8abf5 S a0 = some (rr, SE)) : Met l yJx4a65c_size_8abf5 (Cond.code yJx4a65c_size_8abf5 cJx4a65c_size_8abf5 1 (some .int) :: lw_g) { frames := 0, cells := 0, slots := 0, locals := 0 } (st_P X S [.ref a0]) (st_Q X (st_A S) (some (.int rr)) SE) 0 0 (st_A S) := by
  refine st_ofW (by decide) (Nat.le_of_ble_eq_true rfl) ?_
  intro p e s m args below meth c hx hb hr hml hlocks hnm hts hown hK hRO hA hP hS ls hl
  have hown : s.vm.findClass RJx4a65c = some m.cls := hown
  have hl : lv_has ls 1 [(0, .ref a0)] := hl
  unfold f_Jx4a65c_size_8abf5 at Hf
  refine lv_aload_n hx hb dJx4a65c_size_8abf5_0 rfl (lv_at hl 0 rfl) ?_
  obtain ⟨hk_a0, Hf⟩ := c_g_some Hf
  refine fg_0_2 hx hb hts hown hK hP hk_a0 lkf_Jx4a65c_48 dJx4a65c_size_8abf5_1 ?_
  cases Hf
  exact r_iret hx hb hr rfl hlocks dJx4a65c_size_8abf5_4 (Nat.le_of_ble_eq_true rfl) (Nat.le_of_ble_eq_true rfl) hP hS

set_option maxRecDepth 100000 in
def f_Jx4a65c_elementData_915e3 (S : st_T) (a0 : Nat) (x1 : Int32) : Option (Option Nat × st_T) :=
  (c_g (st_K S a0 = 1) (c_n (st_fr S 1 a0) (fun (q1 : Nat) => (c_g (st_K S q1 = 24) (c_g (c_in x1 (st_ln S q1)) (c_n (st_ro S q1 (x1 : Int32).toNatClampNeg) (fun (q5 : Nat) => (some ((some q5), S)))))))))
set_option maxRecDepth 100000 in
set_option maxHeartbeats 4000000 in
theorem s_Jx4a65c_elementData_915e3 (l : Launch) (X : st_I) {S SE : st_T} {a0 : Nat} {x1 : Int32} {rr : Option Nat} (Hf : f_Jx4a65c_elementData_915e3 S a0 x1 = some (rr, SE)) : Met l yJx4a65c_elementData_915e3 (Cond.code yJx4a65c_elementData_915e3 cJx4a65c_elementData_915e3 2 (some (.object "java/lang/Object")) :: lw_g) { frames := 0, cells := 0, slots := 0, locals := 0 } (st_P X S [.ref a0, .int x1]) (st_Q X (st_A S) (some (va_rf rr)) SE) 0 0 (st_A S) := by
  refine st_ofW (by decide) (Nat.le_of_ble_eq_true rfl) ?_
  intro p e s m args below meth c hx hb hr hml hlocks hnm hts hown hK hRO hA hP hS ls hl
  have hown : s.vm.findClass RJx4a65c = some m.cls := hown
  have hl : lv_has ls 2 [(0, .ref a0), (1, .int x1)] := hl
  unfold f_Jx4a65c_elementData_915e3 at Hf
  refine lv_aload_n hx hb dJx4a65c_elementData_915e3_0 rfl (lv_at hl 0 rfl) ?_
  obtain ⟨hk_a0, Hf⟩ := c_g_some Hf
  obtain ⟨q1, hq1, Hf⟩ := c_n_some Hf
  refine fg_0_1 hx hb hts hown hK hP hk_a0 lkf_Jx4a65c_9 hq1 dJx4a65c_elementData_915e3_1 ?_
  refine lv_iload_n hx hb dJx4a65c_elementData_915e3_4 rfl (lv_at hl 1 rfl) ?_
  obtain ⟨hk_q1, Hf⟩ := c_g_some Hf
  obtain ⟨hi5, Hf⟩ := c_g_some Hf
  obtain ⟨q5, hq5, Hf⟩ := c_n_some Hf
  refine r_aaldq hx hb hK hP hk_q1 hi5 hq5 dJx4a65c_elementData_915e3_5 ?_
  cases Hf
  exact r_aret (v := (some q5)) hx hb hr rfl (Or.inl ⟨_, rfl⟩) hlocks dJx4a65c_elementData_915e3_6 (Nat.le_of_ble_eq_true rfl) (Nat.le_of_ble_eq_true rfl) hP hS

set_option maxRecDepth 100000 in
def f_Jx4a65c_get_915e3 (S : st_T) (a0 : Nat) (x1 : Int32) : Option (Option Nat × st_T) :=
  (c_g (st_K S a0 = 1) (c_c (f_J15_checkIndex_7cf53 S x1 (st_fi S 2 a0)) (fun (r5 : Int32) (T5 : st_T) => (c_g (st_K T5 a0 = 1) (c_c (f_Jx4a65c_elementData_915e3 T5 a0 x1) (fun (r11 : Option Nat) (T11 : st_T) => (c_n r11 (fun (p11 : Nat) => (some ((some p11), T11))))))))))
set_option maxRecDepth 100000 in
set_option maxHeartbeats 4000000 in
theorem s_Jx4a65c_get_915e3 (l : Launch) (X : st_I) {S SE : st_T} {a0 : Nat} {x1 : Int32} {rr : Option Nat} (Hf : f_Jx4a65c_get_915e3 S a0 x1 = some (rr, SE)) : Met l yJx4a65c_get_915e3 (Cond.code yJx4a65c_get_915e3 cJx4a65c_get_915e3 2 (some (.object "java/lang/Object")) :: lw_g) { frames := 2, cells := 0, slots := 0, locals := 43 } (st_P X S [.ref a0, .int x1]) (st_Q X (st_A S) (some (va_rf rr)) SE) 0 0 (st_A S) := by
  refine st_ofW (by decide) (Nat.le_of_ble_eq_true rfl) ?_
  intro p e s m args below meth c hx hb hr hml hlocks hnm hts hown hK hRO hA hP hS ls hl
  have hown : s.vm.findClass RJx4a65c = some m.cls := hown
  have hl : lv_has ls 2 [(0, .ref a0), (1, .int x1)] := hl
  unfold f_Jx4a65c_get_915e3 at Hf
  refine lv_iload_n hx hb dJx4a65c_get_915e3_0 rfl (lv_at hl 1 rfl) ?_
  refine lv_aload_n hx hb dJx4a65c_get_915e3_1 rfl (lv_at hl 0 rfl) ?_
  obtain ⟨hk_a0, Hf⟩ := c_g_some Hf
  refine fg_0_2 hx hb hts hown hK hP hk_a0 lkf_Jx4a65c_48 dJx4a65c_get_915e3_2 ?_
  obtain ⟨r5, T5, hq5, Hf⟩ := c_c_some Hf
  refine r_cX (n := 2) (As := [.int x1, .int (st_fi S 2 a0)]) (rest := []) ⟨hx, hb, hml, hown, hts⟩ (s_J15_checkIndex_7cf53 l X hq5) lkm_Jx4a65c_118 (by decide +kernel) dJx4a65c_get_915e3_5 rfl rfl ⟨Nat.le_of_ble_eq_true rfl, Nat.le_of_ble_eq_true rfl⟩ rfl hl.1 (Nat.le_of_ble_eq_true rfl) ⟨Nat.le_of_ble_eq_true rfl, Nat.le_of_ble_eq_true rfl⟩ hK hRO hA hP hS (fun H locs hP hS => ?_)
  refine W.eq (g2 := F0 m 8 ls [.int r5]) rfl ?_
  refine lv_pop hx hb dJx4a65c_get_915e3_8 rfl ?_
  refine lv_aload_n hx hb dJx4a65c_get_915e3_9 rfl (lv_at hl 0 rfl) ?_
  refine lv_iload_n hx hb dJx4a65c_get_915e3_10 rfl (lv_at hl 1 rfl) ?_
  obtain ⟨hk_a0, Hf⟩ := c_g_some Hf
  obtain ⟨r11, T11, hq11, Hf⟩ := c_c_some Hf
  refine r_cV (n := 1) (As := [.int x1]) (rest := []) ⟨hx, hb, hml, hown, hts⟩ (s_Jx4a65c_elementData_915e3 l X hq11) lkm_Jx4a65c_123 (by decide +kernel) rfl (by decide) dJx4a65c_get_915e3_11 rfl rfl ⟨Nat.le_of_ble_eq_true rfl, Nat.le_of_ble_eq_true rfl⟩ hk_a0 rfl hl.1 (Nat.le_of_ble_eq_true rfl) ⟨Nat.le_of_ble_eq_true rfl, Nat.le_of_ble_eq_true rfl⟩ hK hRO hA hP hS (fun H locs hP hS => ?_)
  obtain ⟨p11, ep11, Hf⟩ := c_n_some Hf
  subst ep11
  refine W.eq (g2 := F0 m 14 ls [.ref p11]) rfl ?_
  cases Hf
  exact r_aret (v := (some p11)) hx hb hr rfl (Or.inl ⟨_, rfl⟩) hlocks dJx4a65c_get_915e3_14 (Nat.le_of_ble_eq_true rfl) (Nat.le_of_ble_eq_true rfl) hP hS

set_option maxRecDepth 100000 in
def f_J6_bitCount_0f7a4 (S : st_T) (x0 : Int32) : Option (Int32 × st_T) :=
  (c_l (x0 - ((((x0 : Int32).toUInt32 >>> ((1 : Int32).toUInt32 &&& Int32.toUInt32 31)).toInt32) &&& 1431655765)) (fun (z0_9 : Int32) => (c_l ((z0_9 &&& 858993459) + ((((z0_9 : Int32).toUInt32 >>> ((2 : Int32).toUInt32 &&& Int32.toUInt32 31)).toInt32) &&& 858993459)) (fun (z0_23 : Int32) => (c_l ((z0_23 + (((z0_23 : Int32).toUInt32 >>> ((4 : Int32).toUInt32 &&& Int32.toUInt32 31)).toInt32)) &&& 252645135) (fun (z0_33 : Int32) => (c_l (z0_33 + (((z0_33 : Int32).toUInt32 >>> ((8 : Int32).toUInt32 &&& Int32.toUInt32 31)).toInt32)) (fun (z0_40 : Int32) => (c_l (z0_40 + (((z0_40 : Int32).toUInt32 >>> ((16 : Int32).toUInt32 &&& Int32.toUInt32 31)).toInt32)) (fun (z0_47 : Int32) => (some ((z0_47 &&& 63), S))))))))))))
set_option maxRecDepth 100000 in
set_option maxHeartbeats 4000000 in
theorem s_J6_bitCount_0f7a4 (l : Launch) (X : st_I) {S SE : st_T} {x0 : Int32} {rr : Int32} (Hf : f_J6_bitCount_0f7a4 S x0 = some (rr, SE)) : Met l yJ6_bitCount_0f7a4 (Cond.code yJ6_bitCount_0f7a4 cJ6_bitCount_0f7a4 1 (some .int) :: lw_g) { frames := 0, cells := 0, slots := 0, locals := 0 } (st_P X S [.int x0]) (st_Q X (st_A S) (some (.int rr)) SE) 0 0 (st_A S) := by
  refine st_ofW (by decide) (Nat.le_of_ble_eq_true rfl) ?_
  intro p e s m args below meth c hx hb hr hml hlocks hnm hts hown hK hRO hA hP hS ls hl
  have hown : s.vm.findClass RJ6 = some m.cls := hown
  have hl : lv_has ls 1 [(0, .int x0)] := hl
  unfold f_J6_bitCount_0f7a4 at Hf
  refine lv_iload_n hx hb dJ6_bitCount_0f7a4_0 rfl (lv_at hl 0 rfl) ?_
  refine lv_iload_n hx hb dJ6_bitCount_0f7a4_1 rfl (lv_at hl 0 rfl) ?_
  refine lv_iconst (v := 1) hx hb dJ6_bitCount_0f7a4_2 (by decide) ?_
  refine lv_iushr (v := ((x0 : Int32).toUInt32 >>> ((1 : Int32).toUInt32 &&& Int32.toUInt32 31)).toInt32) hx hb dJ6_bitCount_0f7a4_3 rfl ?_
  refine lv_ldcw hx hb hown (hts _ lkc_J6_265) dJ6_bitCount_0f7a4_4 ?_
  refine lv_iand hx hb dJ6_bitCount_0f7a4_7 ?_
  refine lv_isub hx hb dJ6_bitCount_0f7a4_8 ?_
  refine lv_topi (fun z0_9 ez0_9 => ?_)
  have Hf := c_l_ren Hf ez0_9
  refine lv_istore_n (lv' := [(0, .int z0_9)]) hx hb dJ6_bitCount_0f7a4_9 rfl hl (by decide) rfl (fun ls hl => ?_)
  refine lv_iload_n hx hb dJ6_bitCount_0f7a4_10 rfl (lv_at hl 0 rfl) ?_
  refine lv_ldcw hx hb hown (hts _ lkc_J6_266) dJ6_bitCount_0f7a4_11 ?_
  refine lv_iand hx hb dJ6_bitCount_0f7a4_14 ?_
  refine lv_iload_n hx hb dJ6_bitCount_0f7a4_15 rfl (lv_at hl 0 rfl) ?_
  refine lv_iconst (v := 2) hx hb dJ6_bitCount_0f7a4_16 (by decide) ?_
  refine lv_iushr (v := ((z0_9 : Int32).toUInt32 >>> ((2 : Int32).toUInt32 &&& Int32.toUInt32 31)).toInt32) hx hb dJ6_bitCount_0f7a4_17 rfl ?_
  refine lv_ldcw hx hb hown (hts _ lkc_J6_266) dJ6_bitCount_0f7a4_18 ?_
  refine lv_iand hx hb dJ6_bitCount_0f7a4_21 ?_
  refine lv_iadd hx hb dJ6_bitCount_0f7a4_22 ?_
  refine lv_topi (fun z0_23 ez0_23 => ?_)
  have Hf := c_l_ren Hf ez0_23
  refine lv_istore_n (lv' := [(0, .int z0_23)]) hx hb dJ6_bitCount_0f7a4_23 rfl hl (by decide) rfl (fun ls hl => ?_)
  refine lv_iload_n hx hb dJ6_bitCount_0f7a4_24 rfl (lv_at hl 0 rfl) ?_
  refine lv_iload_n hx hb dJ6_bitCount_0f7a4_25 rfl (lv_at hl 0 rfl) ?_
  refine lv_iconst (v := 4) hx hb dJ6_bitCount_0f7a4_26 (by decide) ?_
  refine lv_iushr (v := ((z0_23 : Int32).toUInt32 >>> ((4 : Int32).toUInt32 &&& Int32.toUInt32 31)).toInt32) hx hb dJ6_bitCount_0f7a4_27 rfl ?_
  refine lv_iadd hx hb dJ6_bitCount_0f7a4_28 ?_
  refine lv_ldcw hx hb hown (hts _ lkc_J6_267) dJ6_bitCount_0f7a4_29 ?_
  refine lv_iand hx hb dJ6_bitCount_0f7a4_32 ?_
  refine lv_topi (fun z0_33 ez0_33 => ?_)
  have Hf := c_l_ren Hf ez0_33
  refine lv_istore_n (lv' := [(0, .int z0_33)]) hx hb dJ6_bitCount_0f7a4_33 rfl hl (by decide) rfl (fun ls hl => ?_)
  refine lv_iload_n hx hb dJ6_bitCount_0f7a4_34 rfl (lv_at hl 0 rfl) ?_
  refine lv_iload_n hx hb dJ6_bitCount_0f7a4_35 rfl (lv_at hl 0 rfl) ?_
  refine lv_bipush (v := 8) hx hb dJ6_bitCount_0f7a4_36 (by decide) ?_
  refine lv_iushr (v := ((z0_33 : Int32).toUInt32 >>> ((8 : Int32).toUInt32 &&& Int32.toUInt32 31)).toInt32) hx hb dJ6_bitCount_0f7a4_38 rfl ?_
  refine lv_iadd hx hb dJ6_bitCount_0f7a4_39 ?_
  refine lv_topi (fun z0_40 ez0_40 => ?_)
  have Hf := c_l_ren Hf ez0_40
  refine lv_istore_n (lv' := [(0, .int z0_40)]) hx hb dJ6_bitCount_0f7a4_40 rfl hl (by decide) rfl (fun ls hl => ?_)
  refine lv_iload_n hx hb dJ6_bitCount_0f7a4_41 rfl (lv_at hl 0 rfl) ?_
  refine lv_iload_n hx hb dJ6_bitCount_0f7a4_42 rfl (lv_at hl 0 rfl) ?_
  refine lv_bipush (v := 16) hx hb dJ6_bitCount_0f7a4_43 (by decide) ?_
  refine lv_iushr (v := ((z0_40 : Int32).toUInt32 >>> ((16 : Int32).toUInt32 &&& Int32.toUInt32 31)).toInt32) hx hb dJ6_bitCount_0f7a4_45 rfl ?_
  refine lv_iadd hx hb dJ6_bitCount_0f7a4_46 ?_
  refine lv_topi (fun z0_47 ez0_47 => ?_)
  have Hf := c_l_ren Hf ez0_47
  refine lv_istore_n (lv' := [(0, .int z0_47)]) hx hb dJ6_bitCount_0f7a4_47 rfl hl (by decide) rfl (fun ls hl => ?_)
  refine lv_iload_n hx hb dJ6_bitCount_0f7a4_48 rfl (lv_at hl 0 rfl) ?_
  refine lv_bipush (v := 63) hx hb dJ6_bitCount_0f7a4_49 (by decide) ?_
  refine lv_iand hx hb dJ6_bitCount_0f7a4_51 ?_
  cases Hf
  exact r_iret hx hb hr rfl hlocks dJ6_bitCount_0f7a4_52 (Nat.le_of_ble_eq_true rfl) (Nat.le_of_ble_eq_true rfl) hP hS

set_option maxRecDepth 100000 in
def f_X8_isWithin (S : st_T) (x0 : Int32) (x1 : Int32) (x2 : Int32) : Option (Int32 × st_T) :=
  (c_i (x0 < x1) (some (0, S)) (c_i (x2 < x0) (some (0, S)) (some (1, S))))
set_option maxRecDepth 100000 in
set_option maxHeartbeats 4000000 in
theorem s_X8_isWithin (l : Launch) (X : st_I) {S SE : st_T} {x0 : Int32} {x1 : Int32} {x2 : Int32} {rr : Int32} (Hf : f_X8_isWithin S x0 x1 x2 = some (rr, SE)) : Met l yX8_isWithin (Cond.code yX8_isWithin cX8_isWithin 3 (some .boolean) :: lw_g) { frames := 0, cells := 0, slots := 0, locals := 0 } (st_P X S [.int x0, .int x1, .int x2]) (st_Q X (st_A S) (some (.int rr)) SE) 0 0 (st_A S) := by
  refine st_ofW (by decide) (Nat.le_of_ble_eq_true rfl) ?_
  intro p e s m args below meth c hx hb hr hml hlocks hnm hts hown hK hRO hA hP hS ls hl
  have hown : s.vm.findClass RX8 = some m.cls := hown
  have hl : lv_has ls 3 [(0, .int x0), (1, .int x1), (2, .int x2)] := hl
  unfold f_X8_isWithin at Hf
  refine lv_iload_n hx hb dX8_isWithin_0 rfl (lv_at hl 0 rfl) ?_
  refine lv_iload_n hx hb dX8_isWithin_1 rfl (lv_at hl 1 rfl) ?_
  refine lv_icmp_lt hx hb dX8_isWithin_2 (tgt := 14) (by decide) (fun hc => ?_) (fun hc => ?_)
  · have Hf := c_i_t Hf hc
    refine lv_iconst (v := 0) hx hb dX8_isWithin_14 (by decide) ?_
    cases Hf
    exact r_zret hx hb hr rfl (Or.inl rfl) hlocks dX8_isWithin_15 (Nat.le_of_ble_eq_true rfl) (Nat.le_of_ble_eq_true rfl) hP hS
  have Hf := c_i_f Hf hc
  refine lv_iload_n hx hb dX8_isWithin_5 rfl (lv_at hl 0 rfl) ?_
  refine lv_iload_n hx hb dX8_isWithin_6 rfl (lv_at hl 2 rfl) ?_
  refine lv_icmp_gt hx hb dX8_isWithin_7 (tgt := 14) (by decide) (fun hc => ?_) (fun hc => ?_)
  · have Hf := c_i_t Hf hc
    refine lv_iconst (v := 0) hx hb dX8_isWithin_14 (by decide) ?_
    cases Hf
    exact r_zret hx hb hr rfl (Or.inl rfl) hlocks dX8_isWithin_15 (Nat.le_of_ble_eq_true rfl) (Nat.le_of_ble_eq_true rfl) hP hS
  have Hf := c_i_f Hf hc
  refine lv_iconst (v := 1) hx hb dX8_isWithin_10 (by decide) ?_
  refine lv_goto hx hb dX8_isWithin_11 (tgt := 15) (by decide) ?_
  cases Hf
  exact r_zret hx hb hr rfl (Or.inr rfl) hlocks dX8_isWithin_15 (Nat.le_of_ble_eq_true rfl) (Nat.le_of_ble_eq_true rfl) hP hS

set_option maxRecDepth 100000 in
def f_X8_isHouseAndDay (S : st_T) (x0 : Int32) (x1 : Int32) : Option (Int32 × st_T) :=
  (c_c (f_X8_isWithin S x0 0 9) (fun (r4 : Int32) (T4 : st_T) => (c_i (r4 = 0) (some (0, T4)) (c_c (f_X8_isWithin T4 x1 0 6) (fun (r14 : Int32) (T14 : st_T) => (c_i (r14 = 0) (some (0, T14)) (some (1, T14))))))))
set_option maxRecDepth 100000 in
set_option maxHeartbeats 4000000 in
theorem s_X8_isHouseAndDay (l : Launch) (X : st_I) {S SE : st_T} {x0 : Int32} {x1 : Int32} {rr : Int32} (Hf : f_X8_isHouseAndDay S x0 x1 = some (rr, SE)) : Met l yX8_isHouseAndDay (Cond.code yX8_isHouseAndDay cX8_isHouseAndDay 2 (some .boolean) :: lw_g) { frames := 1, cells := 0, slots := 0, locals := 22 } (st_P X S [.int x0, .int x1]) (st_Q X (st_A S) (some (.int rr)) SE) 0 0 (st_A S) := by
  refine st_ofW (by decide) (Nat.le_of_ble_eq_true rfl) ?_
  intro p e s m args below meth c hx hb hr hml hlocks hnm hts hown hK hRO hA hP hS ls hl
  have hown : s.vm.findClass RX8 = some m.cls := hown
  have hl : lv_has ls 2 [(0, .int x0), (1, .int x1)] := hl
  unfold f_X8_isHouseAndDay at Hf
  refine lv_iload_n hx hb dX8_isHouseAndDay_0 rfl (lv_at hl 0 rfl) ?_
  refine lv_iconst (v := 0) hx hb dX8_isHouseAndDay_1 (by decide) ?_
  refine lv_bipush (v := 9) hx hb dX8_isHouseAndDay_2 (by decide) ?_
  obtain ⟨r4, T4, hq4, Hf⟩ := c_c_some Hf
  refine r_cS (n := 3) (As := [.int x0, .int 0, .int 9]) (rest := []) ⟨hx, hb, hml, hown, hts⟩ (s_X8_isWithin l X hq4) lkm_X8_69 (by decide +kernel) dX8_isHouseAndDay_4 rfl rfl ⟨Nat.le_of_ble_eq_true rfl, Nat.le_of_ble_eq_true rfl⟩ rfl hl.1 (Nat.le_of_ble_eq_true rfl) ⟨Nat.le_of_ble_eq_true rfl, Nat.le_of_ble_eq_true rfl⟩ hK hRO hA hP hS (fun H locs hP hS => ?_)
  refine W.eq (g2 := F0 m 7 ls [.int r4]) rfl ?_
  refine lv_if_eq hx hb dX8_isHouseAndDay_7 (tgt := 24) (by decide) (fun hc => ?_) (fun hc => ?_)
  · have Hf := c_i_t Hf hc
    refine lv_iconst (v := 0) hx hb dX8_isHouseAndDay_24 (by decide) ?_
    cases Hf
    exact r_zret hx hb hr rfl (Or.inl rfl) hlocks dX8_isHouseAndDay_25 (Nat.le_of_ble_eq_true rfl) (Nat.le_of_ble_eq_true rfl) hP hS
  have Hf := c_i_f Hf hc
  refine lv_iload_n hx hb dX8_isHouseAndDay_10 rfl (lv_at hl 1 rfl) ?_
  refine lv_iconst (v := 0) hx hb dX8_isHouseAndDay_11 (by decide) ?_
  refine lv_bipush (v := 6) hx hb dX8_isHouseAndDay_12 (by decide) ?_
  obtain ⟨r14, T14, hq14, Hf⟩ := c_c_some Hf
  refine r_cS (n := 3) (As := [.int x1, .int 0, .int 6]) (rest := []) ⟨hx, hb, hml, hown, hts⟩ (s_X8_isWithin l X hq14) lkm_X8_69 (by decide +kernel) dX8_isHouseAndDay_14 rfl rfl ⟨Nat.le_of_ble_eq_true rfl, Nat.le_of_ble_eq_true rfl⟩ rfl hl.1 (Nat.le_of_ble_eq_true rfl) ⟨Nat.le_of_ble_eq_true rfl, Nat.le_of_ble_eq_true rfl⟩ hK hRO hA hP hS (fun H locs hP hS => ?_)
  refine W.eq (g2 := F0 m 17 ls [.int r14]) rfl ?_
  refine lv_if_eq hx hb dX8_isHouseAndDay_17 (tgt := 24) (by decide) (fun hc => ?_) (fun hc => ?_)
  · have Hf := c_i_t Hf hc
    refine lv_iconst (v := 0) hx hb dX8_isHouseAndDay_24 (by decide) ?_
    cases Hf
    exact r_zret hx hb hr rfl (Or.inl rfl) hlocks dX8_isHouseAndDay_25 (Nat.le_of_ble_eq_true rfl) (Nat.le_of_ble_eq_true rfl) hP hS
  have Hf := c_i_f Hf hc
  refine lv_iconst (v := 1) hx hb dX8_isHouseAndDay_20 (by decide) ?_
  refine lv_goto hx hb dX8_isHouseAndDay_21 (tgt := 25) (by decide) ?_
  cases Hf
  exact r_zret hx hb hr rfl (Or.inr rfl) hlocks dX8_isHouseAndDay_25 (Nat.le_of_ble_eq_true rfl) (Nat.le_of_ble_eq_true rfl) hP hS

set_option maxRecDepth 100000 in
def f_X8_holds (S : st_T) (x0 : Int32) (x1 : Int32) : Option (Int32 × st_T) :=
  (c_i (((x0 >>> (x1 &&& 31)) &&& 1) = 0) (some (0, S)) (some (1, S)))
set_option maxRecDepth 100000 in
set_option maxHeartbeats 4000000 in
theorem s_X8_holds (l : Launch) (X : st_I) {S SE : st_T} {x0 : Int32} {x1 : Int32} {rr : Int32} (Hf : f_X8_holds S x0 x1 = some (rr, SE)) : Met l yX8_holds (Cond.code yX8_holds cX8_holds 2 (some .boolean) :: lw_g) { frames := 0, cells := 0, slots := 0, locals := 0 } (st_P X S [.int x0, .int x1]) (st_Q X (st_A S) (some (.int rr)) SE) 0 0 (st_A S) := by
  refine st_ofW (by decide) (Nat.le_of_ble_eq_true rfl) ?_
  intro p e s m args below meth c hx hb hr hml hlocks hnm hts hown hK hRO hA hP hS ls hl
  have hown : s.vm.findClass RX8 = some m.cls := hown
  have hl : lv_has ls 2 [(0, .int x0), (1, .int x1)] := hl
  unfold f_X8_holds at Hf
  refine lv_iload_n hx hb dX8_holds_0 rfl (lv_at hl 0 rfl) ?_
  refine lv_iload_n hx hb dX8_holds_1 rfl (lv_at hl 1 rfl) ?_
  refine lv_ishr hx hb dX8_holds_2 ?_
  refine lv_iconst (v := 1) hx hb dX8_holds_3 (by decide) ?_
  refine lv_iand hx hb dX8_holds_4 ?_
  refine lv_if_eq hx hb dX8_holds_5 (tgt := 12) (by decide) (fun hc => ?_) (fun hc => ?_)
  · have Hf := c_i_t Hf hc
    refine lv_iconst (v := 0) hx hb dX8_holds_12 (by decide) ?_
    cases Hf
    exact r_zret hx hb hr rfl (Or.inl rfl) hlocks dX8_holds_13 (Nat.le_of_ble_eq_true rfl) (Nat.le_of_ble_eq_true rfl) hP hS
  have Hf := c_i_f Hf hc
  refine lv_iconst (v := 1) hx hb dX8_holds_8 (by decide) ?_
  refine lv_goto hx hb dX8_holds_9 (tgt := 13) (by decide) ?_
  cases Hf
  exact r_zret hx hb hr rfl (Or.inr rfl) hlocks dX8_holds_13 (Nat.le_of_ble_eq_true rfl) (Nat.le_of_ble_eq_true rfl) hP hS

set_option maxRecDepth 100000 in
def f_X7_putBelow (S : st_T) (a0 : Nat) (x1 : Int32) (x2 : Int32) : Option (Unit × st_T) :=
  (c_c (f_X8_isWithin S x1 1 200) (fun (r5 : Int32) (T5 : st_T) => (c_i (r5 = 0) (some ((), T5)) (c_g (st_K T5 a0 = 9) (c_n (st_fr T5 800 a0) (fun (q12 : Nat) => (c_g (st_K T5 q12 = 20) (c_g (c_in x1 (st_ln T5 q12)) (c_l (st_wi T5 q12 (x1 : Int32).toNatClampNeg x2) (fun (S_17 : st_T) => (some ((), S_17))))))))))))
set_option maxRecDepth 100000 in
set_option maxHeartbeats 4000000 in
theorem s_X7_putBelow (l : Launch) (X : st_I) {S SE : st_T} {a0 : Nat} {x1 : Int32} {x2 : Int32} {rr : Unit} (Hf : f_X7_putBelow S a0 x1 x2 = some (rr, SE)) : Met l yX7_putBelow (Cond.code yX7_putBelow cX7_putBelow 3 (none) :: lw_g) { frames := 1, cells := 0, slots := 0, locals := 22 } (st_P X S [.ref a0, .int x1, .int x2]) (st_Q X (st_A S) none SE) 0 0 (st_A S) := by
  refine st_ofW (by decide) (Nat.le_of_ble_eq_true rfl) ?_
  intro p e s m args below meth c hx hb hr hml hlocks hnm hts hown hK hRO hA hP hS ls hl
  have hown : s.vm.findClass RX7 = some m.cls := hown
  have hl : lv_has ls 3 [(0, .ref a0), (1, .int x1), (2, .int x2)] := hl
  unfold f_X7_putBelow at Hf
  refine lv_iload_n hx hb dX7_putBelow_0 rfl (lv_at hl 1 rfl) ?_
  refine lv_iconst (v := 1) hx hb dX7_putBelow_1 (by decide) ?_
  refine lv_sipush (v := 200) hx hb dX7_putBelow_2 (by decide) ?_
  obtain ⟨r5, T5, hq5, Hf⟩ := c_c_some Hf
  refine r_cN (n := 3) (As := [.int x1, .int 1, .int 200]) (rest := []) ⟨hx, hb, hml, hown, hts⟩ (s_X8_isWithin l X hq5) lkm_X7_15 lkn_X7_15 (by decide +kernel) dX7_putBelow_5 rfl rfl ⟨Nat.le_of_ble_eq_true rfl, Nat.le_of_ble_eq_true rfl⟩ rfl hl.1 (Nat.le_of_ble_eq_true rfl) ⟨Nat.le_of_ble_eq_true rfl, Nat.le_of_ble_eq_true rfl⟩ hK hRO hA hP hS (fun H locs hP hS => ?_)
  refine W.eq (g2 := F0 m 8 ls [.int r5]) rfl ?_
  refine lv_if_eq hx hb dX7_putBelow_8 (tgt := 18) (by decide) (fun hc => ?_) (fun hc => ?_)
  · have Hf := c_i_t Hf hc
    cases Hf
    exact r_vret hx hb hr rfl hlocks dX7_putBelow_18 (Nat.le_of_ble_eq_true rfl) (Nat.le_of_ble_eq_true rfl) hP hS
  have Hf := c_i_f Hf hc
  refine lv_aload_n hx hb dX7_putBelow_11 rfl (lv_at hl 0 rfl) ?_
  obtain ⟨hk_a0, Hf⟩ := c_g_some Hf
  obtain ⟨q12, hq12, Hf⟩ := c_n_some Hf
  refine fg_8_0 hx hb hts hown hK hP hk_a0 lkf_X7_9 hq12 dX7_putBelow_12 ?_
  refine lv_iload_n hx hb dX7_putBelow_15 rfl (lv_at hl 1 rfl) ?_
  refine lv_iload_n hx hb dX7_putBelow_16 rfl (lv_at hl 2 rfl) ?_
  obtain ⟨hk_q12, Hf⟩ := c_g_some Hf
  obtain ⟨hi17, Hf⟩ := c_g_some Hf
  refine r_iast hx hb hK hP hS hk_q12 hi17 dX7_putBelow_17 (fun H locs hP hS => ?_)
  obtain ⟨S_17, eS_17, Hf⟩ := c_l_ex Hf
  have hP : st_HP X (st_A S) S_17 H := by rw [eS_17]; exact hP
  cases Hf
  exact r_vret hx hb hr rfl hlocks dX7_putBelow_18 (Nat.le_of_ble_eq_true rfl) (Nat.le_of_ble_eq_true rfl) hP hS

def j_X7_isUnder_42 (x2 : Int32) (y3_5 : Int32) (S42 : st_T) : Option (Int32 × st_T) :=
  (c_i (y3_5 = x2) (some (1, S42)) (some (0, S42)))
def b_X7_isUnder_5 (a0 : Nat) (x2 : Int32) (rec5 : st_T × Int32 × Int32 → Option (Int32 × st_T)) (q : st_T × Int32 × Int32) : Option (Int32 × st_T) :=
  (fun (S5 : st_T) (y3_5 : Int32) (y4_5 : Int32) =>
  (c_i (200 ≤ y4_5) (j_X7_isUnder_42 x2 y3_5 S5) (c_i (y3_5 ≤ x2) (j_X7_isUnder_42 x2 y3_5 S5) (c_i (y3_5 ≤ 0) (j_X7_isUnder_42 x2 y3_5 S5) (c_i (200 < y3_5) (j_X7_isUnder_42 x2 y3_5 S5) (c_g (st_K S5 a0 = 9) (c_n (st_fr S5 800 a0) (fun (q30 : Nat) => (c_g (st_K S5 q30 = 20) (c_g (c_in y3_5 (st_ln S5 q30)) (c_l (st_ri S5 q30 (y3_5 : Int32).toNatClampNeg) (fun (z3_35 : Int32) => (rec5 (S5, z3_35, (y4_5 + 1))))))))))))))) q.1 q.2.1 q.2.2
set_option maxRecDepth 100000 in
def f_X7_isUnder (S : st_T) (a0 : Nat) (x1 : Int32) (x2 : Int32) : Option (Int32 × st_T) :=
  (c_w (b_X7_isUnder_5 a0 x2) c_N (S, x1, 0))
set_option maxRecDepth 100000 in
set_option maxHeartbeats 4000000 in
theorem s_X7_isUnder (l : Launch) (X : st_I) {S SE : st_T} {a0 : Nat} {x1 : Int32} {x2 : Int32} {rr : Int32} (Hf : f_X7_isUnder S a0 x1 x2 = some (rr, SE)) : Met l yX7_isUnder (Cond.code yX7_isUnder cX7_isUnder 5 (some .boolean) :: lw_g) { frames := 0, cells := 0, slots := 0, locals := 0 } (st_P X S [.ref a0, .int x1, .int x2]) (st_Q X (st_A S) (some (.int rr)) SE) 0 0 (st_A S) := by
  refine st_ofW (by decide) (Nat.le_of_ble_eq_true rfl) ?_
  intro p e s m args below meth c hx hb hr hml hlocks hnm hts hown hK hRO hA hP hS ls hl
  have hown : s.vm.findClass RX7 = some m.cls := hown
  have hl : lv_has ls 5 [(0, .ref a0), (1, .int x1), (2, .int x2)] := hl
  unfold f_X7_isUnder at Hf
  refine lv_iload_n hx hb dX7_isUnder_0 rfl (lv_at hl 1 rfl) ?_
  refine lv_istore_n (lv' := [(3, .int x1), (0, .ref a0), (1, .int x1), (2, .int x2)]) hx hb dX7_isUnder_1 rfl hl (by decide) rfl (fun ls hl => ?_)
  refine lv_iconst (v := 0) hx hb dX7_isUnder_2 (by decide) ?_
  refine lv_istore (lv' := [(4, .int 0), (3, .int x1), (0, .ref a0), (1, .int x1), (2, .int x2)]) hx hb dX7_isUnder_3 hl (by decide) rfl (fun ls hl => ?_)
  refine (c_w_ind (P := fun (q : st_T × Int32 × Int32) => ∀ (H : Heap) (locs : List Loc) (ls : Array Slot), st_HP X (st_A S) q.1 H → va_S (st_A S) s.heap H locs → lv_has ls 5 [(0, .ref a0), (2, .int x2), (3, .int q.2.1), (4, .int q.2.2)] → W p l e { frames := 0, cells := 0, slots := 0, locals := 0 } s m args below meth c H locs 0 0 (MQ below (st_Q X (st_A S) (some (.int rr)) SE) args s 0 0 (st_A S)) (F0 m 5 ls [])) ?_ _ _ Hf) _ _ _ hP hS (lv_sub hl [2, 4, 1, 0] rfl)
  intro rec5 hrec5 q Hf H locs ls hP hS hl
  obtain ⟨S5, y3_5, y4_5⟩ := q
  unfold b_X7_isUnder_5 at Hf
  try dsimp only at Hf
  try dsimp only at hP
  try dsimp only at hl
  try dsimp only
  refine lv_iload hx hb dX7_isUnder_5 (lv_at hl 3 rfl) ?_
  refine lv_sipush (v := 200) hx hb dX7_isUnder_7 (by decide) ?_
  have hJ42 : ∀ (S42 : st_T), j_X7_isUnder_42 x2 y3_5 S42 = some (rr, SE) → ∀ (H : Heap) (locs : List Loc) (ls : Array Slot), st_HP X (st_A S) S42 H → va_S (st_A S) s.heap H locs → lv_has ls 5 [(2, .int x2), (3, .int y3_5)] → W p l e { frames := 0, cells := 0, slots := 0, locals := 0 } s m args below meth c H locs 0 0 (MQ below (st_Q X (st_A S) (some (.int rr)) SE) args s 0 0 (st_A S)) (F0 m 42 ls []) := by
    intro S42 Hf H locs ls hP hS hl
    unfold j_X7_isUnder_42 at Hf
    refine lv_iload_n hx hb dX7_isUnder_42 rfl (lv_at hl 1 rfl) ?_
    refine lv_iload_n hx hb dX7_isUnder_43 rfl (lv_at hl 0 rfl) ?_
    refine lv_icmp_ne hx hb dX7_isUnder_44 (tgt := 51) (by decide) (fun hc => ?_) (fun hc => ?_)
    · have Hf := c_i_f Hf hc
      refine lv_iconst (v := 0) hx hb dX7_isUnder_51 (by decide) ?_
      cases Hf
      exact r_zret hx hb hr rfl (Or.inl rfl) hlocks dX7_isUnder_52 (Nat.le_of_ble_eq_true rfl) (Nat.le_of_ble_eq_true rfl) hP hS
    have Hf := c_i_t Hf hc
    refine lv_iconst (v := 1) hx hb dX7_isUnder_47 (by decide) ?_
    refine lv_goto hx hb dX7_isUnder_48 (tgt := 52) (by decide) ?_
    cases Hf
    exact r_zret hx hb hr rfl (Or.inr rfl) hlocks dX7_isUnder_52 (Nat.le_of_ble_eq_true rfl) (Nat.le_of_ble_eq_true rfl) hP hS
  refine lv_icmp_ge hx hb dX7_isUnder_10 (tgt := 42) (by decide) (fun hc => ?_) (fun hc => ?_)
  · have Hf := c_i_t Hf hc
    exact hJ42 S5 Hf _ _ _ hP hS (lv_sub hl [1, 2] rfl)
  have Hf := c_i_f Hf hc
  refine lv_iload_n hx hb dX7_isUnder_13 rfl (lv_at hl 2 rfl) ?_
  refine lv_iload_n hx hb dX7_isUnder_14 rfl (lv_at hl 1 rfl) ?_
  refine lv_icmp_le hx hb dX7_isUnder_15 (tgt := 42) (by decide) (fun hc => ?_) (fun hc => ?_)
  · have Hf := c_i_t Hf hc
    exact hJ42 S5 Hf _ _ _ hP hS (lv_sub hl [1, 2] rfl)
  have Hf := c_i_f Hf hc
  refine lv_iload_n hx hb dX7_isUnder_18 rfl (lv_at hl 2 rfl) ?_
  refine lv_if_le hx hb dX7_isUnder_19 (tgt := 42) (by decide) (fun hc => ?_) (fun hc => ?_)
  · have Hf := c_i_t Hf hc
    exact hJ42 S5 Hf _ _ _ hP hS (lv_sub hl [1, 2] rfl)
  have Hf := c_i_f Hf hc
  refine lv_iload_n hx hb dX7_isUnder_22 rfl (lv_at hl 2 rfl) ?_
  refine lv_sipush (v := 200) hx hb dX7_isUnder_23 (by decide) ?_
  refine lv_icmp_gt hx hb dX7_isUnder_26 (tgt := 42) (by decide) (fun hc => ?_) (fun hc => ?_)
  · have Hf := c_i_t Hf hc
    exact hJ42 S5 Hf _ _ _ hP hS (lv_sub hl [1, 2] rfl)
  have Hf := c_i_f Hf hc
  refine lv_aload_n hx hb dX7_isUnder_29 rfl (lv_at hl 0 rfl) ?_
  obtain ⟨hk_a0, Hf⟩ := c_g_some Hf
  obtain ⟨q30, hq30, Hf⟩ := c_n_some Hf
  refine fg_8_0 hx hb hts hown hK hP hk_a0 lkf_X7_9 hq30 dX7_isUnder_30 ?_
  refine lv_iload_n hx hb dX7_isUnder_33 rfl (lv_at hl 2 rfl) ?_
  obtain ⟨hk_q30, Hf⟩ := c_g_some Hf
  obtain ⟨hi34, Hf⟩ := c_g_some Hf
  refine r_iald hx hb hK hP hk_q30 hi34 dX7_isUnder_34 ?_
  refine lv_topi (fun z3_35 ez3_35 => ?_)
  have Hf := c_l_ren Hf ez3_35
  refine lv_istore_n (lv' := [(3, .int z3_35), (0, .ref a0), (2, .int x2), (4, .int y4_5)]) hx hb dX7_isUnder_35 rfl hl (by decide) rfl (fun ls hl => ?_)
  refine lv_iinc (v := (y4_5 + 1)) (lv' := [(4, .int (y4_5 + 1)), (3, .int z3_35), (0, .ref a0), (2, .int x2)]) hx hb dX7_isUnder_36 hl (k := 3) rfl rfl (by decide) rfl (fun ls hl => ?_)
  refine lv_goto hx hb dX7_isUnder_39 (tgt := 5) (by decide) ?_
  exact hrec5 (S5, z3_35, (y4_5 + 1)) Hf _ _ _ hP hS (lv_sub hl [2, 3, 1, 0] rfl)

set_option maxRecDepth 100000 in
def f_X2_length (S : st_T) (a0 : Nat) : Option (Int32 × st_T) :=
  (c_g (st_K S a0 = 4) (some ((((st_fi S 301 a0) - (st_fi S 300 a0)) + 1), S)))
set_option maxRecDepth 100000 in
set_option maxHeartbeats 4000000 in
theorem s_X2_length (l : Launch) (X : st_I) {S SE : st_T} {a0 : Nat} {rr : Int32} (Hf : f_X2_length S a0 = some (rr, SE)) : Met l yX2_length (Cond.code yX2_length cX2_length 1 (some .int) :: lw_g) { frames := 0, cells := 0, slots := 0, locals := 0 } (st_P X S [.ref a0]) (st_Q X (st_A S) (some (.int rr)) SE) 0 0 (st_A S) := by
  refine st_ofW (by decide) (Nat.le_of_ble_eq_true rfl) ?_
  intro p e s m args below meth c hx hb hr hml hlocks hnm hts hown hK hRO hA hP hS ls hl
  have hown : s.vm.findClass RX2 = some m.cls := hown
  have hl : lv_has ls 1 [(0, .ref a0)] := hl
  unfold f_X2_length at Hf
  refine lv_aload_n hx hb dX2_length_0 rfl (lv_at hl 0 rfl) ?_
  obtain ⟨hk_a0, Hf⟩ := c_g_some Hf
  refine fg_3_1 hx hb hts hown hK hP hk_a0 lkf_X2_24 dX2_length_1 ?_
  refine lv_aload_n hx hb dX2_length_4 rfl (lv_at hl 0 rfl) ?_
  refine fg_3_0 hx hb hts hown hK hP hk_a0 lkf_X2_21 dX2_length_5 ?_
  refine lv_isub hx hb dX2_length_8 ?_
  refine lv_iconst (v := 1) hx hb dX2_length_9 (by decide) ?_
  refine lv_iadd hx hb dX2_length_10 ?_
  cases Hf
  exact r_iret hx hb hr rfl hlocks dX2_length_11 (Nat.le_of_ble_eq_true rfl) (Nat.le_of_ble_eq_true rfl) hP hS

def j_X2_isInCell_47 (S47 : st_T) : Option (Int32 × st_T) :=
  (some (1, S47))
def j_X2_isInCell_36 (u0_18 : Int32) (S36 : st_T) (u0_36 : Int32) : Option (Int32 × st_T) :=
  (c_i (u0_18 = 0) (c_i (u0_36 = 0) (some (0, S36)) (j_X2_isInCell_47 S36)) (j_X2_isInCell_47 S36))
def j_X2_isInCell_35 (u0_18 : Int32) (S35 : st_T) : Option (Int32 × st_T) :=
  (j_X2_isInCell_36 u0_18 S35 0)
def j_X2_isInCell_18 (a0 : Nat) (x1 : Int32) (x2 : Int32) (S18 : st_T) (u0_18 : Int32) : Option (Int32 × st_T) :=
  (c_i (x2 = 0) (j_X2_isInCell_35 u0_18 S18) (c_g (st_K S18 a0 = 4) (c_i ((st_fi S18 307 a0) = x1) (j_X2_isInCell_36 u0_18 S18 1) (j_X2_isInCell_35 u0_18 S18))))
def j_X2_isInCell_17 (a0 : Nat) (x1 : Int32) (x2 : Int32) (S17 : st_T) : Option (Int32 × st_T) :=
  (j_X2_isInCell_18 a0 x1 x2 S17 0)
set_option maxRecDepth 100000 in
def f_X2_isInCell (S : st_T) (a0 : Nat) (x1 : Int32) (x2 : Int32) : Option (Int32 × st_T) :=
  (c_i (x2 = 1) (j_X2_isInCell_17 a0 x1 x2 S) (c_g (st_K S a0 = 4) (c_i ((st_fi S 306 a0) = x1) (j_X2_isInCell_18 a0 x1 x2 S 1) (j_X2_isInCell_17 a0 x1 x2 S))))
set_option maxRecDepth 100000 in
set_option maxHeartbeats 4000000 in
theorem s_X2_isInCell (l : Launch) (X : st_I) {S SE : st_T} {a0 : Nat} {x1 : Int32} {x2 : Int32} {rr : Int32} (Hf : f_X2_isInCell S a0 x1 x2 = some (rr, SE)) : Met l yX2_isInCell (Cond.code yX2_isInCell cX2_isInCell 5 (some .boolean) :: lw_g) { frames := 0, cells := 0, slots := 0, locals := 0 } (st_P X S [.ref a0, .int x1, .int x2]) (st_Q X (st_A S) (some (.int rr)) SE) 0 0 (st_A S) := by
  refine st_ofW (by decide) (Nat.le_of_ble_eq_true rfl) ?_
  intro p e s m args below meth c hx hb hr hml hlocks hnm hts hown hK hRO hA hP hS ls hl
  have hown : s.vm.findClass RX2 = some m.cls := hown
  have hl : lv_has ls 5 [(0, .ref a0), (1, .int x1), (2, .int x2)] := hl
  unfold f_X2_isInCell at Hf
  refine lv_iload_n hx hb dX2_isInCell_0 rfl (lv_at hl 2 rfl) ?_
  refine lv_iconst (v := 1) hx hb dX2_isInCell_1 (by decide) ?_
  have hJ18 : ∀ (S18 : st_T) (u0_18 : Int32), j_X2_isInCell_18 a0 x1 x2 S18 u0_18 = some (rr, SE) → ∀ (H : Heap) (locs : List Loc) (ls : Array Slot), st_HP X (st_A S) S18 H → va_S (st_A S) s.heap H locs → lv_has ls 5 [(0, .ref a0), (1, .int x1), (2, .int x2)] → W p l e { frames := 0, cells := 0, slots := 0, locals := 0 } s m args below meth c H locs 0 0 (MQ below (st_Q X (st_A S) (some (.int rr)) SE) args s 0 0 (st_A S)) (F0 m 18 ls [.int u0_18]) := by
    intro S18 u0_18 Hf H locs ls hP hS hl
    unfold j_X2_isInCell_18 at Hf
    refine lv_istore_n (lv' := [(3, .int u0_18), (0, .ref a0), (1, .int x1), (2, .int x2)]) hx hb dX2_isInCell_18 rfl hl (by decide) rfl (fun ls hl => ?_)
    refine lv_iload_n hx hb dX2_isInCell_19 rfl (lv_at hl 3 rfl) ?_
    have hJ36 : ∀ (S36 : st_T) (u0_36 : Int32), j_X2_isInCell_36 u0_18 S36 u0_36 = some (rr, SE) → ∀ (H : Heap) (locs : List Loc) (ls : Array Slot), st_HP X (st_A S) S36 H → va_S (st_A S) s.heap H locs → lv_has ls 5 [(3, .int u0_18)] → W p l e { frames := 0, cells := 0, slots := 0, locals := 0 } s m args below meth c H locs 0 0 (MQ below (st_Q X (st_A S) (some (.int rr)) SE) args s 0 0 (st_A S)) (F0 m 36 ls [.int u0_36]) := by
      intro S36 u0_36 Hf H locs ls hP hS hl
      unfold j_X2_isInCell_36 at Hf
      refine lv_istore (lv' := [(4, .int u0_36), (3, .int u0_18)]) hx hb dX2_isInCell_36 hl (by decide) rfl (fun ls hl => ?_)
      refine lv_iload_n hx hb dX2_isInCell_38 rfl (lv_at hl 1 rfl) ?_
      have hJ47 : ∀ (S47 : st_T), j_X2_isInCell_47 S47 = some (rr, SE) → ∀ (H : Heap) (locs : List Loc) (ls : Array Slot), st_HP X (st_A S) S47 H → va_S (st_A S) s.heap H locs → lv_has ls 5 [] → W p l e { frames := 0, cells := 0, slots := 0, locals := 0 } s m args below meth c H locs 0 0 (MQ below (st_Q X (st_A S) (some (.int rr)) SE) args s 0 0 (st_A S)) (F0 m 47 ls []) := by
        intro S47 Hf H locs ls hP hS hl
        unfold j_X2_isInCell_47 at Hf
        refine lv_iconst (v := 1) hx hb dX2_isInCell_47 (by decide) ?_
        refine lv_goto hx hb dX2_isInCell_48 (tgt := 52) (by decide) ?_
        cases Hf
        exact r_zret hx hb hr rfl (Or.inr rfl) hlocks dX2_isInCell_52 (Nat.le_of_ble_eq_true rfl) (Nat.le_of_ble_eq_true rfl) hP hS
      refine lv_if_ne hx hb dX2_isInCell_39 (tgt := 47) (by decide) (fun hc => ?_) (fun hc => ?_)
      · have Hf := c_i_f Hf hc
        exact hJ47 S36 Hf _ _ _ hP hS (lv_sub hl [] rfl)
      have Hf := c_i_t Hf hc
      refine lv_iload hx hb dX2_isInCell_42 (lv_at hl 0 rfl) ?_
      refine lv_if_eq hx hb dX2_isInCell_44 (tgt := 51) (by decide) (fun hc => ?_) (fun hc => ?_)
      · have Hf := c_i_t Hf hc
        refine lv_iconst (v := 0) hx hb dX2_isInCell_51 (by decide) ?_
        cases Hf
        exact r_zret hx hb hr rfl (Or.inl rfl) hlocks dX2_isInCell_52 (Nat.le_of_ble_eq_true rfl) (Nat.le_of_ble_eq_true rfl) hP hS
      have Hf := c_i_f Hf hc
      exact hJ47 S36 Hf _ _ _ hP hS (lv_sub hl [] rfl)
    have hJ35 : ∀ (S35 : st_T), j_X2_isInCell_35 u0_18 S35 = some (rr, SE) → ∀ (H : Heap) (locs : List Loc) (ls : Array Slot), st_HP X (st_A S) S35 H → va_S (st_A S) s.heap H locs → lv_has ls 5 [(3, .int u0_18)] → W p l e { frames := 0, cells := 0, slots := 0, locals := 0 } s m args below meth c H locs 0 0 (MQ below (st_Q X (st_A S) (some (.int rr)) SE) args s 0 0 (st_A S)) (F0 m 35 ls []) := by
      intro S35 Hf H locs ls hP hS hl
      unfold j_X2_isInCell_35 at Hf
      refine lv_iconst (v := 0) hx hb dX2_isInCell_35 (by decide) ?_
      exact hJ36 S35 0 Hf _ _ _ hP hS (lv_sub hl [0] rfl)
    refine lv_if_eq hx hb dX2_isInCell_20 (tgt := 35) (by decide) (fun hc => ?_) (fun hc => ?_)
    · have Hf := c_i_t Hf hc
      exact hJ35 S18 Hf _ _ _ hP hS (lv_sub hl [0] rfl)
    have Hf := c_i_f Hf hc
    refine lv_aload_n hx hb dX2_isInCell_23 rfl (lv_at hl 1 rfl) ?_
    obtain ⟨hk_a0, Hf⟩ := c_g_some Hf
    refine fg_3_7 hx hb hts hown hK hP hk_a0 lkf_X2_15 dX2_isInCell_24 ?_
    refine lv_iload_n hx hb dX2_isInCell_27 rfl (lv_at hl 2 rfl) ?_
    refine lv_icmp_ne hx hb dX2_isInCell_28 (tgt := 35) (by decide) (fun hc => ?_) (fun hc => ?_)
    · have Hf := c_i_f Hf hc
      exact hJ35 S18 Hf _ _ _ hP hS (lv_sub hl [0] rfl)
    have Hf := c_i_t Hf hc
    refine lv_iconst (v := 1) hx hb dX2_isInCell_31 (by decide) ?_
    refine lv_goto hx hb dX2_isInCell_32 (tgt := 36) (by decide) ?_
    exact hJ36 S18 1 Hf _ _ _ hP hS (lv_sub hl [0] rfl)
  have hJ17 : ∀ (S17 : st_T), j_X2_isInCell_17 a0 x1 x2 S17 = some (rr, SE) → ∀ (H : Heap) (locs : List Loc) (ls : Array Slot), st_HP X (st_A S) S17 H → va_S (st_A S) s.heap H locs → lv_has ls 5 [(0, .ref a0), (1, .int x1), (2, .int x2)] → W p l e { frames := 0, cells := 0, slots := 0, locals := 0 } s m args below meth c H locs 0 0 (MQ below (st_Q X (st_A S) (some (.int rr)) SE) args s 0 0 (st_A S)) (F0 m 17 ls []) := by
    intro S17 Hf H locs ls hP hS hl
    unfold j_X2_isInCell_17 at Hf
    refine lv_iconst (v := 0) hx hb dX2_isInCell_17 (by decide) ?_
    exact hJ18 S17 0 Hf _ _ _ hP hS (lv_sub hl [0, 1, 2] rfl)
  refine lv_icmp_eq hx hb dX2_isInCell_2 (tgt := 17) (by decide) (fun hc => ?_) (fun hc => ?_)
  · have Hf := c_i_t Hf hc
    exact hJ17 S Hf _ _ _ hP hS (lv_sub hl [0, 1, 2] rfl)
  have Hf := c_i_f Hf hc
  refine lv_aload_n hx hb dX2_isInCell_5 rfl (lv_at hl 0 rfl) ?_
  obtain ⟨hk_a0, Hf⟩ := c_g_some Hf
  refine fg_3_6 hx hb hts hown hK hP hk_a0 lkf_X2_9 dX2_isInCell_6 ?_
  refine lv_iload_n hx hb dX2_isInCell_9 rfl (lv_at hl 1 rfl) ?_
  refine lv_icmp_ne hx hb dX2_isInCell_10 (tgt := 17) (by decide) (fun hc => ?_) (fun hc => ?_)
  · have Hf := c_i_f Hf hc
    exact hJ17 S Hf _ _ _ hP hS (lv_sub hl [0, 1, 2] rfl)
  have Hf := c_i_t Hf hc
  refine lv_iconst (v := 1) hx hb dX2_isInCell_13 (by decide) ?_
  refine lv_goto hx hb dX2_isInCell_14 (tgt := 18) (by decide) ?_
  exact hJ18 S 1 Hf _ _ _ hP hS (lv_sub hl [0, 1, 2] rfl)

set_option maxRecDepth 100000 in
def f_X2_tensInCommon (S : st_T) (a0 : Nat) (x1 : Nat) : Option (Int32 × st_T) :=
  (c_g (st_K S a0 = 4) (c_g (st_K S x1 = 4) (some ((if 0 < (((if (st_fi S 301 x1) < (st_fi S 301 a0) then (st_fi S 301 x1) else (st_fi S 301 a0)) - (if (st_fi S 300 a0) < (st_fi S 300 x1) then (st_fi S 300 x1) else (st_fi S 300 a0))) + 1) then (((if (st_fi S 301 x1) < (st_fi S 301 a0) then (st_fi S 301 x1) else (st_fi S 301 a0)) - (if (st_fi S 300 a0) < (st_fi S 300 x1) then (st_fi S 300 x1) else (st_fi S 300 a0))) + 1) else 0), S))))
set_option maxRecDepth 100000 in
set_option maxHeartbeats 4000000 in
theorem s_X2_tensInCommon (l : Launch) (X : st_I) {S SE : st_T} {a0 : Nat} {x1 : Nat} {rr : Int32} (Hf : f_X2_tensInCommon S a0 x1 = some (rr, SE)) : Met l yX2_tensInCommon (Cond.code yX2_tensInCommon cX2_tensInCommon 2 (some .int) :: lw_g) { frames := 1, cells := 0, slots := 0, locals := 24 } (st_P X S [.ref a0, .ref x1]) (st_Q X (st_A S) (some (.int rr)) SE) 0 0 (st_A S) := by
  refine st_ofW (by decide) (Nat.le_of_ble_eq_true rfl) ?_
  intro p e s m args below meth c hx hb hr hml hlocks hnm hts hown hK hRO hA hP hS ls hl
  have hown : s.vm.findClass RX2 = some m.cls := hown
  have hl : lv_has ls 2 [(0, .ref a0), (1, .ref x1)] := hl
  unfold f_X2_tensInCommon at Hf
  refine lv_iconst (v := 0) hx hb dX2_tensInCommon_0 (by decide) ?_
  refine lv_aload_n hx hb dX2_tensInCommon_1 rfl (lv_at hl 0 rfl) ?_
  obtain ⟨hk_a0, Hf⟩ := c_g_some Hf
  refine fg_3_1 hx hb hts hown hK hP hk_a0 lkf_X2_24 dX2_tensInCommon_2 ?_
  refine lv_aload_n hx hb dX2_tensInCommon_5 rfl (lv_at hl 1 rfl) ?_
  obtain ⟨hk_x1, Hf⟩ := c_g_some Hf
  refine fg_3_1 hx hb hts hown hK hP hk_x1 lkf_X2_24 dX2_tensInCommon_6 ?_
  refine va_mmin hx hb (hml.trans hl.1.symm) hown (hts _ (lg_1 523 rfl rfl)) (hts _ (lg_1 438 rfl rfl)) (hts _ (lg_1 80 rfl rfl)) (hts _ (lg_1 439 rfl rfl)) (Nat.le_of_ble_eq_true rfl) (Nat.le_of_ble_eq_true rfl) (Nat.le_of_ble_eq_true rfl) (Nat.le_of_ble_eq_true rfl) dX2_tensInCommon_9 ?_
  refine lv_aload_n hx hb dX2_tensInCommon_12 rfl (lv_at hl 0 rfl) ?_
  refine fg_3_0 hx hb hts hown hK hP hk_a0 lkf_X2_21 dX2_tensInCommon_13 ?_
  refine lv_aload_n hx hb dX2_tensInCommon_16 rfl (lv_at hl 1 rfl) ?_
  refine fg_3_0 hx hb hts hown hK hP hk_x1 lkf_X2_21 dX2_tensInCommon_17 ?_
  refine va_mmax hx hb (hml.trans hl.1.symm) hown (hts _ (lg_1 524 rfl rfl)) (hts _ (lg_1 406 rfl rfl)) (hts _ (lg_1 80 rfl rfl)) (hts _ (lg_1 407 rfl rfl)) (Nat.le_of_ble_eq_true rfl) (Nat.le_of_ble_eq_true rfl) (Nat.le_of_ble_eq_true rfl) (Nat.le_of_ble_eq_true rfl) dX2_tensInCommon_20 ?_
  refine lv_isub hx hb dX2_tensInCommon_23 ?_
  refine lv_iconst (v := 1) hx hb dX2_tensInCommon_24 (by decide) ?_
  refine lv_iadd hx hb dX2_tensInCommon_25 ?_
  refine va_mmax hx hb (hml.trans hl.1.symm) hown (hts _ (lg_1 524 rfl rfl)) (hts _ (lg_1 406 rfl rfl)) (hts _ (lg_1 80 rfl rfl)) (hts _ (lg_1 407 rfl rfl)) (Nat.le_of_ble_eq_true rfl) (Nat.le_of_ble_eq_true rfl) (Nat.le_of_ble_eq_true rfl) (Nat.le_of_ble_eq_true rfl) dX2_tensInCommon_26 ?_
  cases Hf
  exact r_iret hx hb hr rfl hlocks dX2_tensInCommon_29 (Nat.le_of_ble_eq_true rfl) (Nat.le_of_ble_eq_true rfl) hP hS

def j_X4_addBytes_68 (rec3 : st_T × Int32 → Option (Unit × st_T)) (y3_3 : Int32) (S68 : st_T) : Option (Unit × st_T) :=
  (rec3 (S68, (y3_3 + (-8))))
def j_X4_addBytes_36 (a0 : Nat) (rec3 : st_T × Int32 → Option (Unit × st_T)) (y3_3 : Int32) (z4_15 : Int32) (S36 : st_T) : Option (Unit × st_T) :=
  (c_g (st_K S36 a0 = 6) (c_i (800 ≤ (st_fi S36 501 a0)) (j_X4_addBytes_68 rec3 y3_3 S36) (c_n (st_fr S36 500 a0) (fun (q47 : Nat) => (c_g (st_K S36 q47 = 22) (c_g (c_in (st_fi S36 501 a0) (st_ln S36 q47)) (c_l (st_wi S36 q47 ((st_fi S36 501 a0) : Int32).toNatClampNeg (vp_nar .char (((z4_15 : Int32).toUInt32 % 65536).toInt32))) (fun (S_57 : st_T) => (c_l (st_pi S_57 501 a0 ((st_fi S_57 501 a0) + 1)) (fun (S_65 : st_T) => (j_X4_addBytes_68 rec3 y3_3 S_65)))))))))))
def b_X4_addBytes_3 (a0 : Nat) (x1 : Int64) (rec3 : st_T × Int32 → Option (Unit × st_T)) (q : st_T × Int32) : Option (Unit × st_T) :=
  (fun (S3 : st_T) (y3_3 : Int32) =>
  (c_i (y3_3 < 0) (some ((), S3)) (c_l ((((((x1 : Int64).toUInt64 >>> ((y3_3 : Int32).toInt64.toUInt64 &&& Int64.toUInt64 63)).toInt64) &&& 255) : Int64).toInt32) (fun (z4_15 : Int32) => (c_i (z4_15 = 10) (j_X4_addBytes_36 a0 rec3 y3_3 z4_15 S3) (c_c (f_X8_isWithin S3 z4_15 32 126) (fun (r30 : Int32) (T30 : st_T) => (c_i (r30 = 0) (j_X4_addBytes_68 rec3 y3_3 T30) (j_X4_addBytes_36 a0 rec3 y3_3 z4_15 T30))))))))) q.1 q.2
set_option maxRecDepth 100000 in
def f_X4_addBytes (S : st_T) (a0 : Nat) (x1 : Int64) : Option (Unit × st_T) :=
  (c_w (b_X4_addBytes_3 a0 x1) c_N (S, 56))
set_option maxRecDepth 100000 in
set_option maxHeartbeats 4000000 in
theorem s_X4_addBytes (l : Launch) (X : st_I) {S SE : st_T} {a0 : Nat} {x1 : Int64} {rr : Unit} (Hf : f_X4_addBytes S a0 x1 = some (rr, SE)) : Met l yX4_addBytes (Cond.code yX4_addBytes cX4_addBytes 5 (none) :: lw_g) { frames := 1, cells := 0, slots := 0, locals := 22 } (st_P X S [.ref a0, .long x1]) (st_Q X (st_A S) none SE) 0 0 (st_A S) := by
  refine st_ofW (by decide) (Nat.le_of_ble_eq_true rfl) ?_
  intro p e s m args below meth c hx hb hr hml hlocks hnm hts hown hK hRO hA hP hS ls hl
  have hown : s.vm.findClass RX4 = some m.cls := hown
  have hl : lv_has ls 5 [(0, .ref a0), (1, .long x1)] := hl
  unfold f_X4_addBytes at Hf
  refine lv_bipush (v := 56) hx hb dX4_addBytes_0 (by decide) ?_
  refine lv_istore_n (lv' := [(3, .int 56), (0, .ref a0), (1, .long x1)]) hx hb dX4_addBytes_2 rfl hl (by decide) rfl (fun ls hl => ?_)
  refine (c_w_ind (P := fun (q : st_T × Int32) => ∀ (H : Heap) (locs : List Loc) (ls : Array Slot), st_HP X (st_A S) q.1 H → va_S (st_A S) s.heap H locs → lv_has ls 5 [(0, .ref a0), (1, .long x1), (3, .int q.2)] → W p l e { frames := 1, cells := 0, slots := 0, locals := 22 } s m args below meth c H locs 0 0 (MQ below (st_Q X (st_A S) none SE) args s 0 0 (st_A S)) (F0 m 3 ls [])) ?_ _ _ Hf) _ _ _ hP hS (lv_sub hl [1, 2, 0] rfl)
  intro rec3 hrec3 q Hf H locs ls hP hS hl
  obtain ⟨S3, y3_3⟩ := q
  unfold b_X4_addBytes_3 at Hf
  try dsimp only at Hf
  try dsimp only at hP
  try dsimp only at hl
  try dsimp only
  refine lv_iload_n hx hb dX4_addBytes_3 rfl (lv_at hl 2 rfl) ?_
  refine lv_if_lt hx hb dX4_addBytes_4 (tgt := 74) (by decide) (fun hc => ?_) (fun hc => ?_)
  · have Hf := c_i_t Hf hc
    cases Hf
    exact r_vret hx hb hr rfl hlocks dX4_addBytes_74 (Nat.le_of_ble_eq_true rfl) (Nat.le_of_ble_eq_true rfl) hP hS
  have Hf := c_i_f Hf hc
  refine lv_lload_n hx hb dX4_addBytes_7 rfl (lv_at hl 1 rfl) ?_
  refine lv_iload_n hx hb dX4_addBytes_8 rfl (lv_at hl 2 rfl) ?_
  refine lv_lushr (v := ((x1 : Int64).toUInt64 >>> ((y3_3 : Int32).toInt64.toUInt64 &&& Int64.toUInt64 63)).toInt64) hx hb dX4_addBytes_9 rfl ?_
  refine lv_ldc2 hx hb hown (hts _ lkc_X4_19) dX4_addBytes_10 ?_
  refine lv_land hx hb dX4_addBytes_13 ?_
  refine lv_l2i (v := (((((x1 : Int64).toUInt64 >>> ((y3_3 : Int32).toInt64.toUInt64 &&& Int64.toUInt64 63)).toInt64) &&& 255) : Int64).toInt32) hx hb dX4_addBytes_14 rfl ?_
  refine lv_topi (fun z4_15 ez4_15 => ?_)
  have Hf := c_l_ren Hf ez4_15
  refine lv_istore (lv' := [(4, .int z4_15), (0, .ref a0), (1, .long x1), (3, .int y3_3)]) hx hb dX4_addBytes_15 hl (by decide) rfl (fun ls hl => ?_)
  refine lv_iload hx hb dX4_addBytes_17 (lv_at hl 0 rfl) ?_
  refine lv_bipush (v := 10) hx hb dX4_addBytes_19 (by decide) ?_
  have hJ68 : ∀ (S68 : st_T), j_X4_addBytes_68 rec3 y3_3 S68 = some (rr, SE) → ∀ (H : Heap) (locs : List Loc) (ls : Array Slot), st_HP X (st_A S) S68 H → va_S (st_A S) s.heap H locs → lv_has ls 5 [(0, .ref a0), (1, .long x1), (3, .int y3_3)] → W p l e { frames := 1, cells := 0, slots := 0, locals := 22 } s m args below meth c H locs 0 0 (MQ below (st_Q X (st_A S) none SE) args s 0 0 (st_A S)) (F0 m 68 ls []) := by
    intro S68 Hf H locs ls hP hS hl
    unfold j_X4_addBytes_68 at Hf
    refine lv_iinc (v := (y3_3 + (-8))) (lv' := [(3, .int (y3_3 + (-8))), (0, .ref a0), (1, .long x1)]) hx hb dX4_addBytes_68 hl (k := 2) rfl rfl (by decide) rfl (fun ls hl => ?_)
    refine lv_goto hx hb dX4_addBytes_71 (tgt := 3) (by decide) ?_
    exact hrec3 (S68, (y3_3 + (-8))) Hf _ _ _ hP hS (lv_sub hl [1, 2, 0] rfl)
  have hJ36 : ∀ (S36 : st_T), j_X4_addBytes_36 a0 rec3 y3_3 z4_15 S36 = some (rr, SE) → ∀ (H : Heap) (locs : List Loc) (ls : Array Slot), st_HP X (st_A S) S36 H → va_S (st_A S) s.heap H locs → lv_has ls 5 [(0, .ref a0), (1, .long x1), (3, .int y3_3), (4, .int z4_15)] → W p l e { frames := 1, cells := 0, slots := 0, locals := 22 } s m args below meth c H locs 0 0 (MQ below (st_Q X (st_A S) none SE) args s 0 0 (st_A S)) (F0 m 36 ls []) := by
    intro S36 Hf H locs ls hP hS hl
    unfold j_X4_addBytes_36 at Hf
    refine lv_aload_n hx hb dX4_addBytes_36 rfl (lv_at hl 0 rfl) ?_
    obtain ⟨hk_a0, Hf⟩ := c_g_some Hf
    refine fg_5_1 hx hb hts hown hK hP hk_a0 lkf_X4_15 dX4_addBytes_37 ?_
    refine lv_sipush (v := 800) hx hb dX4_addBytes_40 (by decide) ?_
    refine lv_icmp_ge hx hb dX4_addBytes_43 (tgt := 68) (by decide) (fun hc => ?_) (fun hc => ?_)
    · have Hf := c_i_t Hf hc
      exact hJ68 S36 Hf _ _ _ hP hS (lv_sub hl [0, 1, 2] rfl)
    have Hf := c_i_f Hf hc
    refine lv_aload_n hx hb dX4_addBytes_46 rfl (lv_at hl 0 rfl) ?_
    obtain ⟨q47, hq47, Hf⟩ := c_n_some Hf
    refine fg_5_0 hx hb hts hown hK hP hk_a0 lkf_X4_9 hq47 dX4_addBytes_47 ?_
    refine lv_aload_n hx hb dX4_addBytes_50 rfl (lv_at hl 0 rfl) ?_
    refine fg_5_1 hx hb hts hown hK hP hk_a0 lkf_X4_15 dX4_addBytes_51 ?_
    refine lv_iload hx hb dX4_addBytes_54 (lv_at hl 3 rfl) ?_
    refine lv_i2c (v := ((z4_15 : Int32).toUInt32 % 65536).toInt32) hx hb dX4_addBytes_56 rfl ?_
    obtain ⟨hk_q47, Hf⟩ := c_g_some Hf
    obtain ⟨hi57, Hf⟩ := c_g_some Hf
    refine r_cast hx hb hK hP hS hk_q47 hi57 dX4_addBytes_57 (fun H locs hP hS => ?_)
    obtain ⟨S_57, eS_57, Hf⟩ := c_l_ex Hf
    have hP : st_HP X (st_A S) S_57 H := by rw [eS_57]; exact hP
    refine lv_aload_n hx hb dX4_addBytes_58 rfl (lv_at hl 0 rfl) ?_
    refine lv_dup hx hb dX4_addBytes_59 rfl ?_
    have hk_a0 : st_K S_57 a0 = 6 := by rw [kp_wi eS_57]; exact hk_a0
    refine fg_5_1 hx hb hts hown hK hP hk_a0 lkf_X4_15 dX4_addBytes_60 ?_
    refine lv_iconst (v := 1) hx hb dX4_addBytes_63 (by decide) ?_
    refine lv_iadd hx hb dX4_addBytes_64 ?_
    refine fp_5_1 hx hb hts hown hK hP hS hk_a0 lkf_X4_15 dX4_addBytes_65 (fun H locs hP hS => ?_)
    obtain ⟨S_65, eS_65, Hf⟩ := c_l_ex Hf
    have hP : st_HP X (st_A S) S_65 H := by rw [eS_65]; exact hP
    exact hJ68 S_65 Hf _ _ _ hP hS (lv_sub hl [0, 1, 2] rfl)
  refine lv_icmp_eq hx hb dX4_addBytes_21 (tgt := 36) (by decide) (fun hc => ?_) (fun hc => ?_)
  · have Hf := c_i_t Hf hc
    exact hJ36 S3 Hf _ _ _ hP hS (lv_sub hl [1, 2, 3, 0] rfl)
  have Hf := c_i_f Hf hc
  refine lv_iload hx hb dX4_addBytes_24 (lv_at hl 0 rfl) ?_
  refine lv_bipush (v := 32) hx hb dX4_addBytes_26 (by decide) ?_
  refine lv_bipush (v := 126) hx hb dX4_addBytes_28 (by decide) ?_
  obtain ⟨r30, T30, hq30, Hf⟩ := c_c_some Hf
  refine r_cN (n := 3) (As := [.int z4_15, .int 32, .int 126]) (rest := []) ⟨hx, hb, hml, hown, hts⟩ (s_X8_isWithin l X hq30) lkm_X4_21 lkn_X4_21 (by decide +kernel) dX4_addBytes_30 rfl rfl ⟨Nat.le_of_ble_eq_true rfl, Nat.le_of_ble_eq_true rfl⟩ rfl hl.1 (Nat.le_of_ble_eq_true rfl) ⟨Nat.le_of_ble_eq_true rfl, Nat.le_of_ble_eq_true rfl⟩ hK hRO hA hP hS (fun H locs hP hS => ?_)
  refine W.eq (g2 := F0 m 33 ls [.int r30]) rfl ?_
  refine lv_if_eq hx hb dX4_addBytes_33 (tgt := 68) (by decide) (fun hc => ?_) (fun hc => ?_)
  · have Hf := c_i_t Hf hc
    exact hJ68 T30 Hf _ _ _ hP hS (lv_sub hl [1, 2, 3] rfl)
  have Hf := c_i_f Hf hc
  exact hJ36 T30 Hf _ _ _ hP hS (lv_sub hl [1, 2, 3, 0] rfl)

def b_X4_endOfRun_6 (a0 : Nat) (x2 : Int32) (x3 : Int32) (rec6 : st_T × Int32 × Int32 → Option (Int32 × st_T)) (q : st_T × Int32 × Int32) : Option (Int32 × st_T) :=
  (fun (S6 : st_T) (y4_6 : Int32) (y5_6 : Int32) =>
  (c_g (st_K S6 a0 = 6) (c_i ((st_fi S6 501 a0) ≤ y5_6) (some (y4_6, S6)) (c_i (800 ≤ y5_6) (some (y4_6, S6)) (c_n (st_fr S6 500 a0) (fun (q24 : Nat) => (c_g (st_K S6 q24 = 22) (c_g (c_in y5_6 (st_ln S6 q24)) (c_c (f_X8_isWithin S6 (st_ri S6 q24 (y5_6 : Int32).toNatClampNeg) x2 x3) (fun (r32 : Int32) (T32 : st_T) => (c_i (r32 = 0) (some (y4_6, T32)) (c_l (y5_6 + 1) (fun (z4_45 : Int32) => (rec6 (T32, z4_45, (y5_6 + 1)))))))))))))))) q.1 q.2.1 q.2.2
set_option maxRecDepth 100000 in
def f_X4_endOfRun (S : st_T) (a0 : Nat) (x1 : Int32) (x2 : Int32) (x3 : Int32) : Option (Int32 × st_T) :=
  (c_w (b_X4_endOfRun_6 a0 x2 x3) c_N (S, x1, x1))
set_option maxRecDepth 100000 in
set_option maxHeartbeats 4000000 in
theorem s_X4_endOfRun (l : Launch) (X : st_I) {S SE : st_T} {a0 : Nat} {x1 : Int32} {x2 : Int32} {x3 : Int32} {rr : Int32} (Hf : f_X4_endOfRun S a0 x1 x2 x3 = some (rr, SE)) : Met l yX4_endOfRun (Cond.code yX4_endOfRun cX4_endOfRun 6 (some .int) :: lw_g) { frames := 1, cells := 0, slots := 0, locals := 22 } (st_P X S [.ref a0, .int x1, .int x2, .int x3]) (st_Q X (st_A S) (some (.int rr)) SE) 0 0 (st_A S) := by
  refine st_ofW (by decide) (Nat.le_of_ble_eq_true rfl) ?_
  intro p e s m args below meth c hx hb hr hml hlocks hnm hts hown hK hRO hA hP hS ls hl
  have hown : s.vm.findClass RX4 = some m.cls := hown
  have hl : lv_has ls 6 [(0, .ref a0), (1, .int x1), (2, .int x2), (3, .int x3)] := hl
  unfold f_X4_endOfRun at Hf
  refine lv_iload_n hx hb dX4_endOfRun_0 rfl (lv_at hl 1 rfl) ?_
  refine lv_istore (lv' := [(4, .int x1), (0, .ref a0), (1, .int x1), (2, .int x2), (3, .int x3)]) hx hb dX4_endOfRun_1 hl (by decide) rfl (fun ls hl => ?_)
  refine lv_iload_n hx hb dX4_endOfRun_3 rfl (lv_at hl 2 rfl) ?_
  refine lv_istore (lv' := [(5, .int x1), (4, .int x1), (0, .ref a0), (1, .int x1), (2, .int x2), (3, .int x3)]) hx hb dX4_endOfRun_4 hl (by decide) rfl (fun ls hl => ?_)
  refine (c_w_ind (P := fun (q : st_T × Int32 × Int32) => ∀ (H : Heap) (locs : List Loc) (ls : Array Slot), st_HP X (st_A S) q.1 H → va_S (st_A S) s.heap H locs → lv_has ls 6 [(0, .ref a0), (2, .int x2), (3, .int x3), (4, .int q.2.1), (5, .int q.2.2)] → W p l e { frames := 1, cells := 0, slots := 0, locals := 22 } s m args below meth c H locs 0 0 (MQ below (st_Q X (st_A S) (some (.int rr)) SE) args s 0 0 (st_A S)) (F0 m 6 ls [])) ?_ _ _ Hf) _ _ _ hP hS (lv_sub hl [2, 4, 5, 1, 0] rfl)
  intro rec6 hrec6 q Hf H locs ls hP hS hl
  obtain ⟨S6, y4_6, y5_6⟩ := q
  unfold b_X4_endOfRun_6 at Hf
  try dsimp only at Hf
  try dsimp only at hP
  try dsimp only at hl
  try dsimp only
  refine lv_iload hx hb dX4_endOfRun_6 (lv_at hl 4 rfl) ?_
  refine lv_aload_n hx hb dX4_endOfRun_8 rfl (lv_at hl 0 rfl) ?_
  obtain ⟨hk_a0, Hf⟩ := c_g_some Hf
  refine fg_5_1 hx hb hts hown hK hP hk_a0 lkf_X4_15 dX4_endOfRun_9 ?_
  refine lv_icmp_ge hx hb dX4_endOfRun_12 (tgt := 53) (by decide) (fun hc => ?_) (fun hc => ?_)
  · have Hf := c_i_t Hf hc
    refine lv_iload hx hb dX4_endOfRun_53 (lv_at hl 3 rfl) ?_
    cases Hf
    exact r_iret hx hb hr rfl hlocks dX4_endOfRun_55 (Nat.le_of_ble_eq_true rfl) (Nat.le_of_ble_eq_true rfl) hP hS
  have Hf := c_i_f Hf hc
  refine lv_iload hx hb dX4_endOfRun_15 (lv_at hl 4 rfl) ?_
  refine lv_sipush (v := 800) hx hb dX4_endOfRun_17 (by decide) ?_
  refine lv_icmp_ge hx hb dX4_endOfRun_20 (tgt := 53) (by decide) (fun hc => ?_) (fun hc => ?_)
  · have Hf := c_i_t Hf hc
    refine lv_iload hx hb dX4_endOfRun_53 (lv_at hl 3 rfl) ?_
    cases Hf
    exact r_iret hx hb hr rfl hlocks dX4_endOfRun_55 (Nat.le_of_ble_eq_true rfl) (Nat.le_of_ble_eq_true rfl) hP hS
  have Hf := c_i_f Hf hc
  refine lv_aload_n hx hb dX4_endOfRun_23 rfl (lv_at hl 0 rfl) ?_
  obtain ⟨q24, hq24, Hf⟩ := c_n_some Hf
  refine fg_5_0 hx hb hts hown hK hP hk_a0 lkf_X4_9 hq24 dX4_endOfRun_24 ?_
  refine lv_iload hx hb dX4_endOfRun_27 (lv_at hl 4 rfl) ?_
  obtain ⟨hk_q24, Hf⟩ := c_g_some Hf
  obtain ⟨hi29, Hf⟩ := c_g_some Hf
  refine r_cald hx hb hK hP hk_q24 hi29 dX4_endOfRun_29 ?_
  refine lv_iload_n hx hb dX4_endOfRun_30 rfl (lv_at hl 1 rfl) ?_
  refine lv_iload_n hx hb dX4_endOfRun_31 rfl (lv_at hl 2 rfl) ?_
  obtain ⟨r32, T32, hq32, Hf⟩ := c_c_some Hf
  refine r_cN (n := 3) (As := [.int (st_ri S6 q24 (y5_6 : Int32).toNatClampNeg), .int x2, .int x3]) (rest := []) ⟨hx, hb, hml, hown, hts⟩ (s_X8_isWithin l X hq32) lkm_X4_21 lkn_X4_21 (by decide +kernel) dX4_endOfRun_32 rfl rfl ⟨Nat.le_of_ble_eq_true rfl, Nat.le_of_ble_eq_true rfl⟩ rfl hl.1 (Nat.le_of_ble_eq_true rfl) ⟨Nat.le_of_ble_eq_true rfl, Nat.le_of_ble_eq_true rfl⟩ hK hRO hA hP hS (fun H locs hP hS => ?_)
  refine W.eq (g2 := F0 m 35 ls [.int r32]) rfl ?_
  refine lv_if_ne hx hb dX4_endOfRun_35 (tgt := 41) (by decide) (fun hc => ?_) (fun hc => ?_)
  · have Hf := c_i_f Hf hc
    refine lv_iload hx hb dX4_endOfRun_41 (lv_at hl 4 rfl) ?_
    refine lv_iconst (v := 1) hx hb dX4_endOfRun_43 (by decide) ?_
    refine lv_iadd hx hb dX4_endOfRun_44 ?_
    refine lv_topi (fun z4_45 ez4_45 => ?_)
    have Hf := c_l_ren Hf ez4_45
    refine lv_istore (lv' := [(4, .int z4_45), (0, .ref a0), (2, .int x2), (3, .int x3), (5, .int y5_6)]) hx hb dX4_endOfRun_45 hl (by decide) rfl (fun ls hl => ?_)
    refine lv_iinc (v := (y5_6 + 1)) (lv' := [(5, .int (y5_6 + 1)), (4, .int z4_45), (0, .ref a0), (2, .int x2), (3, .int x3)]) hx hb dX4_endOfRun_47 hl (k := 4) rfl rfl (by decide) rfl (fun ls hl => ?_)
    refine lv_goto hx hb dX4_endOfRun_50 (tgt := 6) (by decide) ?_
    exact hrec6 (T32, z4_45, (y5_6 + 1)) Hf _ _ _ hP hS (lv_sub hl [2, 3, 4, 1, 0] rfl)
  have Hf := c_i_t Hf hc
  refine lv_goto hx hb dX4_endOfRun_38 (tgt := 53) (by decide) ?_
  refine lv_iload hx hb dX4_endOfRun_53 (lv_at hl 3 rfl) ?_
  cases Hf
  exact r_iret hx hb hr rfl hlocks dX4_endOfRun_55 (Nat.le_of_ble_eq_true rfl) (Nat.le_of_ble_eq_true rfl) hP hS

set_option maxRecDepth 100000 in
def f_X1_isOf (S : st_T) (a0 : Nat) (x1 : Int32) (x2 : Int32) : Option (Int32 × st_T) :=
  (c_g (st_K S a0 = 3) (c_i ((st_fi S 200 a0) = x1) (c_i ((st_fi S 202 a0) = x2) (some (1, S)) (some (0, S))) (some (0, S))))
set_option maxRecDepth 100000 in
set_option maxHeartbeats 4000000 in
theorem s_X1_isOf (l : Launch) (X : st_I) {S SE : st_T} {a0 : Nat} {x1 : Int32} {x2 : Int32} {rr : Int32} (Hf : f_X1_isOf S a0 x1 x2 = some (rr, SE)) : Met l yX1_isOf (Cond.code yX1_isOf cX1_isOf 3 (some .boolean) :: lw_g) { frames := 0, cells := 0, slots := 0, locals := 0 } (st_P X S [.ref a0, .int x1, .int x2]) (st_Q X (st_A S) (some (.int rr)) SE) 0 0 (st_A S) := by
  refine st_ofW (by decide) (Nat.le_of_ble_eq_true rfl) ?_
  intro p e s m args below meth c hx hb hr hml hlocks hnm hts hown hK hRO hA hP hS ls hl
  have hown : s.vm.findClass RX1 = some m.cls := hown
  have hl : lv_has ls 3 [(0, .ref a0), (1, .int x1), (2, .int x2)] := hl
  unfold f_X1_isOf at Hf
  refine lv_aload_n hx hb dX1_isOf_0 rfl (lv_at hl 0 rfl) ?_
  obtain ⟨hk_a0, Hf⟩ := c_g_some Hf
  refine fg_2_0 hx hb hts hown hK hP hk_a0 lkf_X1_26 dX1_isOf_1 ?_
  refine lv_iload_n hx hb dX1_isOf_4 rfl (lv_at hl 1 rfl) ?_
  refine lv_icmp_ne hx hb dX1_isOf_5 (tgt := 20) (by decide) (fun hc => ?_) (fun hc => ?_)
  · have Hf := c_i_f Hf hc
    refine lv_iconst (v := 0) hx hb dX1_isOf_20 (by decide) ?_
    cases Hf
    exact r_zret hx hb hr rfl (Or.inl rfl) hlocks dX1_isOf_21 (Nat.le_of_ble_eq_true rfl) (Nat.le_of_ble_eq_true rfl) hP hS
  have Hf := c_i_t Hf hc
  refine lv_aload_n hx hb dX1_isOf_8 rfl (lv_at hl 0 rfl) ?_
  refine fg_2_2 hx hb hts hown hK hP hk_a0 lkf_X1_32 dX1_isOf_9 ?_
  refine lv_iload_n hx hb dX1_isOf_12 rfl (lv_at hl 2 rfl) ?_
  refine lv_icmp_ne hx hb dX1_isOf_13 (tgt := 20) (by decide) (fun hc => ?_) (fun hc => ?_)
  · have Hf := c_i_f Hf hc
    refine lv_iconst (v := 0) hx hb dX1_isOf_20 (by decide) ?_
    cases Hf
    exact r_zret hx hb hr rfl (Or.inl rfl) hlocks dX1_isOf_21 (Nat.le_of_ble_eq_true rfl) (Nat.le_of_ble_eq_true rfl) hP hS
  have Hf := c_i_t Hf hc
  refine lv_iconst (v := 1) hx hb dX1_isOf_16 (by decide) ?_
  refine lv_goto hx hb dX1_isOf_17 (tgt := 21) (by decide) ?_
  cases Hf
  exact r_zret hx hb hr rfl (Or.inr rfl) hlocks dX1_isOf_21 (Nat.le_of_ble_eq_true rfl) (Nat.le_of_ble_eq_true rfl) hP hS

set_option maxRecDepth 100000 in
def f_X1_isOfSort (S : st_T) (a0 : Nat) (x1 : Int32) : Option (Int32 × st_T) :=
  (c_i (x1 = 0) (c_g (st_K S a0 = 3) (c_i (4 < (st_fi S 202 a0)) (some (0, S)) (some (1, S)))) (c_i (x1 = 1) (c_g (st_K S a0 = 3) (c_i ((st_fi S 202 a0) ≤ 4) (some (0, S)) (some (1, S)))) (c_g (st_K S a0 = 3) (c_i ((st_fi S 203 a0) = (x1 - 2)) (some (1, S)) (some (0, S))))))
set_option maxRecDepth 100000 in
set_option maxHeartbeats 4000000 in
theorem s_X1_isOfSort (l : Launch) (X : st_I) {S SE : st_T} {a0 : Nat} {x1 : Int32} {rr : Int32} (Hf : f_X1_isOfSort S a0 x1 = some (rr, SE)) : Met l yX1_isOfSort (Cond.code yX1_isOfSort cX1_isOfSort 2 (some .boolean) :: lw_g) { frames := 0, cells := 0, slots := 0, locals := 0 } (st_P X S [.ref a0, .int x1]) (st_Q X (st_A S) (some (.int rr)) SE) 0 0 (st_A S) := by
  refine st_ofW (by decide) (Nat.le_of_ble_eq_true rfl) ?_
  intro p e s m args below meth c hx hb hr hml hlocks hnm hts hown hK hRO hA hP hS ls hl
  have hown : s.vm.findClass RX1 = some m.cls := hown
  have hl : lv_has ls 2 [(0, .ref a0), (1, .int x1)] := hl
  unfold f_X1_isOfSort at Hf
  refine lv_iload_n hx hb dX1_isOfSort_0 rfl (lv_at hl 1 rfl) ?_
  by_cases hs0 : x1 = 0
  · have Hf := c_i_t Hf hs0
    refine lv_lookup hx hb dX1_isOfSort_1 (by decide) (off := 27) (by rw [hs0]; rfl) (tgt := 28) (by decide) ?_
    refine lv_aload_n hx hb dX1_isOfSort_28 rfl (lv_at hl 0 rfl) ?_
    obtain ⟨hk_a0, Hf⟩ := c_g_some Hf
    refine fg_2_2 hx hb hts hown hK hP hk_a0 lkf_X1_32 dX1_isOfSort_29 ?_
    refine lv_iconst (v := 4) hx hb dX1_isOfSort_32 (by decide) ?_
    refine lv_icmp_gt hx hb dX1_isOfSort_33 (tgt := 40) (by decide) (fun hc => ?_) (fun hc => ?_)
    · have Hf := c_i_t Hf hc
      refine lv_iconst (v := 0) hx hb dX1_isOfSort_40 (by decide) ?_
      cases Hf
      exact r_zret hx hb hr rfl (Or.inl rfl) hlocks dX1_isOfSort_41 (Nat.le_of_ble_eq_true rfl) (Nat.le_of_ble_eq_true rfl) hP hS
    have Hf := c_i_f Hf hc
    refine lv_iconst (v := 1) hx hb dX1_isOfSort_36 (by decide) ?_
    refine lv_goto hx hb dX1_isOfSort_37 (tgt := 41) (by decide) ?_
    cases Hf
    exact r_zret hx hb hr rfl (Or.inr rfl) hlocks dX1_isOfSort_41 (Nat.le_of_ble_eq_true rfl) (Nat.le_of_ble_eq_true rfl) hP hS
  have Hf := c_i_f Hf hs0
  by_cases hs1 : x1 = 1
  · have Hf := c_i_t Hf hs1
    refine lv_lookup hx hb dX1_isOfSort_1 (by decide) (off := 41) (by rw [hs1]; rfl) (tgt := 42) (by decide) ?_
    refine lv_aload_n hx hb dX1_isOfSort_42 rfl (lv_at hl 0 rfl) ?_
    obtain ⟨hk_a0, Hf⟩ := c_g_some Hf
    refine fg_2_2 hx hb hts hown hK hP hk_a0 lkf_X1_32 dX1_isOfSort_43 ?_
    refine lv_iconst (v := 4) hx hb dX1_isOfSort_46 (by decide) ?_
    refine lv_icmp_le hx hb dX1_isOfSort_47 (tgt := 54) (by decide) (fun hc => ?_) (fun hc => ?_)
    · have Hf := c_i_t Hf hc
      refine lv_iconst (v := 0) hx hb dX1_isOfSort_54 (by decide) ?_
      cases Hf
      exact r_zret hx hb hr rfl (Or.inl rfl) hlocks dX1_isOfSort_55 (Nat.le_of_ble_eq_true rfl) (Nat.le_of_ble_eq_true rfl) hP hS
    have Hf := c_i_f Hf hc
    refine lv_iconst (v := 1) hx hb dX1_isOfSort_50 (by decide) ?_
    refine lv_goto hx hb dX1_isOfSort_51 (tgt := 55) (by decide) ?_
    cases Hf
    exact r_zret hx hb hr rfl (Or.inr rfl) hlocks dX1_isOfSort_55 (Nat.le_of_ble_eq_true rfl) (Nat.le_of_ble_eq_true rfl) hP hS
  have Hf := c_i_f Hf hs1
  refine lv_lookup hx hb dX1_isOfSort_1 (by decide) (off := 55) (by show Op.lookupswitch.offset [(0, 27), (1, 41)] 55 _ = _; rw [lv_osw (k := 0) (a := 0) hs0 rfl, lv_osw (k := 1) (a := 1) hs1 rfl]; rfl) (tgt := 56) (by decide) ?_
  refine lv_aload_n hx hb dX1_isOfSort_56 rfl (lv_at hl 0 rfl) ?_
  obtain ⟨hk_a0, Hf⟩ := c_g_some Hf
  refine fg_2_3 hx hb hts hown hK hP hk_a0 lkf_X1_35 dX1_isOfSort_57 ?_
  refine lv_iload_n hx hb dX1_isOfSort_60 rfl (lv_at hl 1 rfl) ?_
  refine lv_iconst (v := 2) hx hb dX1_isOfSort_61 (by decide) ?_
  refine lv_isub hx hb dX1_isOfSort_62 ?_
  refine lv_icmp_ne hx hb dX1_isOfSort_63 (tgt := 70) (by decide) (fun hc => ?_) (fun hc => ?_)
  · have Hf := c_i_f Hf hc
    refine lv_iconst (v := 0) hx hb dX1_isOfSort_70 (by decide) ?_
    cases Hf
    exact r_zret hx hb hr rfl (Or.inl rfl) hlocks dX1_isOfSort_71 (Nat.le_of_ble_eq_true rfl) (Nat.le_of_ble_eq_true rfl) hP hS
  have Hf := c_i_t Hf hc
  refine lv_iconst (v := 1) hx hb dX1_isOfSort_66 (by decide) ?_
  refine lv_goto hx hb dX1_isOfSort_67 (tgt := 71) (by decide) ?_
  cases Hf
  exact r_zret hx hb hr rfl (Or.inr rfl) hlocks dX1_isOfSort_71 (Nat.le_of_ble_eq_true rfl) (Nat.le_of_ble_eq_true rfl) hP hS

def j_X1_tensInCell_78 (rec5 : st_T × Int32 × Int32 → Option (Int32 × st_T)) (y4_5 : Int32) (S78 : st_T) (y3_78 : Int32) : Option (Int32 × st_T) :=
  (rec5 (S78, y3_78, (y4_5 + 1)))
def j_X1_tensInCell_55 (rec5 : st_T × Int32 × Int32 → Option (Int32 × st_T)) (y3_5 : Int32) (y4_5 : Int32) (S55 : st_T) (u0_55 : Int32) : Option (Int32 × st_T) :=
  (c_l (y3_5 + u0_55) (fun (z3_56 : Int32) => (j_X1_tensInCell_78 rec5 y4_5 S55 z3_56)))
def b_X1_tensInCell_5 (a0 : Nat) (x1 : Int32) (x2 : Int32) (rec5 : st_T × Int32 × Int32 → Option (Int32 × st_T)) (q : st_T × Int32 × Int32) : Option (Int32 × st_T) :=
  (fun (S5 : st_T) (y3_5 : Int32) (y4_5 : Int32) =>
  (c_g (st_K S5 a0 = 3) (c_n (st_fr S5 204 a0) (fun (q8 : Nat) => (c_g (st_K S5 q8 = 1) (c_c (f_Jx4a65c_size_8abf5 S5 q8) (fun (r11 : Int32) (T11 : st_T) => (c_i (r11 ≤ y4_5) (some (y3_5, T11)) (c_g (st_K T11 a0 = 3) (c_n (st_fr T11 204 a0) (fun (q18 : Nat) => (c_g (st_K T11 q18 = 1) (c_c (f_Jx4a65c_get_915e3 T11 q18 y4_5) (fun (r23 : Option Nat) (T23 : st_T) => (c_n r23 (fun (p23 : Nat) => (c_g (st_K T23 p23 = 4) (c_i (x2 = 3) (c_i ((st_fi T23 306 p23) = x1) (j_X1_tensInCell_55 rec5 y3_5 y4_5 T23 (st_fi T23 308 p23)) (j_X1_tensInCell_55 rec5 y3_5 y4_5 T23 0)) (c_c (f_X2_isInCell T23 p23 x1 x2) (fun (r64 : Int32) (T64 : st_T) => (c_i (r64 = 0) (j_X1_tensInCell_78 rec5 y4_5 T64 y3_5) (c_g (st_K T64 p23 = 4) (c_c (f_X2_length T64 p23) (fun (r73 : Int32) (T73 : st_T) => (c_l (y3_5 + r73) (fun (z3_77 : Int32) => (j_X1_tensInCell_78 rec5 y4_5 T73 z3_77))))))))))))))))))))))))))) q.1 q.2.1 q.2.2
set_option maxRecDepth 100000 in
def f_X1_tensInCell (S : st_T) (a0 : Nat) (x1 : Int32) (x2 : Int32) : Option (Int32 × st_T) :=
  (c_w (b_X1_tensInCell_5 a0 x1 x2) c_N (S, 0, 0))
set_option maxRecDepth 100000 in
set_option maxHeartbeats 4000000 in
theorem s_X1_tensInCell (l : Launch) (X : st_I) {S SE : st_T} {a0 : Nat} {x1 : Int32} {x2 : Int32} {rr : Int32} (Hf : f_X1_tensInCell S a0 x1 x2 = some (rr, SE)) : Met l yX1_tensInCell (Cond.code yX1_tensInCell cX1_tensInCell 6 (some .int) :: lw_g) { frames := 3, cells := 0, slots := 0, locals := 64 } (st_P X S [.ref a0, .int x1, .int x2]) (st_Q X (st_A S) (some (.int rr)) SE) 0 0 (st_A S) := by
  refine st_ofW (by decide) (Nat.le_of_ble_eq_true rfl) ?_
  intro p e s m args below meth c hx hb hr hml hlocks hnm hts hown hK hRO hA hP hS ls hl
  have hown : s.vm.findClass RX1 = some m.cls := hown
  have hl : lv_has ls 6 [(0, .ref a0), (1, .int x1), (2, .int x2)] := hl
  unfold f_X1_tensInCell at Hf
  refine lv_iconst (v := 0) hx hb dX1_tensInCell_0 (by decide) ?_
  refine lv_istore_n (lv' := [(3, .int 0), (0, .ref a0), (1, .int x1), (2, .int x2)]) hx hb dX1_tensInCell_1 rfl hl (by decide) rfl (fun ls hl => ?_)
  refine lv_iconst (v := 0) hx hb dX1_tensInCell_2 (by decide) ?_
  refine lv_istore (lv' := [(4, .int 0), (3, .int 0), (0, .ref a0), (1, .int x1), (2, .int x2)]) hx hb dX1_tensInCell_3 hl (by decide) rfl (fun ls hl => ?_)
  refine (c_w_ind (P := fun (q : st_T × Int32 × Int32) => ∀ (H : Heap) (locs : List Loc) (ls : Array Slot), st_HP X (st_A S) q.1 H → va_S (st_A S) s.heap H locs → lv_has ls 6 [(0, .ref a0), (1, .int x1), (2, .int x2), (3, .int q.2.1), (4, .int q.2.2)] → W p l e { frames := 3, cells := 0, slots := 0, locals := 64 } s m args below meth c H locs 0 0 (MQ below (st_Q X (st_A S) (some (.int rr)) SE) args s 0 0 (st_A S)) (F0 m 5 ls [])) ?_ _ _ Hf) _ _ _ hP hS (lv_sub hl [2, 3, 4, 1, 0] rfl)
  intro rec5 hrec5 q Hf H locs ls hP hS hl
  obtain ⟨S5, y3_5, y4_5⟩ := q
  unfold b_X1_tensInCell_5 at Hf
  try dsimp only at Hf
  try dsimp only at hP
  try dsimp only at hl
  try dsimp only
  refine lv_iload hx hb dX1_tensInCell_5 (lv_at hl 4 rfl) ?_
  refine lv_aload_n hx hb dX1_tensInCell_7 rfl (lv_at hl 0 rfl) ?_
  obtain ⟨hk_a0, Hf⟩ := c_g_some Hf
  obtain ⟨q8, hq8, Hf⟩ := c_n_some Hf
  refine fg_2_4 hx hb hts hown hK hP hk_a0 lkf_X1_12 hq8 dX1_tensInCell_8 ?_
  obtain ⟨hk_q8, Hf⟩ := c_g_some Hf
  obtain ⟨r11, T11, hq11, Hf⟩ := c_c_some Hf
  refine r_cV (n := 0) (As := []) (rest := [.int y4_5]) ⟨hx, hb, hml, hown, hts⟩ (s_Jx4a65c_size_8abf5 l X hq11) lkm_X1_38 (by decide +kernel) rfl (by decide) dX1_tensInCell_11 rfl rfl ⟨Nat.le_of_ble_eq_true rfl, Nat.le_of_ble_eq_true rfl⟩ hk_q8 rfl hl.1 (Nat.le_of_ble_eq_true rfl) ⟨Nat.le_of_ble_eq_true rfl, Nat.le_of_ble_eq_true rfl⟩ hK hRO hA hP hS (fun H locs hP hS => ?_)
  refine W.eq (g2 := F0 m 14 ls [.int r11, .int y4_5]) rfl ?_
  refine lv_icmp_ge hx hb dX1_tensInCell_14 (tgt := 84) (by decide) (fun hc => ?_) (fun hc => ?_)
  · have Hf := c_i_t Hf hc
    refine lv_iload_n hx hb dX1_tensInCell_84 rfl (lv_at hl 3 rfl) ?_
    cases Hf
    exact r_iret hx hb hr rfl hlocks dX1_tensInCell_85 (Nat.le_of_ble_eq_true rfl) (Nat.le_of_ble_eq_true rfl) hP hS
  have Hf := c_i_f Hf hc
  refine lv_aload_n hx hb dX1_tensInCell_17 rfl (lv_at hl 0 rfl) ?_
  obtain ⟨hk_a0, Hf⟩ := c_g_some Hf
  obtain ⟨q18, hq18, Hf⟩ := c_n_some Hf
  refine fg_2_4 hx hb hts hown hK hP hk_a0 lkf_X1_12 hq18 dX1_tensInCell_18 ?_
  refine lv_iload hx hb dX1_tensInCell_21 (lv_at hl 4 rfl) ?_
  obtain ⟨hk_q18, Hf⟩ := c_g_some Hf
  obtain ⟨r23, T23, hq23, Hf⟩ := c_c_some Hf
  refine r_cV (n := 1) (As := [.int y4_5]) (rest := []) ⟨hx, hb, hml, hown, hts⟩ (s_Jx4a65c_get_915e3 l X hq23) lkm_X1_42 (by decide +kernel) rfl (by decide) dX1_tensInCell_23 rfl rfl ⟨Nat.le_of_ble_eq_true rfl, Nat.le_of_ble_eq_true rfl⟩ hk_q18 rfl hl.1 (Nat.le_of_ble_eq_true rfl) ⟨Nat.le_of_ble_eq_true rfl, Nat.le_of_ble_eq_true rfl⟩ hK hRO hA hP hS (fun H locs hP hS => ?_)
  obtain ⟨p23, ep23, Hf⟩ := c_n_some Hf
  subst ep23
  refine W.eq (g2 := F0 m 26 ls [.ref p23]) rfl ?_
  obtain ⟨hk_p23, Hf⟩ := c_g_some Hf
  refine va_castE hx hb hown (hts _ (lg_1 518 rfl rfl)) (st_recv hK hP hk_p23 (by decide) rfl) dX1_tensInCell_26 ?_
  refine lv_astore (lv' := [(5, .ref p23), (0, .ref a0), (1, .int x1), (2, .int x2), (3, .int y3_5), (4, .int y4_5)]) hx hb dX1_tensInCell_29 hl (by decide) rfl (fun ls hl => ?_)
  refine lv_iload_n hx hb dX1_tensInCell_31 rfl (lv_at hl 3 rfl) ?_
  refine lv_iconst (v := 3) hx hb dX1_tensInCell_32 (by decide) ?_
  have hJ78 : ∀ (S78 : st_T) (y3_78 : Int32), j_X1_tensInCell_78 rec5 y4_5 S78 y3_78 = some (rr, SE) → ∀ (H : Heap) (locs : List Loc) (ls : Array Slot), st_HP X (st_A S) S78 H → va_S (st_A S) s.heap H locs → lv_has ls 6 [(0, .ref a0), (1, .int x1), (2, .int x2), (3, .int y3_78), (4, .int y4_5)] → W p l e { frames := 3, cells := 0, slots := 0, locals := 64 } s m args below meth c H locs 0 0 (MQ below (st_Q X (st_A S) (some (.int rr)) SE) args s 0 0 (st_A S)) (F0 m 78 ls []) := by
    intro S78 y3_78 Hf H locs ls hP hS hl
    unfold j_X1_tensInCell_78 at Hf
    refine lv_iinc (v := (y4_5 + 1)) (lv' := [(4, .int (y4_5 + 1)), (0, .ref a0), (1, .int x1), (2, .int x2), (3, .int y3_78)]) hx hb dX1_tensInCell_78 hl (k := 4) rfl rfl (by decide) rfl (fun ls hl => ?_)
    refine lv_goto hx hb dX1_tensInCell_81 (tgt := 5) (by decide) ?_
    exact hrec5 (S78, y3_78, (y4_5 + 1)) Hf _ _ _ hP hS (lv_sub hl [1, 2, 3, 4, 0] rfl)
  refine lv_icmp_ne hx hb dX1_tensInCell_33 (tgt := 60) (by decide) (fun hc => ?_) (fun hc => ?_)
  · have Hf := c_i_f Hf hc
    refine lv_aload hx hb dX1_tensInCell_60 (lv_at hl 0 rfl) ?_
    refine lv_iload_n hx hb dX1_tensInCell_62 rfl (lv_at hl 2 rfl) ?_
    refine lv_iload_n hx hb dX1_tensInCell_63 rfl (lv_at hl 3 rfl) ?_
    obtain ⟨r64, T64, hq64, Hf⟩ := c_c_some Hf
    refine r_cV (n := 2) (As := [.int x1, .int x2]) (rest := []) ⟨hx, hb, hml, hown, hts⟩ (s_X2_isInCell l X hq64) lkm_X1_68 (by decide +kernel) rfl (by decide) dX1_tensInCell_64 rfl rfl ⟨Nat.le_of_ble_eq_true rfl, Nat.le_of_ble_eq_true rfl⟩ hk_p23 rfl hl.1 (Nat.le_of_ble_eq_true rfl) ⟨Nat.le_of_ble_eq_true rfl, Nat.le_of_ble_eq_true rfl⟩ hK hRO hA hP hS (fun H locs hP hS => ?_)
    refine W.eq (g2 := F0 m 67 ls [.int r64]) rfl ?_
    refine lv_if_eq hx hb dX1_tensInCell_67 (tgt := 78) (by decide) (fun hc => ?_) (fun hc => ?_)
    · have Hf := c_i_t Hf hc
      exact hJ78 T64 y3_5 Hf _ _ _ hP hS (lv_sub hl [1, 2, 3, 4, 5] rfl)
    have Hf := c_i_f Hf hc
    refine lv_iload_n hx hb dX1_tensInCell_70 rfl (lv_at hl 4 rfl) ?_
    refine lv_aload hx hb dX1_tensInCell_71 (lv_at hl 0 rfl) ?_
    obtain ⟨hk_p23, Hf⟩ := c_g_some Hf
    obtain ⟨r73, T73, hq73, Hf⟩ := c_c_some Hf
    refine r_cV (n := 0) (As := []) (rest := [.int y3_5]) ⟨hx, hb, hml, hown, hts⟩ (s_X2_length l X hq73) lkm_X1_72 (by decide +kernel) rfl (by decide) dX1_tensInCell_73 rfl rfl ⟨Nat.le_of_ble_eq_true rfl, Nat.le_of_ble_eq_true rfl⟩ hk_p23 rfl hl.1 (Nat.le_of_ble_eq_true rfl) ⟨Nat.le_of_ble_eq_true rfl, Nat.le_of_ble_eq_true rfl⟩ hK hRO hA hP hS (fun H locs hP hS => ?_)
    refine W.eq (g2 := F0 m 76 ls [.int r73, .int y3_5]) rfl ?_
    refine lv_iadd hx hb dX1_tensInCell_76 ?_
    refine lv_topi (fun z3_77 ez3_77 => ?_)
    have Hf := c_l_ren Hf ez3_77
    refine lv_istore_n (lv' := [(3, .int z3_77), (5, .ref p23), (0, .ref a0), (1, .int x1), (2, .int x2), (4, .int y4_5)]) hx hb dX1_tensInCell_77 rfl hl (by decide) rfl (fun ls hl => ?_)
    exact hJ78 T73 z3_77 Hf _ _ _ hP hS (lv_sub hl [2, 3, 4, 0, 5] rfl)
  have Hf := c_i_t Hf hc
  refine lv_iload_n hx hb dX1_tensInCell_36 rfl (lv_at hl 4 rfl) ?_
  refine lv_aload hx hb dX1_tensInCell_37 (lv_at hl 0 rfl) ?_
  refine fg_3_6 hx hb hts hown hK hP hk_p23 lkf_X1_62 dX1_tensInCell_39 ?_
  refine lv_iload_n hx hb dX1_tensInCell_42 rfl (lv_at hl 2 rfl) ?_
  have hJ55 : ∀ (S55 : st_T) (u0_55 : Int32), j_X1_tensInCell_55 rec5 y3_5 y4_5 S55 u0_55 = some (rr, SE) → ∀ (H : Heap) (locs : List Loc) (ls : Array Slot), st_HP X (st_A S) S55 H → va_S (st_A S) s.heap H locs → lv_has ls 6 [(0, .ref a0), (1, .int x1), (2, .int x2), (4, .int y4_5)] → W p l e { frames := 3, cells := 0, slots := 0, locals := 64 } s m args below meth c H locs 0 0 (MQ below (st_Q X (st_A S) (some (.int rr)) SE) args s 0 0 (st_A S)) (F0 m 55 ls [.int u0_55, .int y3_5]) := by
    intro S55 u0_55 Hf H locs ls hP hS hl
    unfold j_X1_tensInCell_55 at Hf
    refine lv_iadd hx hb dX1_tensInCell_55 ?_
    refine lv_topi (fun z3_56 ez3_56 => ?_)
    have Hf := c_l_ren Hf ez3_56
    refine lv_istore_n (lv' := [(3, .int z3_56), (0, .ref a0), (1, .int x1), (2, .int x2), (4, .int y4_5)]) hx hb dX1_tensInCell_56 rfl hl (by decide) rfl (fun ls hl => ?_)
    refine lv_goto hx hb dX1_tensInCell_57 (tgt := 78) (by decide) ?_
    exact hJ78 S55 z3_56 Hf _ _ _ hP hS (lv_sub hl [1, 2, 3, 0, 4] rfl)
  refine lv_icmp_ne hx hb dX1_tensInCell_43 (tgt := 54) (by decide) (fun hc => ?_) (fun hc => ?_)
  · have Hf := c_i_f Hf hc
    refine lv_iconst (v := 0) hx hb dX1_tensInCell_54 (by decide) ?_
    exact hJ55 T23 0 Hf _ _ _ hP hS (lv_sub hl [1, 2, 3, 5] rfl)
  have Hf := c_i_t Hf hc
  refine lv_aload hx hb dX1_tensInCell_46 (lv_at hl 0 rfl) ?_
  refine fg_3_8 hx hb hts hown hK hP hk_p23 lkf_X1_65 dX1_tensInCell_48 ?_
  refine lv_goto hx hb dX1_tensInCell_51 (tgt := 55) (by decide) ?_
  exact hJ55 T23 (st_fi T23 308 p23) Hf _ _ _ hP hS (lv_sub hl [1, 2, 3, 5] rfl)

def j_X1_followers_106 (rec5 : st_T × Int32 × Int32 → Option (Int32 × st_T)) (y3_5 : Int32) (y4_5 : Int32) (S106 : st_T) (u0_106 : Int32) : Option (Int32 × st_T) :=
  (c_l (y3_5 + u0_106) (fun (z3_107 : Int32) => (rec5 (S106, z3_107, (y4_5 + 1)))))
def j_X1_followers_105 (rec5 : st_T × Int32 × Int32 → Option (Int32 × st_T)) (y3_5 : Int32) (y4_5 : Int32) (S105 : st_T) : Option (Int32 × st_T) :=
  (j_X1_followers_106 rec5 y3_5 y4_5 S105 0)
def j_X1_followers_75 (x1 : Int32) (x2 : Int32) (rec5 : st_T × Int32 × Int32 → Option (Int32 × st_T)) (y3_5 : Int32) (y4_5 : Int32) (p25 : Nat) (p39 : Nat) (S75 : st_T) (u0_75 : Int32) : Option (Int32 × st_T) :=
  (c_i (u0_75 = 0) (j_X1_followers_105 rec5 y3_5 y4_5 S75) (c_g (st_K S75 p25 = 4) (c_i ((st_fi S75 306 p25) = x1) (c_g (st_K S75 p39 = 4) (c_i ((st_fi S75 306 p39) = x2) (j_X1_followers_106 rec5 y3_5 y4_5 S75 1) (j_X1_followers_105 rec5 y3_5 y4_5 S75))) (j_X1_followers_105 rec5 y3_5 y4_5 S75))))
def j_X1_followers_70 (x1 : Int32) (x2 : Int32) (rec5 : st_T × Int32 × Int32 → Option (Int32 × st_T)) (y3_5 : Int32) (y4_5 : Int32) (p25 : Nat) (p39 : Nat) (S70 : st_T) : Option (Int32 × st_T) :=
  (j_X1_followers_75 x1 x2 rec5 y3_5 y4_5 p25 p39 S70 1)
def b_X1_followers_5 (a0 : Nat) (x1 : Int32) (x2 : Int32) (rec5 : st_T × Int32 × Int32 → Option (Int32 × st_T)) (q : st_T × Int32 × Int32) : Option (Int32 × st_T) :=
  (fun (S5 : st_T) (y3_5 : Int32) (y4_5 : Int32) =>
  (c_g (st_K S5 a0 = 3) (c_n (st_fr S5 204 a0) (fun (q8 : Nat) => (c_g (st_K S5 q8 = 1) (c_c (f_Jx4a65c_size_8abf5 S5 q8) (fun (r11 : Int32) (T11 : st_T) => (c_i (r11 ≤ y4_5) (some (y3_5, T11)) (c_g (st_K T11 a0 = 3) (c_n (st_fr T11 204 a0) (fun (q18 : Nat) => (c_g (st_K T11 q18 = 1) (c_c (f_Jx4a65c_get_915e3 T11 q18 (y4_5 - 1)) (fun (r25 : Option Nat) (T25 : st_T) => (c_n r25 (fun (p25 : Nat) => (c_g (st_K T25 p25 = 4) (c_g (st_K T25 a0 = 3) (c_n (st_fr T25 204 a0) (fun (q34 : Nat) => (c_g (st_K T25 q34 = 1) (c_c (f_Jx4a65c_get_915e3 T25 q34 y4_5) (fun (r39 : Option Nat) (T39 : st_T) => (c_n r39 (fun (p39 : Nat) => (c_g (st_K T39 p39 = 4) (c_g (st_K T39 p25 = 4) (c_i (((st_fi T39 301 p25) + 1) = (st_fi T39 300 p39)) (j_X1_followers_70 x1 x2 rec5 y3_5 y4_5 p25 p39 T39) (c_i ((st_fi T39 308 p39) ≤ 0) (j_X1_followers_75 x1 x2 rec5 y3_5 y4_5 p25 p39 T39 0) (j_X1_followers_70 x1 x2 rec5 y3_5 y4_5 p25 p39 T39)))))))))))))))))))))))))))))) q.1 q.2.1 q.2.2
set_option maxRecDepth 100000 in
def f_X1_followers (S : st_T) (a0 : Nat) (x1 : Int32) (x2 : Int32) : Option (Int32 × st_T) :=
  (c_w (b_X1_followers_5 a0 x1 x2) c_N (S, 0, 1))
set_option maxRecDepth 100000 in
set_option maxHeartbeats 4000000 in
theorem s_X1_followers (l : Launch) (X : st_I) {S SE : st_T} {a0 : Nat} {x1 : Int32} {x2 : Int32} {rr : Int32} (Hf : f_X1_followers S a0 x1 x2 = some (rr, SE)) : Met l yX1_followers (Cond.code yX1_followers cX1_followers 8 (some .int) :: lw_g) { frames := 3, cells := 0, slots := 0, locals := 64 } (st_P X S [.ref a0, .int x1, .int x2]) (st_Q X (st_A S) (some (.int rr)) SE) 0 0 (st_A S) := by
  refine st_ofW (by decide) (Nat.le_of_ble_eq_true rfl) ?_
  intro p e s m args below meth c hx hb hr hml hlocks hnm hts hown hK hRO hA hP hS ls hl
  have hown : s.vm.findClass RX1 = some m.cls := hown
  have hl : lv_has ls 8 [(0, .ref a0), (1, .int x1), (2, .int x2)] := hl
  unfold f_X1_followers at Hf
  refine lv_iconst (v := 0) hx hb dX1_followers_0 (by decide) ?_
  refine lv_istore_n (lv' := [(3, .int 0), (0, .ref a0), (1, .int x1), (2, .int x2)]) hx hb dX1_followers_1 rfl hl (by decide) rfl (fun ls hl => ?_)
  refine lv_iconst (v := 1) hx hb dX1_followers_2 (by decide) ?_
  refine lv_istore (lv' := [(4, .int 1), (3, .int 0), (0, .ref a0), (1, .int x1), (2, .int x2)]) hx hb dX1_followers_3 hl (by decide) rfl (fun ls hl => ?_)
  refine (c_w_ind (P := fun (q : st_T × Int32 × Int32) => ∀ (H : Heap) (locs : List Loc) (ls : Array Slot), st_HP X (st_A S) q.1 H → va_S (st_A S) s.heap H locs → lv_has ls 8 [(0, .ref a0), (1, .int x1), (2, .int x2), (3, .int q.2.1), (4, .int q.2.2)] → W p l e { frames := 3, cells := 0, slots := 0, locals := 64 } s m args below meth c H locs 0 0 (MQ below (st_Q X (st_A S) (some (.int rr)) SE) args s 0 0 (st_A S)) (F0 m 5 ls [])) ?_ _ _ Hf) _ _ _ hP hS (lv_sub hl [2, 3, 4, 1, 0] rfl)
  intro rec5 hrec5 q Hf H locs ls hP hS hl
  obtain ⟨S5, y3_5, y4_5⟩ := q
  unfold b_X1_followers_5 at Hf
  try dsimp only at Hf
  try dsimp only at hP
  try dsimp only at hl
  try dsimp only
  refine lv_iload hx hb dX1_followers_5 (lv_at hl 4 rfl) ?_
  refine lv_aload_n hx hb dX1_followers_7 rfl (lv_at hl 0 rfl) ?_
  obtain ⟨hk_a0, Hf⟩ := c_g_some Hf
  obtain ⟨q8, hq8, Hf⟩ := c_n_some Hf
  refine fg_2_4 hx hb hts hown hK hP hk_a0 lkf_X1_12 hq8 dX1_followers_8 ?_
  obtain ⟨hk_q8, Hf⟩ := c_g_some Hf
  obtain ⟨r11, T11, hq11, Hf⟩ := c_c_some Hf
  refine r_cV (n := 0) (As := []) (rest := [.int y4_5]) ⟨hx, hb, hml, hown, hts⟩ (s_Jx4a65c_size_8abf5 l X hq11) lkm_X1_38 (by decide +kernel) rfl (by decide) dX1_followers_11 rfl rfl ⟨Nat.le_of_ble_eq_true rfl, Nat.le_of_ble_eq_true rfl⟩ hk_q8 rfl hl.1 (Nat.le_of_ble_eq_true rfl) ⟨Nat.le_of_ble_eq_true rfl, Nat.le_of_ble_eq_true rfl⟩ hK hRO hA hP hS (fun H locs hP hS => ?_)
  refine W.eq (g2 := F0 m 14 ls [.int r11, .int y4_5]) rfl ?_
  refine lv_icmp_ge hx hb dX1_followers_14 (tgt := 114) (by decide) (fun hc => ?_) (fun hc => ?_)
  · have Hf := c_i_t Hf hc
    refine lv_iload_n hx hb dX1_followers_114 rfl (lv_at hl 3 rfl) ?_
    cases Hf
    exact r_iret hx hb hr rfl hlocks dX1_followers_115 (Nat.le_of_ble_eq_true rfl) (Nat.le_of_ble_eq_true rfl) hP hS
  have Hf := c_i_f Hf hc
  refine lv_aload_n hx hb dX1_followers_17 rfl (lv_at hl 0 rfl) ?_
  obtain ⟨hk_a0, Hf⟩ := c_g_some Hf
  obtain ⟨q18, hq18, Hf⟩ := c_n_some Hf
  refine fg_2_4 hx hb hts hown hK hP hk_a0 lkf_X1_12 hq18 dX1_followers_18 ?_
  refine lv_iload hx hb dX1_followers_21 (lv_at hl 4 rfl) ?_
  refine lv_iconst (v := 1) hx hb dX1_followers_23 (by decide) ?_
  refine lv_isub hx hb dX1_followers_24 ?_
  obtain ⟨hk_q18, Hf⟩ := c_g_some Hf
  obtain ⟨r25, T25, hq25, Hf⟩ := c_c_some Hf
  refine r_cV (n := 1) (As := [.int (y4_5 - 1)]) (rest := []) ⟨hx, hb, hml, hown, hts⟩ (s_Jx4a65c_get_915e3 l X hq25) lkm_X1_42 (by decide +kernel) rfl (by decide) dX1_followers_25 rfl rfl ⟨Nat.le_of_ble_eq_true rfl, Nat.le_of_ble_eq_true rfl⟩ hk_q18 rfl hl.1 (Nat.le_of_ble_eq_true rfl) ⟨Nat.le_of_ble_eq_true rfl, Nat.le_of_ble_eq_true rfl⟩ hK hRO hA hP hS (fun H locs hP hS => ?_)
  obtain ⟨p25, ep25, Hf⟩ := c_n_some Hf
  subst ep25
  refine W.eq (g2 := F0 m 28 ls [.ref p25]) rfl ?_
  obtain ⟨hk_p25, Hf⟩ := c_g_some Hf
  refine va_castE hx hb hown (hts _ (lg_1 518 rfl rfl)) (st_recv hK hP hk_p25 (by decide) rfl) dX1_followers_28 ?_
  refine lv_astore (lv' := [(5, .ref p25), (0, .ref a0), (1, .int x1), (2, .int x2), (3, .int y3_5), (4, .int y4_5)]) hx hb dX1_followers_31 hl (by decide) rfl (fun ls hl => ?_)
  refine lv_aload_n hx hb dX1_followers_33 rfl (lv_at hl 1 rfl) ?_
  obtain ⟨hk_a0, Hf⟩ := c_g_some Hf
  obtain ⟨q34, hq34, Hf⟩ := c_n_some Hf
  refine fg_2_4 hx hb hts hown hK hP hk_a0 lkf_X1_12 hq34 dX1_followers_34 ?_
  refine lv_iload hx hb dX1_followers_37 (lv_at hl 5 rfl) ?_
  obtain ⟨hk_q34, Hf⟩ := c_g_some Hf
  obtain ⟨r39, T39, hq39, Hf⟩ := c_c_some Hf
  refine r_cV (n := 1) (As := [.int y4_5]) (rest := []) ⟨hx, hb, hml, hown, hts⟩ (s_Jx4a65c_get_915e3 l X hq39) lkm_X1_42 (by decide +kernel) rfl (by decide) dX1_followers_39 rfl rfl ⟨Nat.le_of_ble_eq_true rfl, Nat.le_of_ble_eq_true rfl⟩ hk_q34 rfl hl.1 (Nat.le_of_ble_eq_true rfl) ⟨Nat.le_of_ble_eq_true rfl, Nat.le_of_ble_eq_true rfl⟩ hK hRO hA hP hS (fun H locs hP hS => ?_)
  obtain ⟨p39, ep39, Hf⟩ := c_n_some Hf
  subst ep39
  refine W.eq (g2 := F0 m 42 ls [.ref p39]) rfl ?_
  obtain ⟨hk_p39, Hf⟩ := c_g_some Hf
  refine va_castE hx hb hown (hts _ (lg_1 518 rfl rfl)) (st_recv hK hP hk_p39 (by decide) rfl) dX1_followers_42 ?_
  refine lv_astore (lv' := [(6, .ref p39), (5, .ref p25), (0, .ref a0), (1, .int x1), (2, .int x2), (3, .int y3_5), (4, .int y4_5)]) hx hb dX1_followers_45 hl (by decide) rfl (fun ls hl => ?_)
  refine lv_aload hx hb dX1_followers_47 (lv_at hl 1 rfl) ?_
  obtain ⟨hk_p25, Hf⟩ := c_g_some Hf
  refine fg_3_1 hx hb hts hown hK hP hk_p25 lkf_X1_52 dX1_followers_49 ?_
  refine lv_iconst (v := 1) hx hb dX1_followers_52 (by decide) ?_
  refine lv_iadd hx hb dX1_followers_53 ?_
  refine lv_aload hx hb dX1_followers_54 (lv_at hl 0 rfl) ?_
  refine fg_3_0 hx hb hts hown hK hP hk_p39 lkf_X1_55 dX1_followers_56 ?_
  have hJ75 : ∀ (S75 : st_T) (u0_75 : Int32), j_X1_followers_75 x1 x2 rec5 y3_5 y4_5 p25 p39 S75 u0_75 = some (rr, SE) → ∀ (H : Heap) (locs : List Loc) (ls : Array Slot), st_HP X (st_A S) S75 H → va_S (st_A S) s.heap H locs → lv_has ls 8 [(0, .ref a0), (1, .int x1), (2, .int x2), (3, .int y3_5), (4, .int y4_5), (5, .ref p25), (6, .ref p39)] → W p l e { frames := 3, cells := 0, slots := 0, locals := 64 } s m args below meth c H locs 0 0 (MQ below (st_Q X (st_A S) (some (.int rr)) SE) args s 0 0 (st_A S)) (F0 m 75 ls [.int u0_75]) := by
    intro S75 u0_75 Hf H locs ls hP hS hl
    unfold j_X1_followers_75 at Hf
    refine lv_istore (lv' := [(7, .int u0_75), (0, .ref a0), (1, .int x1), (2, .int x2), (3, .int y3_5), (4, .int y4_5), (5, .ref p25), (6, .ref p39)]) hx hb dX1_followers_75 hl (by decide) rfl (fun ls hl => ?_)
    refine lv_iload_n hx hb dX1_followers_77 rfl (lv_at hl 4 rfl) ?_
    refine lv_iload hx hb dX1_followers_78 (lv_at hl 0 rfl) ?_
    have hJ106 : ∀ (S106 : st_T) (u0_106 : Int32), j_X1_followers_106 rec5 y3_5 y4_5 S106 u0_106 = some (rr, SE) → ∀ (H : Heap) (locs : List Loc) (ls : Array Slot), st_HP X (st_A S) S106 H → va_S (st_A S) s.heap H locs → lv_has ls 8 [(0, .ref a0), (1, .int x1), (2, .int x2), (4, .int y4_5)] → W p l e { frames := 3, cells := 0, slots := 0, locals := 64 } s m args below meth c H locs 0 0 (MQ below (st_Q X (st_A S) (some (.int rr)) SE) args s 0 0 (st_A S)) (F0 m 106 ls [.int u0_106, .int y3_5]) := by
      intro S106 u0_106 Hf H locs ls hP hS hl
      unfold j_X1_followers_106 at Hf
      refine lv_iadd hx hb dX1_followers_106 ?_
      refine lv_topi (fun z3_107 ez3_107 => ?_)
      have Hf := c_l_ren Hf ez3_107
      refine lv_istore_n (lv' := [(3, .int z3_107), (0, .ref a0), (1, .int x1), (2, .int x2), (4, .int y4_5)]) hx hb dX1_followers_107 rfl hl (by decide) rfl (fun ls hl => ?_)
      refine lv_iinc (v := (y4_5 + 1)) (lv' := [(4, .int (y4_5 + 1)), (3, .int z3_107), (0, .ref a0), (1, .int x1), (2, .int x2)]) hx hb dX1_followers_108 hl (k := 4) rfl rfl (by decide) rfl (fun ls hl => ?_)
      refine lv_goto hx hb dX1_followers_111 (tgt := 5) (by decide) ?_
      exact hrec5 (S106, z3_107, (y4_5 + 1)) Hf _ _ _ hP hS (lv_sub hl [2, 3, 4, 1, 0] rfl)
    have hJ105 : ∀ (S105 : st_T), j_X1_followers_105 rec5 y3_5 y4_5 S105 = some (rr, SE) → ∀ (H : Heap) (locs : List Loc) (ls : Array Slot), st_HP X (st_A S) S105 H → va_S (st_A S) s.heap H locs → lv_has ls 8 [(0, .ref a0), (1, .int x1), (2, .int x2), (4, .int y4_5)] → W p l e { frames := 3, cells := 0, slots := 0, locals := 64 } s m args below meth c H locs 0 0 (MQ below (st_Q X (st_A S) (some (.int rr)) SE) args s 0 0 (st_A S)) (F0 m 105 ls [.int y3_5]) := by
      intro S105 Hf H locs ls hP hS hl
      unfold j_X1_followers_105 at Hf
      refine lv_iconst (v := 0) hx hb dX1_followers_105 (by decide) ?_
      exact hJ106 S105 0 Hf _ _ _ hP hS (lv_sub hl [0, 1, 2, 3] rfl)
    refine lv_if_eq hx hb dX1_followers_80 (tgt := 105) (by decide) (fun hc => ?_) (fun hc => ?_)
    · have Hf := c_i_t Hf hc
      exact hJ105 S75 Hf _ _ _ hP hS (lv_sub hl [1, 2, 3, 5] rfl)
    have Hf := c_i_f Hf hc
    refine lv_aload hx hb dX1_followers_83 (lv_at hl 6 rfl) ?_
    obtain ⟨hk_p25, Hf⟩ := c_g_some Hf
    refine fg_3_6 hx hb hts hown hK hP hk_p25 lkf_X1_62 dX1_followers_85 ?_
    refine lv_iload_n hx hb dX1_followers_88 rfl (lv_at hl 2 rfl) ?_
    refine lv_icmp_ne hx hb dX1_followers_89 (tgt := 105) (by decide) (fun hc => ?_) (fun hc => ?_)
    · have Hf := c_i_f Hf hc
      exact hJ105 S75 Hf _ _ _ hP hS (lv_sub hl [1, 2, 3, 5] rfl)
    have Hf := c_i_t Hf hc
    refine lv_aload hx hb dX1_followers_92 (lv_at hl 7 rfl) ?_
    obtain ⟨hk_p39, Hf⟩ := c_g_some Hf
    refine fg_3_6 hx hb hts hown hK hP hk_p39 lkf_X1_62 dX1_followers_94 ?_
    refine lv_iload_n hx hb dX1_followers_97 rfl (lv_at hl 3 rfl) ?_
    refine lv_icmp_ne hx hb dX1_followers_98 (tgt := 105) (by decide) (fun hc => ?_) (fun hc => ?_)
    · have Hf := c_i_f Hf hc
      exact hJ105 S75 Hf _ _ _ hP hS (lv_sub hl [1, 2, 3, 5] rfl)
    have Hf := c_i_t Hf hc
    refine lv_iconst (v := 1) hx hb dX1_followers_101 (by decide) ?_
    refine lv_goto hx hb dX1_followers_102 (tgt := 106) (by decide) ?_
    exact hJ106 S75 1 Hf _ _ _ hP hS (lv_sub hl [1, 2, 3, 5] rfl)
  have hJ70 : ∀ (S70 : st_T), j_X1_followers_70 x1 x2 rec5 y3_5 y4_5 p25 p39 S70 = some (rr, SE) → ∀ (H : Heap) (locs : List Loc) (ls : Array Slot), st_HP X (st_A S) S70 H → va_S (st_A S) s.heap H locs → lv_has ls 8 [(0, .ref a0), (1, .int x1), (2, .int x2), (3, .int y3_5), (4, .int y4_5), (5, .ref p25), (6, .ref p39)] → W p l e { frames := 3, cells := 0, slots := 0, locals := 64 } s m args below meth c H locs 0 0 (MQ below (st_Q X (st_A S) (some (.int rr)) SE) args s 0 0 (st_A S)) (F0 m 70 ls []) := by
    intro S70 Hf H locs ls hP hS hl
    unfold j_X1_followers_70 at Hf
    refine lv_iconst (v := 1) hx hb dX1_followers_70 (by decide) ?_
    refine lv_goto hx hb dX1_followers_71 (tgt := 75) (by decide) ?_
    exact hJ75 S70 1 Hf _ _ _ hP hS (lv_sub hl [0, 1, 2, 3, 4, 5, 6] rfl)
  refine lv_icmp_eq hx hb dX1_followers_59 (tgt := 70) (by decide) (fun hc => ?_) (fun hc => ?_)
  · have Hf := c_i_t Hf hc
    exact hJ70 T39 Hf _ _ _ hP hS (lv_sub hl [2, 3, 4, 5, 6, 1, 0] rfl)
  have Hf := c_i_f Hf hc
  refine lv_aload hx hb dX1_followers_62 (lv_at hl 0 rfl) ?_
  refine fg_3_8 hx hb hts hown hK hP hk_p39 lkf_X1_65 dX1_followers_64 ?_
  refine lv_if_le hx hb dX1_followers_67 (tgt := 74) (by decide) (fun hc => ?_) (fun hc => ?_)
  · have Hf := c_i_t Hf hc
    refine lv_iconst (v := 0) hx hb dX1_followers_74 (by decide) ?_
    exact hJ75 T39 0 Hf _ _ _ hP hS (lv_sub hl [2, 3, 4, 5, 6, 1, 0] rfl)
  have Hf := c_i_f Hf hc
  exact hJ70 T39 Hf _ _ _ hP hS (lv_sub hl [2, 3, 4, 5, 6, 1, 0] rfl)

def j_X1_tensWithout_54 (rec5 : st_T × Int32 × Int32 → Option (Int32 × st_T)) (y3_5 : Int32) (y4_5 : Int32) (S54 : st_T) (u0_54 : Int32) : Option (Int32 × st_T) :=
  (c_l (y3_5 + u0_54) (fun (z3_55 : Int32) => (rec5 (S54, z3_55, (y4_5 + 1)))))
def b_X1_tensWithout_5 (a0 : Nat) (x1 : Int32) (x2 : Nat) (rec5 : st_T × Int32 × Int32 → Option (Int32 × st_T)) (q : st_T × Int32 × Int32) : Option (Int32 × st_T) :=
  (fun (S5 : st_T) (y3_5 : Int32) (y4_5 : Int32) =>
  (c_g (st_K S5 a0 = 3) (c_n (st_fr S5 204 a0) (fun (q8 : Nat) => (c_g (st_K S5 q8 = 1) (c_c (f_Jx4a65c_size_8abf5 S5 q8) (fun (r11 : Int32) (T11 : st_T) => (c_i (r11 ≤ y4_5) (some (y3_5, T11)) (c_g (st_K T11 a0 = 3) (c_n (st_fr T11 204 a0) (fun (q18 : Nat) => (c_g (st_K T11 q18 = 1) (c_c (f_Jx4a65c_get_915e3 T11 q18 y4_5) (fun (r23 : Option Nat) (T23 : st_T) => (c_n r23 (fun (p23 : Nat) => (c_g (st_K T23 p23 = 4) (c_c (f_X8_holds T23 (st_fi T23 305 p23) x1) (fun (r38 : Int32) (T38 : st_T) => (c_i (r38 = 0) (c_g (st_K T38 p23 = 4) (c_c (f_X2_tensInCommon T38 p23 x2) (fun (r51 : Int32) (T51 : st_T) => (j_X1_tensWithout_54 rec5 y3_5 y4_5 T51 r51)))) (j_X1_tensWithout_54 rec5 y3_5 y4_5 T38 0))))))))))))))))))))) q.1 q.2.1 q.2.2
set_option maxRecDepth 100000 in
def f_X1_tensWithout (S : st_T) (a0 : Nat) (x1 : Int32) (x2 : Nat) : Option (Int32 × st_T) :=
  (c_w (b_X1_tensWithout_5 a0 x1 x2) c_N (S, 0, 0))
set_option maxRecDepth 100000 in
set_option maxHeartbeats 4000000 in
theorem s_X1_tensWithout (l : Launch) (X : st_I) {S SE : st_T} {a0 : Nat} {x1 : Int32} {x2 : Nat} {rr : Int32} (Hf : f_X1_tensWithout S a0 x1 x2 = some (rr, SE)) : Met l yX1_tensWithout (Cond.code yX1_tensWithout cX1_tensWithout 6 (some .int) :: lw_g) { frames := 3, cells := 0, slots := 0, locals := 64 } (st_P X S [.ref a0, .int x1, .ref x2]) (st_Q X (st_A S) (some (.int rr)) SE) 0 0 (st_A S) := by
  refine st_ofW (by decide) (Nat.le_of_ble_eq_true rfl) ?_
  intro p e s m args below meth c hx hb hr hml hlocks hnm hts hown hK hRO hA hP hS ls hl
  have hown : s.vm.findClass RX1 = some m.cls := hown
  have hl : lv_has ls 6 [(0, .ref a0), (1, .int x1), (2, .ref x2)] := hl
  unfold f_X1_tensWithout at Hf
  refine lv_iconst (v := 0) hx hb dX1_tensWithout_0 (by decide) ?_
  refine lv_istore_n (lv' := [(3, .int 0), (0, .ref a0), (1, .int x1), (2, .ref x2)]) hx hb dX1_tensWithout_1 rfl hl (by decide) rfl (fun ls hl => ?_)
  refine lv_iconst (v := 0) hx hb dX1_tensWithout_2 (by decide) ?_
  refine lv_istore (lv' := [(4, .int 0), (3, .int 0), (0, .ref a0), (1, .int x1), (2, .ref x2)]) hx hb dX1_tensWithout_3 hl (by decide) rfl (fun ls hl => ?_)
  refine (c_w_ind (P := fun (q : st_T × Int32 × Int32) => ∀ (H : Heap) (locs : List Loc) (ls : Array Slot), st_HP X (st_A S) q.1 H → va_S (st_A S) s.heap H locs → lv_has ls 6 [(0, .ref a0), (1, .int x1), (2, .ref x2), (3, .int q.2.1), (4, .int q.2.2)] → W p l e { frames := 3, cells := 0, slots := 0, locals := 64 } s m args below meth c H locs 0 0 (MQ below (st_Q X (st_A S) (some (.int rr)) SE) args s 0 0 (st_A S)) (F0 m 5 ls [])) ?_ _ _ Hf) _ _ _ hP hS (lv_sub hl [2, 3, 4, 1, 0] rfl)
  intro rec5 hrec5 q Hf H locs ls hP hS hl
  obtain ⟨S5, y3_5, y4_5⟩ := q
  unfold b_X1_tensWithout_5 at Hf
  try dsimp only at Hf
  try dsimp only at hP
  try dsimp only at hl
  try dsimp only
  refine lv_iload hx hb dX1_tensWithout_5 (lv_at hl 4 rfl) ?_
  refine lv_aload_n hx hb dX1_tensWithout_7 rfl (lv_at hl 0 rfl) ?_
  obtain ⟨hk_a0, Hf⟩ := c_g_some Hf
  obtain ⟨q8, hq8, Hf⟩ := c_n_some Hf
  refine fg_2_4 hx hb hts hown hK hP hk_a0 lkf_X1_12 hq8 dX1_tensWithout_8 ?_
  obtain ⟨hk_q8, Hf⟩ := c_g_some Hf
  obtain ⟨r11, T11, hq11, Hf⟩ := c_c_some Hf
  refine r_cV (n := 0) (As := []) (rest := [.int y4_5]) ⟨hx, hb, hml, hown, hts⟩ (s_Jx4a65c_size_8abf5 l X hq11) lkm_X1_38 (by decide +kernel) rfl (by decide) dX1_tensWithout_11 rfl rfl ⟨Nat.le_of_ble_eq_true rfl, Nat.le_of_ble_eq_true rfl⟩ hk_q8 rfl hl.1 (Nat.le_of_ble_eq_true rfl) ⟨Nat.le_of_ble_eq_true rfl, Nat.le_of_ble_eq_true rfl⟩ hK hRO hA hP hS (fun H locs hP hS => ?_)
  refine W.eq (g2 := F0 m 14 ls [.int r11, .int y4_5]) rfl ?_
  refine lv_icmp_ge hx hb dX1_tensWithout_14 (tgt := 62) (by decide) (fun hc => ?_) (fun hc => ?_)
  · have Hf := c_i_t Hf hc
    refine lv_iload_n hx hb dX1_tensWithout_62 rfl (lv_at hl 3 rfl) ?_
    cases Hf
    exact r_iret hx hb hr rfl hlocks dX1_tensWithout_63 (Nat.le_of_ble_eq_true rfl) (Nat.le_of_ble_eq_true rfl) hP hS
  have Hf := c_i_f Hf hc
  refine lv_aload_n hx hb dX1_tensWithout_17 rfl (lv_at hl 0 rfl) ?_
  obtain ⟨hk_a0, Hf⟩ := c_g_some Hf
  obtain ⟨q18, hq18, Hf⟩ := c_n_some Hf
  refine fg_2_4 hx hb hts hown hK hP hk_a0 lkf_X1_12 hq18 dX1_tensWithout_18 ?_
  refine lv_iload hx hb dX1_tensWithout_21 (lv_at hl 4 rfl) ?_
  obtain ⟨hk_q18, Hf⟩ := c_g_some Hf
  obtain ⟨r23, T23, hq23, Hf⟩ := c_c_some Hf
  refine r_cV (n := 1) (As := [.int y4_5]) (rest := []) ⟨hx, hb, hml, hown, hts⟩ (s_Jx4a65c_get_915e3 l X hq23) lkm_X1_42 (by decide +kernel) rfl (by decide) dX1_tensWithout_23 rfl rfl ⟨Nat.le_of_ble_eq_true rfl, Nat.le_of_ble_eq_true rfl⟩ hk_q18 rfl hl.1 (Nat.le_of_ble_eq_true rfl) ⟨Nat.le_of_ble_eq_true rfl, Nat.le_of_ble_eq_true rfl⟩ hK hRO hA hP hS (fun H locs hP hS => ?_)
  obtain ⟨p23, ep23, Hf⟩ := c_n_some Hf
  subst ep23
  refine W.eq (g2 := F0 m 26 ls [.ref p23]) rfl ?_
  obtain ⟨hk_p23, Hf⟩ := c_g_some Hf
  refine va_castE hx hb hown (hts _ (lg_1 518 rfl rfl)) (st_recv hK hP hk_p23 (by decide) rfl) dX1_tensWithout_26 ?_
  refine lv_astore (lv' := [(5, .ref p23), (0, .ref a0), (1, .int x1), (2, .ref x2), (3, .int y3_5), (4, .int y4_5)]) hx hb dX1_tensWithout_29 hl (by decide) rfl (fun ls hl => ?_)
  refine lv_iload_n hx hb dX1_tensWithout_31 rfl (lv_at hl 4 rfl) ?_
  refine lv_aload hx hb dX1_tensWithout_32 (lv_at hl 0 rfl) ?_
  refine fg_3_5 hx hb hts hown hK hP hk_p23 lkf_X1_75 dX1_tensWithout_34 ?_
  refine lv_iload_n hx hb dX1_tensWithout_37 rfl (lv_at hl 2 rfl) ?_
  obtain ⟨r38, T38, hq38, Hf⟩ := c_c_some Hf
  refine r_cN (n := 2) (As := [.int (st_fi T23 305 p23), .int x1]) (rest := [.int y3_5]) ⟨hx, hb, hml, hown, hts⟩ (s_X8_holds l X hq38) lkm_X1_78 lkn_X1_78 (by decide +kernel) dX1_tensWithout_38 rfl rfl ⟨Nat.le_of_ble_eq_true rfl, Nat.le_of_ble_eq_true rfl⟩ rfl hl.1 (Nat.le_of_ble_eq_true rfl) ⟨Nat.le_of_ble_eq_true rfl, Nat.le_of_ble_eq_true rfl⟩ hK hRO hA hP hS (fun H locs hP hS => ?_)
  refine W.eq (g2 := F0 m 41 ls [.int r38, .int y3_5]) rfl ?_
  have hJ54 : ∀ (S54 : st_T) (u0_54 : Int32), j_X1_tensWithout_54 rec5 y3_5 y4_5 S54 u0_54 = some (rr, SE) → ∀ (H : Heap) (locs : List Loc) (ls : Array Slot), st_HP X (st_A S) S54 H → va_S (st_A S) s.heap H locs → lv_has ls 6 [(0, .ref a0), (1, .int x1), (2, .ref x2), (4, .int y4_5)] → W p l e { frames := 3, cells := 0, slots := 0, locals := 64 } s m args below meth c H locs 0 0 (MQ below (st_Q X (st_A S) (some (.int rr)) SE) args s 0 0 (st_A S)) (F0 m 54 ls [.int u0_54, .int y3_5]) := by
    intro S54 u0_54 Hf H locs ls hP hS hl
    unfold j_X1_tensWithout_54 at Hf
    refine lv_iadd hx hb dX1_tensWithout_54 ?_
    refine lv_topi (fun z3_55 ez3_55 => ?_)
    have Hf := c_l_ren Hf ez3_55
    refine lv_istore_n (lv' := [(3, .int z3_55), (0, .ref a0), (1, .int x1), (2, .ref x2), (4, .int y4_5)]) hx hb dX1_tensWithout_55 rfl hl (by decide) rfl (fun ls hl => ?_)
    refine lv_iinc (v := (y4_5 + 1)) (lv' := [(4, .int (y4_5 + 1)), (3, .int z3_55), (0, .ref a0), (1, .int x1), (2, .ref x2)]) hx hb dX1_tensWithout_56 hl (k := 4) rfl rfl (by decide) rfl (fun ls hl => ?_)
    refine lv_goto hx hb dX1_tensWithout_59 (tgt := 5) (by decide) ?_
    exact hrec5 (S54, z3_55, (y4_5 + 1)) Hf _ _ _ hP hS (lv_sub hl [2, 3, 4, 1, 0] rfl)
  refine lv_if_eq hx hb dX1_tensWithout_41 (tgt := 48) (by decide) (fun hc => ?_) (fun hc => ?_)
  · have Hf := c_i_t Hf hc
    refine lv_aload hx hb dX1_tensWithout_48 (lv_at hl 0 rfl) ?_
    refine lv_aload_n hx hb dX1_tensWithout_50 rfl (lv_at hl 3 rfl) ?_
    obtain ⟨hk_p23, Hf⟩ := c_g_some Hf
    obtain ⟨r51, T51, hq51, Hf⟩ := c_c_some Hf
    refine r_cV (n := 1) (As := [.ref x2]) (rest := [.int y3_5]) ⟨hx, hb, hml, hown, hts⟩ (s_X2_tensInCommon l X hq51) lkm_X1_48 (by decide +kernel) rfl (by decide) dX1_tensWithout_51 rfl rfl ⟨Nat.le_of_ble_eq_true rfl, Nat.le_of_ble_eq_true rfl⟩ hk_p23 rfl hl.1 (Nat.le_of_ble_eq_true rfl) ⟨Nat.le_of_ble_eq_true rfl, Nat.le_of_ble_eq_true rfl⟩ hK hRO hA hP hS (fun H locs hP hS => ?_)
    refine W.eq (g2 := F0 m 54 ls [.int r51, .int y3_5]) rfl ?_
    exact hJ54 T51 r51 Hf _ _ _ hP hS (lv_sub hl [1, 2, 3, 5] rfl)
  have Hf := c_i_f Hf hc
  refine lv_iconst (v := 0) hx hb dX1_tensWithout_44 (by decide) ?_
  refine lv_goto hx hb dX1_tensWithout_45 (tgt := 54) (by decide) ?_
  exact hJ54 T38 0 Hf _ _ _ hP hS (lv_sub hl [1, 2, 3, 5] rfl)

def j_X1_tensDeniedBy_56 (rec4 : st_T × Int32 × Int32 → Option (Int32 × st_T)) (y3_4 : Int32) (S56 : st_T) (y2_56 : Int32) : Option (Int32 × st_T) :=
  (rec4 (S56, y2_56, (y3_4 + 1)))
def b_X1_tensDeniedBy_4 (a0 : Nat) (x1 : Nat) (rec4 : st_T × Int32 × Int32 → Option (Int32 × st_T)) (q : st_T × Int32 × Int32) : Option (Int32 × st_T) :=
  (fun (S4 : st_T) (y2_4 : Int32) (y3_4 : Int32) =>
  (c_g (st_K S4 a0 = 3) (c_n (st_fr S4 204 a0) (fun (q6 : Nat) => (c_g (st_K S4 q6 = 1) (c_c (f_Jx4a65c_size_8abf5 S4 q6) (fun (r9 : Int32) (T9 : st_T) => (c_i (r9 ≤ y3_4) (some (y2_4, T9)) (c_g (st_K T9 a0 = 3) (c_n (st_fr T9 204 a0) (fun (q16 : Nat) => (c_g (st_K T9 q16 = 1) (c_c (f_Jx4a65c_get_915e3 T9 q16 y3_4) (fun (r20 : Option Nat) (T20 : st_T) => (c_n r20 (fun (p20 : Nat) => (c_g (st_K T20 p20 = 4) (c_g (st_K T20 x1 = 3) (c_c (f_X8_holds T20 (st_fi T20 305 p20) (st_fi T20 201 x1)) (fun (r37 : Int32) (T37 : st_T) => (c_i (r37 = 0) (j_X1_tensDeniedBy_56 rec4 y3_4 T37 y2_4) (c_g (st_K T37 a0 = 3) (c_g (st_K T37 x1 = 3) (c_c (f_X1_tensWithout T37 x1 (st_fi T37 201 a0) p20) (fun (r51 : Int32) (T51 : st_T) => (c_l (y2_4 + r51) (fun (z2_55 : Int32) => (j_X1_tensDeniedBy_56 rec4 y3_4 T51 z2_55)))))))))))))))))))))))))))) q.1 q.2.1 q.2.2
set_option maxRecDepth 100000 in
def f_X1_tensDeniedBy (S : st_T) (a0 : Nat) (x1 : Nat) : Option (Int32 × st_T) :=
  (c_w (b_X1_tensDeniedBy_4 a0 x1) c_N (S, 0, 0))
set_option maxRecDepth 100000 in
set_option maxHeartbeats 4000000 in
theorem s_X1_tensDeniedBy (l : Launch) (X : st_I) {S SE : st_T} {a0 : Nat} {x1 : Nat} {rr : Int32} (Hf : f_X1_tensDeniedBy S a0 x1 = some (rr, SE)) : Met l yX1_tensDeniedBy (Cond.code yX1_tensDeniedBy cX1_tensDeniedBy 5 (some .int) :: lw_g) { frames := 4, cells := 0, slots := 0, locals := 89 } (st_P X S [.ref a0, .ref x1]) (st_Q X (st_A S) (some (.int rr)) SE) 0 0 (st_A S) := by
  refine st_ofW (by decide) (Nat.le_of_ble_eq_true rfl) ?_
  intro p e s m args below meth c hx hb hr hml hlocks hnm hts hown hK hRO hA hP hS ls hl
  have hown : s.vm.findClass RX1 = some m.cls := hown
  have hl : lv_has ls 5 [(0, .ref a0), (1, .ref x1)] := hl
  unfold f_X1_tensDeniedBy at Hf
  refine lv_iconst (v := 0) hx hb dX1_tensDeniedBy_0 (by decide) ?_
  refine lv_istore_n (lv' := [(2, .int 0), (0, .ref a0), (1, .ref x1)]) hx hb dX1_tensDeniedBy_1 rfl hl (by decide) rfl (fun ls hl => ?_)
  refine lv_iconst (v := 0) hx hb dX1_tensDeniedBy_2 (by decide) ?_
  refine lv_istore_n (lv' := [(3, .int 0), (2, .int 0), (0, .ref a0), (1, .ref x1)]) hx hb dX1_tensDeniedBy_3 rfl hl (by decide) rfl (fun ls hl => ?_)
  refine (c_w_ind (P := fun (q : st_T × Int32 × Int32) => ∀ (H : Heap) (locs : List Loc) (ls : Array Slot), st_HP X (st_A S) q.1 H → va_S (st_A S) s.heap H locs → lv_has ls 5 [(0, .ref a0), (1, .ref x1), (2, .int q.2.1), (3, .int q.2.2)] → W p l e { frames := 4, cells := 0, slots := 0, locals := 89 } s m args below meth c H locs 0 0 (MQ below (st_Q X (st_A S) (some (.int rr)) SE) args s 0 0 (st_A S)) (F0 m 4 ls [])) ?_ _ _ Hf) _ _ _ hP hS (lv_sub hl [2, 3, 1, 0] rfl)
  intro rec4 hrec4 q Hf H locs ls hP hS hl
  obtain ⟨S4, y2_4, y3_4⟩ := q
  unfold b_X1_tensDeniedBy_4 at Hf
  try dsimp only at Hf
  try dsimp only at hP
  try dsimp only at hl
  try dsimp only
  refine lv_iload_n hx hb dX1_tensDeniedBy_4 rfl (lv_at hl 3 rfl) ?_
  refine lv_aload_n hx hb dX1_tensDeniedBy_5 rfl (lv_at hl 0 rfl) ?_
  obtain ⟨hk_a0, Hf⟩ := c_g_some Hf
  obtain ⟨q6, hq6, Hf⟩ := c_n_some Hf
  refine fg_2_4 hx hb hts hown hK hP hk_a0 lkf_X1_12 hq6 dX1_tensDeniedBy_6 ?_
  obtain ⟨hk_q6, Hf⟩ := c_g_some Hf
  obtain ⟨r9, T9, hq9, Hf⟩ := c_c_some Hf
  refine r_cV (n := 0) (As := []) (rest := [.int y3_4]) ⟨hx, hb, hml, hown, hts⟩ (s_Jx4a65c_size_8abf5 l X hq9) lkm_X1_38 (by decide +kernel) rfl (by decide) dX1_tensDeniedBy_9 rfl rfl ⟨Nat.le_of_ble_eq_true rfl, Nat.le_of_ble_eq_true rfl⟩ hk_q6 rfl hl.1 (Nat.le_of_ble_eq_true rfl) ⟨Nat.le_of_ble_eq_true rfl, Nat.le_of_ble_eq_true rfl⟩ hK hRO hA hP hS (fun H locs hP hS => ?_)
  refine W.eq (g2 := F0 m 12 ls [.int r9, .int y3_4]) rfl ?_
  refine lv_icmp_ge hx hb dX1_tensDeniedBy_12 (tgt := 62) (by decide) (fun hc => ?_) (fun hc => ?_)
  · have Hf := c_i_t Hf hc
    refine lv_iload_n hx hb dX1_tensDeniedBy_62 rfl (lv_at hl 2 rfl) ?_
    cases Hf
    exact r_iret hx hb hr rfl hlocks dX1_tensDeniedBy_63 (Nat.le_of_ble_eq_true rfl) (Nat.le_of_ble_eq_true rfl) hP hS
  have Hf := c_i_f Hf hc
  refine lv_aload_n hx hb dX1_tensDeniedBy_15 rfl (lv_at hl 0 rfl) ?_
  obtain ⟨hk_a0, Hf⟩ := c_g_some Hf
  obtain ⟨q16, hq16, Hf⟩ := c_n_some Hf
  refine fg_2_4 hx hb hts hown hK hP hk_a0 lkf_X1_12 hq16 dX1_tensDeniedBy_16 ?_
  refine lv_iload_n hx hb dX1_tensDeniedBy_19 rfl (lv_at hl 3 rfl) ?_
  obtain ⟨hk_q16, Hf⟩ := c_g_some Hf
  obtain ⟨r20, T20, hq20, Hf⟩ := c_c_some Hf
  refine r_cV (n := 1) (As := [.int y3_4]) (rest := []) ⟨hx, hb, hml, hown, hts⟩ (s_Jx4a65c_get_915e3 l X hq20) lkm_X1_42 (by decide +kernel) rfl (by decide) dX1_tensDeniedBy_20 rfl rfl ⟨Nat.le_of_ble_eq_true rfl, Nat.le_of_ble_eq_true rfl⟩ hk_q16 rfl hl.1 (Nat.le_of_ble_eq_true rfl) ⟨Nat.le_of_ble_eq_true rfl, Nat.le_of_ble_eq_true rfl⟩ hK hRO hA hP hS (fun H locs hP hS => ?_)
  obtain ⟨p20, ep20, Hf⟩ := c_n_some Hf
  subst ep20
  refine W.eq (g2 := F0 m 23 ls [.ref p20]) rfl ?_
  obtain ⟨hk_p20, Hf⟩ := c_g_some Hf
  refine va_castE hx hb hown (hts _ (lg_1 518 rfl rfl)) (st_recv hK hP hk_p20 (by decide) rfl) dX1_tensDeniedBy_23 ?_
  refine lv_astore (lv' := [(4, .ref p20), (0, .ref a0), (1, .ref x1), (2, .int y2_4), (3, .int y3_4)]) hx hb dX1_tensDeniedBy_26 hl (by decide) rfl (fun ls hl => ?_)
  refine lv_aload hx hb dX1_tensDeniedBy_28 (lv_at hl 0 rfl) ?_
  refine fg_3_5 hx hb hts hown hK hP hk_p20 lkf_X1_75 dX1_tensDeniedBy_30 ?_
  refine lv_aload_n hx hb dX1_tensDeniedBy_33 rfl (lv_at hl 2 rfl) ?_
  obtain ⟨hk_x1, Hf⟩ := c_g_some Hf
  refine fg_2_1 hx hb hts hown hK hP hk_x1 lkf_X1_29 dX1_tensDeniedBy_34 ?_
  obtain ⟨r37, T37, hq37, Hf⟩ := c_c_some Hf
  refine r_cN (n := 2) (As := [.int (st_fi T20 305 p20), .int (st_fi T20 201 x1)]) (rest := []) ⟨hx, hb, hml, hown, hts⟩ (s_X8_holds l X hq37) lkm_X1_78 lkn_X1_78 (by decide +kernel) dX1_tensDeniedBy_37 rfl rfl ⟨Nat.le_of_ble_eq_true rfl, Nat.le_of_ble_eq_true rfl⟩ rfl hl.1 (Nat.le_of_ble_eq_true rfl) ⟨Nat.le_of_ble_eq_true rfl, Nat.le_of_ble_eq_true rfl⟩ hK hRO hA hP hS (fun H locs hP hS => ?_)
  refine W.eq (g2 := F0 m 40 ls [.int r37]) rfl ?_
  have hJ56 : ∀ (S56 : st_T) (y2_56 : Int32), j_X1_tensDeniedBy_56 rec4 y3_4 S56 y2_56 = some (rr, SE) → ∀ (H : Heap) (locs : List Loc) (ls : Array Slot), st_HP X (st_A S) S56 H → va_S (st_A S) s.heap H locs → lv_has ls 5 [(0, .ref a0), (1, .ref x1), (2, .int y2_56), (3, .int y3_4)] → W p l e { frames := 4, cells := 0, slots := 0, locals := 89 } s m args below meth c H locs 0 0 (MQ below (st_Q X (st_A S) (some (.int rr)) SE) args s 0 0 (st_A S)) (F0 m 56 ls []) := by
    intro S56 y2_56 Hf H locs ls hP hS hl
    unfold j_X1_tensDeniedBy_56 at Hf
    refine lv_iinc (v := (y3_4 + 1)) (lv' := [(3, .int (y3_4 + 1)), (0, .ref a0), (1, .ref x1), (2, .int y2_56)]) hx hb dX1_tensDeniedBy_56 hl (k := 3) rfl rfl (by decide) rfl (fun ls hl => ?_)
    refine lv_goto hx hb dX1_tensDeniedBy_59 (tgt := 4) (by decide) ?_
    exact hrec4 (S56, y2_56, (y3_4 + 1)) Hf _ _ _ hP hS (lv_sub hl [1, 2, 3, 0] rfl)
  refine lv_if_eq hx hb dX1_tensDeniedBy_40 (tgt := 56) (by decide) (fun hc => ?_) (fun hc => ?_)
  · have Hf := c_i_t Hf hc
    exact hJ56 T37 y2_4 Hf _ _ _ hP hS (lv_sub hl [1, 2, 3, 4] rfl)
  have Hf := c_i_f Hf hc
  refine lv_iload_n hx hb dX1_tensDeniedBy_43 rfl (lv_at hl 3 rfl) ?_
  refine lv_aload_n hx hb dX1_tensDeniedBy_44 rfl (lv_at hl 2 rfl) ?_
  refine lv_aload_n hx hb dX1_tensDeniedBy_45 rfl (lv_at hl 1 rfl) ?_
  obtain ⟨hk_a0, Hf⟩ := c_g_some Hf
  refine fg_2_1 hx hb hts hown hK hP hk_a0 lkf_X1_29 dX1_tensDeniedBy_46 ?_
  refine lv_aload hx hb dX1_tensDeniedBy_49 (lv_at hl 0 rfl) ?_
  obtain ⟨hk_x1, Hf⟩ := c_g_some Hf
  obtain ⟨r51, T51, hq51, Hf⟩ := c_c_some Hf
  refine r_cV (n := 2) (As := [.int (st_fi T37 201 a0), .ref p20]) (rest := [.int y2_4]) ⟨hx, hb, hml, hown, hts⟩ (s_X1_tensWithout l X hq51) lkm_X1_81 (by decide +kernel) rfl (by decide) dX1_tensDeniedBy_51 rfl rfl ⟨Nat.le_of_ble_eq_true rfl, Nat.le_of_ble_eq_true rfl⟩ hk_x1 rfl hl.1 (Nat.le_of_ble_eq_true rfl) ⟨Nat.le_of_ble_eq_true rfl, Nat.le_of_ble_eq_true rfl⟩ hK hRO hA hP hS (fun H locs hP hS => ?_)
  refine W.eq (g2 := F0 m 54 ls [.int r51, .int y2_4]) rfl ?_
  refine lv_iadd hx hb dX1_tensDeniedBy_54 ?_
  refine lv_topi (fun z2_55 ez2_55 => ?_)
  have Hf := c_l_ren Hf ez2_55
  refine lv_istore_n (lv' := [(2, .int z2_55), (4, .ref p20), (0, .ref a0), (1, .ref x1), (3, .int y3_4)]) hx hb dX1_tensDeniedBy_55 rfl hl (by decide) rfl (fun ls hl => ?_)
  exact hJ56 T51 z2_55 Hf _ _ _ hP hS (lv_sub hl [2, 3, 0, 4] rfl)

def b_X1_tensWithoutLine_6 (a0 : Nat) (rec6 : st_T × Int32 × Int32 → Option (Int32 × st_T)) (q : st_T × Int32 × Int32) : Option (Int32 × st_T) :=
  (fun (S6 : st_T) (y1_6 : Int32) (y2_6 : Int32) =>
  (c_g (st_K S6 a0 = 3) (c_n (st_fr S6 204 a0) (fun (q8 : Nat) => (c_g (st_K S6 q8 = 1) (c_c (f_Jx4a65c_size_8abf5 S6 q8) (fun (r11 : Int32) (T11 : st_T) => (c_i (r11 ≤ y2_6) (some (y1_6, T11)) (c_g (st_K T11 a0 = 3) (c_n (st_fr T11 204 a0) (fun (q19 : Nat) => (c_g (st_K T11 q19 = 1) (c_c (f_Jx4a65c_get_915e3 T11 q19 y2_6) (fun (r23 : Option Nat) (T23 : st_T) => (c_n r23 (fun (p23 : Nat) => (c_g (st_K T23 p23 = 4) (c_c (f_X2_length T23 p23) (fun (r29 : Int32) (T29 : st_T) => (c_l (y1_6 - r29) (fun (z1_33 : Int32) => (rec6 (T29, z1_33, (y2_6 + 1)))))))))))))))))))))))) q.1 q.2.1 q.2.2
set_option maxRecDepth 100000 in
def f_X1_tensWithoutLine (S : st_T) (a0 : Nat) : Option (Int32 × st_T) :=
  (c_w (b_X1_tensWithoutLine_6 a0) c_N (S, 144, 0))
set_option maxRecDepth 100000 in
set_option maxHeartbeats 4000000 in
theorem s_X1_tensWithoutLine (l : Launch) (X : st_I) {S SE : st_T} {a0 : Nat} {rr : Int32} (Hf : f_X1_tensWithoutLine S a0 = some (rr, SE)) : Met l yX1_tensWithoutLine (Cond.code yX1_tensWithoutLine cX1_tensWithoutLine 3 (some .int) :: lw_g) { frames := 3, cells := 0, slots := 0, locals := 64 } (st_P X S [.ref a0]) (st_Q X (st_A S) (some (.int rr)) SE) 0 0 (st_A S) := by
  refine st_ofW (by decide) (Nat.le_of_ble_eq_true rfl) ?_
  intro p e s m args below meth c hx hb hr hml hlocks hnm hts hown hK hRO hA hP hS ls hl
  have hown : s.vm.findClass RX1 = some m.cls := hown
  have hl : lv_has ls 3 [(0, .ref a0)] := hl
  unfold f_X1_tensWithoutLine at Hf
  refine lv_sipush (v := 144) hx hb dX1_tensWithoutLine_0 (by decide) ?_
  refine lv_istore_n (lv' := [(1, .int 144), (0, .ref a0)]) hx hb dX1_tensWithoutLine_3 rfl hl (by decide) rfl (fun ls hl => ?_)
  refine lv_iconst (v := 0) hx hb dX1_tensWithoutLine_4 (by decide) ?_
  refine lv_istore_n (lv' := [(2, .int 0), (1, .int 144), (0, .ref a0)]) hx hb dX1_tensWithoutLine_5 rfl hl (by decide) rfl (fun ls hl => ?_)
  refine (c_w_ind (P := fun (q : st_T × Int32 × Int32) => ∀ (H : Heap) (locs : List Loc) (ls : Array Slot), st_HP X (st_A S) q.1 H → va_S (st_A S) s.heap H locs → lv_has ls 3 [(0, .ref a0), (1, .int q.2.1), (2, .int q.2.2)] → W p l e { frames := 3, cells := 0, slots := 0, locals := 64 } s m args below meth c H locs 0 0 (MQ below (st_Q X (st_A S) (some (.int rr)) SE) args s 0 0 (st_A S)) (F0 m 6 ls [])) ?_ _ _ Hf) _ _ _ hP hS (lv_sub hl [2, 1, 0] rfl)
  intro rec6 hrec6 q Hf H locs ls hP hS hl
  obtain ⟨S6, y1_6, y2_6⟩ := q
  unfold b_X1_tensWithoutLine_6 at Hf
  try dsimp only at Hf
  try dsimp only at hP
  try dsimp only at hl
  try dsimp only
  refine lv_iload_n hx hb dX1_tensWithoutLine_6 rfl (lv_at hl 2 rfl) ?_
  refine lv_aload_n hx hb dX1_tensWithoutLine_7 rfl (lv_at hl 0 rfl) ?_
  obtain ⟨hk_a0, Hf⟩ := c_g_some Hf
  obtain ⟨q8, hq8, Hf⟩ := c_n_some Hf
  refine fg_2_4 hx hb hts hown hK hP hk_a0 lkf_X1_12 hq8 dX1_tensWithoutLine_8 ?_
  obtain ⟨hk_q8, Hf⟩ := c_g_some Hf
  obtain ⟨r11, T11, hq11, Hf⟩ := c_c_some Hf
  refine r_cV (n := 0) (As := []) (rest := [.int y2_6]) ⟨hx, hb, hml, hown, hts⟩ (s_Jx4a65c_size_8abf5 l X hq11) lkm_X1_38 (by decide +kernel) rfl (by decide) dX1_tensWithoutLine_11 rfl rfl ⟨Nat.le_of_ble_eq_true rfl, Nat.le_of_ble_eq_true rfl⟩ hk_q8 rfl hl.1 (Nat.le_of_ble_eq_true rfl) ⟨Nat.le_of_ble_eq_true rfl, Nat.le_of_ble_eq_true rfl⟩ hK hRO hA hP hS (fun H locs hP hS => ?_)
  refine W.eq (g2 := F0 m 14 ls [.int r11, .int y2_6]) rfl ?_
  refine lv_icmp_ge hx hb dX1_tensWithoutLine_14 (tgt := 40) (by decide) (fun hc => ?_) (fun hc => ?_)
  · have Hf := c_i_t Hf hc
    refine lv_iload_n hx hb dX1_tensWithoutLine_40 rfl (lv_at hl 1 rfl) ?_
    cases Hf
    exact r_iret hx hb hr rfl hlocks dX1_tensWithoutLine_41 (Nat.le_of_ble_eq_true rfl) (Nat.le_of_ble_eq_true rfl) hP hS
  have Hf := c_i_f Hf hc
  refine lv_iload_n hx hb dX1_tensWithoutLine_17 rfl (lv_at hl 1 rfl) ?_
  refine lv_aload_n hx hb dX1_tensWithoutLine_18 rfl (lv_at hl 0 rfl) ?_
  obtain ⟨hk_a0, Hf⟩ := c_g_some Hf
  obtain ⟨q19, hq19, Hf⟩ := c_n_some Hf
  refine fg_2_4 hx hb hts hown hK hP hk_a0 lkf_X1_12 hq19 dX1_tensWithoutLine_19 ?_
  refine lv_iload_n hx hb dX1_tensWithoutLine_22 rfl (lv_at hl 2 rfl) ?_
  obtain ⟨hk_q19, Hf⟩ := c_g_some Hf
  obtain ⟨r23, T23, hq23, Hf⟩ := c_c_some Hf
  refine r_cV (n := 1) (As := [.int y2_6]) (rest := [.int y1_6]) ⟨hx, hb, hml, hown, hts⟩ (s_Jx4a65c_get_915e3 l X hq23) lkm_X1_42 (by decide +kernel) rfl (by decide) dX1_tensWithoutLine_23 rfl rfl ⟨Nat.le_of_ble_eq_true rfl, Nat.le_of_ble_eq_true rfl⟩ hk_q19 rfl hl.1 (Nat.le_of_ble_eq_true rfl) ⟨Nat.le_of_ble_eq_true rfl, Nat.le_of_ble_eq_true rfl⟩ hK hRO hA hP hS (fun H locs hP hS => ?_)
  obtain ⟨p23, ep23, Hf⟩ := c_n_some Hf
  subst ep23
  refine W.eq (g2 := F0 m 26 ls [.ref p23, .int y1_6]) rfl ?_
  obtain ⟨hk_p23, Hf⟩ := c_g_some Hf
  refine va_castE hx hb hown (hts _ (lg_1 518 rfl rfl)) (st_recv hK hP hk_p23 (by decide) rfl) dX1_tensWithoutLine_26 ?_
  obtain ⟨r29, T29, hq29, Hf⟩ := c_c_some Hf
  refine r_cV (n := 0) (As := []) (rest := [.int y1_6]) ⟨hx, hb, hml, hown, hts⟩ (s_X2_length l X hq29) lkm_X1_72 (by decide +kernel) rfl (by decide) dX1_tensWithoutLine_29 rfl rfl ⟨Nat.le_of_ble_eq_true rfl, Nat.le_of_ble_eq_true rfl⟩ hk_p23 rfl hl.1 (Nat.le_of_ble_eq_true rfl) ⟨Nat.le_of_ble_eq_true rfl, Nat.le_of_ble_eq_true rfl⟩ hK hRO hA hP hS (fun H locs hP hS => ?_)
  refine W.eq (g2 := F0 m 32 ls [.int r29, .int y1_6]) rfl ?_
  refine lv_isub hx hb dX1_tensWithoutLine_32 ?_
  refine lv_topi (fun z1_33 ez1_33 => ?_)
  have Hf := c_l_ren Hf ez1_33
  refine lv_istore_n (lv' := [(1, .int z1_33), (0, .ref a0), (2, .int y2_6)]) hx hb dX1_tensWithoutLine_33 rfl hl (by decide) rfl (fun ls hl => ?_)
  refine lv_iinc (v := (y2_6 + 1)) (lv' := [(2, .int (y2_6 + 1)), (1, .int z1_33), (0, .ref a0)]) hx hb dX1_tensWithoutLine_34 hl (k := 2) rfl rfl (by decide) rfl (fun ls hl => ?_)
  refine lv_goto hx hb dX1_tensWithoutLine_37 (tgt := 6) (by decide) ?_
  exact hrec6 (T29, z1_33, (y2_6 + 1)) Hf _ _ _ hP hS (lv_sub hl [2, 1, 0] rfl)

def b_X1_tensMended_4 (a0 : Nat) (rec4 : st_T × Int32 × Int32 → Option (Int32 × st_T)) (q : st_T × Int32 × Int32) : Option (Int32 × st_T) :=
  (fun (S4 : st_T) (y1_4 : Int32) (y2_4 : Int32) =>
  (c_g (st_K S4 a0 = 3) (c_n (st_fr S4 204 a0) (fun (q6 : Nat) => (c_g (st_K S4 q6 = 1) (c_c (f_Jx4a65c_size_8abf5 S4 q6) (fun (r9 : Int32) (T9 : st_T) => (c_i (r9 ≤ y2_4) (some (y1_4, T9)) (c_g (st_K T9 a0 = 3) (c_n (st_fr T9 204 a0) (fun (q17 : Nat) => (c_g (st_K T9 q17 = 1) (c_c (f_Jx4a65c_get_915e3 T9 q17 y2_4) (fun (r21 : Option Nat) (T21 : st_T) => (c_n r21 (fun (p21 : Nat) => (c_g (st_K T21 p21 = 4) (c_l (y1_4 + (st_fi T21 308 p21)) (fun (z1_31 : Int32) => (rec4 (T21, z1_31, (y2_4 + 1)))))))))))))))))))))) q.1 q.2.1 q.2.2
set_option maxRecDepth 100000 in
def f_X1_tensMended (S : st_T) (a0 : Nat) : Option (Int32 × st_T) :=
  (c_w (b_X1_tensMended_4 a0) c_N (S, 0, 0))
set_option maxRecDepth 100000 in
set_option maxHeartbeats 4000000 in
theorem s_X1_tensMended (l : Launch) (X : st_I) {S SE : st_T} {a0 : Nat} {rr : Int32} (Hf : f_X1_tensMended S a0 = some (rr, SE)) : Met l yX1_tensMended (Cond.code yX1_tensMended cX1_tensMended 3 (some .int) :: lw_g) { frames := 3, cells := 0, slots := 0, locals := 64 } (st_P X S [.ref a0]) (st_Q X (st_A S) (some (.int rr)) SE) 0 0 (st_A S) := by
  refine st_ofW (by decide) (Nat.le_of_ble_eq_true rfl) ?_
  intro p e s m args below meth c hx hb hr hml hlocks hnm hts hown hK hRO hA hP hS ls hl
  have hown : s.vm.findClass RX1 = some m.cls := hown
  have hl : lv_has ls 3 [(0, .ref a0)] := hl
  unfold f_X1_tensMended at Hf
  refine lv_iconst (v := 0) hx hb dX1_tensMended_0 (by decide) ?_
  refine lv_istore_n (lv' := [(1, .int 0), (0, .ref a0)]) hx hb dX1_tensMended_1 rfl hl (by decide) rfl (fun ls hl => ?_)
  refine lv_iconst (v := 0) hx hb dX1_tensMended_2 (by decide) ?_
  refine lv_istore_n (lv' := [(2, .int 0), (1, .int 0), (0, .ref a0)]) hx hb dX1_tensMended_3 rfl hl (by decide) rfl (fun ls hl => ?_)
  refine (c_w_ind (P := fun (q : st_T × Int32 × Int32) => ∀ (H : Heap) (locs : List Loc) (ls : Array Slot), st_HP X (st_A S) q.1 H → va_S (st_A S) s.heap H locs → lv_has ls 3 [(0, .ref a0), (1, .int q.2.1), (2, .int q.2.2)] → W p l e { frames := 3, cells := 0, slots := 0, locals := 64 } s m args below meth c H locs 0 0 (MQ below (st_Q X (st_A S) (some (.int rr)) SE) args s 0 0 (st_A S)) (F0 m 4 ls [])) ?_ _ _ Hf) _ _ _ hP hS (lv_sub hl [2, 1, 0] rfl)
  intro rec4 hrec4 q Hf H locs ls hP hS hl
  obtain ⟨S4, y1_4, y2_4⟩ := q
  unfold b_X1_tensMended_4 at Hf
  try dsimp only at Hf
  try dsimp only at hP
  try dsimp only at hl
  try dsimp only
  refine lv_iload_n hx hb dX1_tensMended_4 rfl (lv_at hl 2 rfl) ?_
  refine lv_aload_n hx hb dX1_tensMended_5 rfl (lv_at hl 0 rfl) ?_
  obtain ⟨hk_a0, Hf⟩ := c_g_some Hf
  obtain ⟨q6, hq6, Hf⟩ := c_n_some Hf
  refine fg_2_4 hx hb hts hown hK hP hk_a0 lkf_X1_12 hq6 dX1_tensMended_6 ?_
  obtain ⟨hk_q6, Hf⟩ := c_g_some Hf
  obtain ⟨r9, T9, hq9, Hf⟩ := c_c_some Hf
  refine r_cV (n := 0) (As := []) (rest := [.int y2_4]) ⟨hx, hb, hml, hown, hts⟩ (s_Jx4a65c_size_8abf5 l X hq9) lkm_X1_38 (by decide +kernel) rfl (by decide) dX1_tensMended_9 rfl rfl ⟨Nat.le_of_ble_eq_true rfl, Nat.le_of_ble_eq_true rfl⟩ hk_q6 rfl hl.1 (Nat.le_of_ble_eq_true rfl) ⟨Nat.le_of_ble_eq_true rfl, Nat.le_of_ble_eq_true rfl⟩ hK hRO hA hP hS (fun H locs hP hS => ?_)
  refine W.eq (g2 := F0 m 12 ls [.int r9, .int y2_4]) rfl ?_
  refine lv_icmp_ge hx hb dX1_tensMended_12 (tgt := 38) (by decide) (fun hc => ?_) (fun hc => ?_)
  · have Hf := c_i_t Hf hc
    refine lv_iload_n hx hb dX1_tensMended_38 rfl (lv_at hl 1 rfl) ?_
    cases Hf
    exact r_iret hx hb hr rfl hlocks dX1_tensMended_39 (Nat.le_of_ble_eq_true rfl) (Nat.le_of_ble_eq_true rfl) hP hS
  have Hf := c_i_f Hf hc
  refine lv_iload_n hx hb dX1_tensMended_15 rfl (lv_at hl 1 rfl) ?_
  refine lv_aload_n hx hb dX1_tensMended_16 rfl (lv_at hl 0 rfl) ?_
  obtain ⟨hk_a0, Hf⟩ := c_g_some Hf
  obtain ⟨q17, hq17, Hf⟩ := c_n_some Hf
  refine fg_2_4 hx hb hts hown hK hP hk_a0 lkf_X1_12 hq17 dX1_tensMended_17 ?_
  refine lv_iload_n hx hb dX1_tensMended_20 rfl (lv_at hl 2 rfl) ?_
  obtain ⟨hk_q17, Hf⟩ := c_g_some Hf
  obtain ⟨r21, T21, hq21, Hf⟩ := c_c_some Hf
  refine r_cV (n := 1) (As := [.int y2_4]) (rest := [.int y1_4]) ⟨hx, hb, hml, hown, hts⟩ (s_Jx4a65c_get_915e3 l X hq21) lkm_X1_42 (by decide +kernel) rfl (by decide) dX1_tensMended_21 rfl rfl ⟨Nat.le_of_ble_eq_true rfl, Nat.le_of_ble_eq_true rfl⟩ hk_q17 rfl hl.1 (Nat.le_of_ble_eq_true rfl) ⟨Nat.le_of_ble_eq_true rfl, Nat.le_of_ble_eq_true rfl⟩ hK hRO hA hP hS (fun H locs hP hS => ?_)
  obtain ⟨p21, ep21, Hf⟩ := c_n_some Hf
  subst ep21
  refine W.eq (g2 := F0 m 24 ls [.ref p21, .int y1_4]) rfl ?_
  obtain ⟨hk_p21, Hf⟩ := c_g_some Hf
  refine va_castE hx hb hown (hts _ (lg_1 518 rfl rfl)) (st_recv hK hP hk_p21 (by decide) rfl) dX1_tensMended_24 ?_
  refine fg_3_8 hx hb hts hown hK hP hk_p21 lkf_X1_65 dX1_tensMended_27 ?_
  refine lv_iadd hx hb dX1_tensMended_30 ?_
  refine lv_topi (fun z1_31 ez1_31 => ?_)
  have Hf := c_l_ren Hf ez1_31
  refine lv_istore_n (lv' := [(1, .int z1_31), (0, .ref a0), (2, .int y2_4)]) hx hb dX1_tensMended_31 rfl hl (by decide) rfl (fun ls hl => ?_)
  refine lv_iinc (v := (y2_4 + 1)) (lv' := [(2, .int (y2_4 + 1)), (1, .int z1_31), (0, .ref a0)]) hx hb dX1_tensMended_32 hl (k := 2) rfl rfl (by decide) rfl (fun ls hl => ?_)
  refine lv_goto hx hb dX1_tensMended_35 (tgt := 4) (by decide) ?_
  exact hrec4 (T21, z1_31, (y2_4 + 1)) Hf _ _ _ hP hS (lv_sub hl [2, 1, 0] rfl)

def j_X1_linesWithoutCode_39 (rec4 : st_T × Int32 × Int32 → Option (Int32 × st_T)) (y1_4 : Int32) (y2_4 : Int32) (S39 : st_T) (u0_39 : Int32) : Option (Int32 × st_T) :=
  (c_l (y1_4 + u0_39) (fun (z1_40 : Int32) => (rec4 (S39, z1_40, (y2_4 + 1)))))
def b_X1_linesWithoutCode_4 (a0 : Nat) (rec4 : st_T × Int32 × Int32 → Option (Int32 × st_T)) (q : st_T × Int32 × Int32) : Option (Int32 × st_T) :=
  (fun (S4 : st_T) (y1_4 : Int32) (y2_4 : Int32) =>
  (c_g (st_K S4 a0 = 3) (c_n (st_fr S4 204 a0) (fun (q6 : Nat) => (c_g (st_K S4 q6 = 1) (c_c (f_Jx4a65c_size_8abf5 S4 q6) (fun (r9 : Int32) (T9 : st_T) => (c_i (r9 ≤ y2_4) (some (y1_4, T9)) (c_g (st_K T9 a0 = 3) (c_n (st_fr T9 204 a0) (fun (q17 : Nat) => (c_g (st_K T9 q17 = 1) (c_c (f_Jx4a65c_get_915e3 T9 q17 y2_4) (fun (r21 : Option Nat) (T21 : st_T) => (c_n r21 (fun (p21 : Nat) => (c_g (st_K T21 p21 = 4) (c_i ((st_fi T21 306 p21) = (-1)) (j_X1_linesWithoutCode_39 rec4 y1_4 y2_4 T21 1) (j_X1_linesWithoutCode_39 rec4 y1_4 y2_4 T21 0))))))))))))))))))) q.1 q.2.1 q.2.2
set_option maxRecDepth 100000 in
def f_X1_linesWithoutCode (S : st_T) (a0 : Nat) : Option (Int32 × st_T) :=
  (c_w (b_X1_linesWithoutCode_4 a0) c_N (S, 0, 0))
set_option maxRecDepth 100000 in
set_option maxHeartbeats 4000000 in
theorem s_X1_linesWithoutCode (l : Launch) (X : st_I) {S SE : st_T} {a0 : Nat} {rr : Int32} (Hf : f_X1_linesWithoutCode S a0 = some (rr, SE)) : Met l yX1_linesWithoutCode (Cond.code yX1_linesWithoutCode cX1_linesWithoutCode 3 (some .int) :: lw_g) { frames := 3, cells := 0, slots := 0, locals := 64 } (st_P X S [.ref a0]) (st_Q X (st_A S) (some (.int rr)) SE) 0 0 (st_A S) := by
  refine st_ofW (by decide) (Nat.le_of_ble_eq_true rfl) ?_
  intro p e s m args below meth c hx hb hr hml hlocks hnm hts hown hK hRO hA hP hS ls hl
  have hown : s.vm.findClass RX1 = some m.cls := hown
  have hl : lv_has ls 3 [(0, .ref a0)] := hl
  unfold f_X1_linesWithoutCode at Hf
  refine lv_iconst (v := 0) hx hb dX1_linesWithoutCode_0 (by decide) ?_
  refine lv_istore_n (lv' := [(1, .int 0), (0, .ref a0)]) hx hb dX1_linesWithoutCode_1 rfl hl (by decide) rfl (fun ls hl => ?_)
  refine lv_iconst (v := 0) hx hb dX1_linesWithoutCode_2 (by decide) ?_
  refine lv_istore_n (lv' := [(2, .int 0), (1, .int 0), (0, .ref a0)]) hx hb dX1_linesWithoutCode_3 rfl hl (by decide) rfl (fun ls hl => ?_)
  refine (c_w_ind (P := fun (q : st_T × Int32 × Int32) => ∀ (H : Heap) (locs : List Loc) (ls : Array Slot), st_HP X (st_A S) q.1 H → va_S (st_A S) s.heap H locs → lv_has ls 3 [(0, .ref a0), (1, .int q.2.1), (2, .int q.2.2)] → W p l e { frames := 3, cells := 0, slots := 0, locals := 64 } s m args below meth c H locs 0 0 (MQ below (st_Q X (st_A S) (some (.int rr)) SE) args s 0 0 (st_A S)) (F0 m 4 ls [])) ?_ _ _ Hf) _ _ _ hP hS (lv_sub hl [2, 1, 0] rfl)
  intro rec4 hrec4 q Hf H locs ls hP hS hl
  obtain ⟨S4, y1_4, y2_4⟩ := q
  unfold b_X1_linesWithoutCode_4 at Hf
  try dsimp only at Hf
  try dsimp only at hP
  try dsimp only at hl
  try dsimp only
  refine lv_iload_n hx hb dX1_linesWithoutCode_4 rfl (lv_at hl 2 rfl) ?_
  refine lv_aload_n hx hb dX1_linesWithoutCode_5 rfl (lv_at hl 0 rfl) ?_
  obtain ⟨hk_a0, Hf⟩ := c_g_some Hf
  obtain ⟨q6, hq6, Hf⟩ := c_n_some Hf
  refine fg_2_4 hx hb hts hown hK hP hk_a0 lkf_X1_12 hq6 dX1_linesWithoutCode_6 ?_
  obtain ⟨hk_q6, Hf⟩ := c_g_some Hf
  obtain ⟨r9, T9, hq9, Hf⟩ := c_c_some Hf
  refine r_cV (n := 0) (As := []) (rest := [.int y2_4]) ⟨hx, hb, hml, hown, hts⟩ (s_Jx4a65c_size_8abf5 l X hq9) lkm_X1_38 (by decide +kernel) rfl (by decide) dX1_linesWithoutCode_9 rfl rfl ⟨Nat.le_of_ble_eq_true rfl, Nat.le_of_ble_eq_true rfl⟩ hk_q6 rfl hl.1 (Nat.le_of_ble_eq_true rfl) ⟨Nat.le_of_ble_eq_true rfl, Nat.le_of_ble_eq_true rfl⟩ hK hRO hA hP hS (fun H locs hP hS => ?_)
  refine W.eq (g2 := F0 m 12 ls [.int r9, .int y2_4]) rfl ?_
  refine lv_icmp_ge hx hb dX1_linesWithoutCode_12 (tgt := 47) (by decide) (fun hc => ?_) (fun hc => ?_)
  · have Hf := c_i_t Hf hc
    refine lv_iload_n hx hb dX1_linesWithoutCode_47 rfl (lv_at hl 1 rfl) ?_
    cases Hf
    exact r_iret hx hb hr rfl hlocks dX1_linesWithoutCode_48 (Nat.le_of_ble_eq_true rfl) (Nat.le_of_ble_eq_true rfl) hP hS
  have Hf := c_i_f Hf hc
  refine lv_iload_n hx hb dX1_linesWithoutCode_15 rfl (lv_at hl 1 rfl) ?_
  refine lv_aload_n hx hb dX1_linesWithoutCode_16 rfl (lv_at hl 0 rfl) ?_
  obtain ⟨hk_a0, Hf⟩ := c_g_some Hf
  obtain ⟨q17, hq17, Hf⟩ := c_n_some Hf
  refine fg_2_4 hx hb hts hown hK hP hk_a0 lkf_X1_12 hq17 dX1_linesWithoutCode_17 ?_
  refine lv_iload_n hx hb dX1_linesWithoutCode_20 rfl (lv_at hl 2 rfl) ?_
  obtain ⟨hk_q17, Hf⟩ := c_g_some Hf
  obtain ⟨r21, T21, hq21, Hf⟩ := c_c_some Hf
  refine r_cV (n := 1) (As := [.int y2_4]) (rest := [.int y1_4]) ⟨hx, hb, hml, hown, hts⟩ (s_Jx4a65c_get_915e3 l X hq21) lkm_X1_42 (by decide +kernel) rfl (by decide) dX1_linesWithoutCode_21 rfl rfl ⟨Nat.le_of_ble_eq_true rfl, Nat.le_of_ble_eq_true rfl⟩ hk_q17 rfl hl.1 (Nat.le_of_ble_eq_true rfl) ⟨Nat.le_of_ble_eq_true rfl, Nat.le_of_ble_eq_true rfl⟩ hK hRO hA hP hS (fun H locs hP hS => ?_)
  obtain ⟨p21, ep21, Hf⟩ := c_n_some Hf
  subst ep21
  refine W.eq (g2 := F0 m 24 ls [.ref p21, .int y1_4]) rfl ?_
  obtain ⟨hk_p21, Hf⟩ := c_g_some Hf
  refine va_castE hx hb hown (hts _ (lg_1 518 rfl rfl)) (st_recv hK hP hk_p21 (by decide) rfl) dX1_linesWithoutCode_24 ?_
  refine fg_3_6 hx hb hts hown hK hP hk_p21 lkf_X1_62 dX1_linesWithoutCode_27 ?_
  refine lv_iconst (v := (-1)) hx hb dX1_linesWithoutCode_30 (by decide) ?_
  have hJ39 : ∀ (S39 : st_T) (u0_39 : Int32), j_X1_linesWithoutCode_39 rec4 y1_4 y2_4 S39 u0_39 = some (rr, SE) → ∀ (H : Heap) (locs : List Loc) (ls : Array Slot), st_HP X (st_A S) S39 H → va_S (st_A S) s.heap H locs → lv_has ls 3 [(0, .ref a0), (2, .int y2_4)] → W p l e { frames := 3, cells := 0, slots := 0, locals := 64 } s m args below meth c H locs 0 0 (MQ below (st_Q X (st_A S) (some (.int rr)) SE) args s 0 0 (st_A S)) (F0 m 39 ls [.int u0_39, .int y1_4]) := by
    intro S39 u0_39 Hf H locs ls hP hS hl
    unfold j_X1_linesWithoutCode_39 at Hf
    refine lv_iadd hx hb dX1_linesWithoutCode_39 ?_
    refine lv_topi (fun z1_40 ez1_40 => ?_)
    have Hf := c_l_ren Hf ez1_40
    refine lv_istore_n (lv' := [(1, .int z1_40), (0, .ref a0), (2, .int y2_4)]) hx hb dX1_linesWithoutCode_40 rfl hl (by decide) rfl (fun ls hl => ?_)
    refine lv_iinc (v := (y2_4 + 1)) (lv' := [(2, .int (y2_4 + 1)), (1, .int z1_40), (0, .ref a0)]) hx hb dX1_linesWithoutCode_41 hl (k := 2) rfl rfl (by decide) rfl (fun ls hl => ?_)
    refine lv_goto hx hb dX1_linesWithoutCode_44 (tgt := 4) (by decide) ?_
    exact hrec4 (S39, z1_40, (y2_4 + 1)) Hf _ _ _ hP hS (lv_sub hl [2, 1, 0] rfl)
  refine lv_icmp_ne hx hb dX1_linesWithoutCode_31 (tgt := 38) (by decide) (fun hc => ?_) (fun hc => ?_)
  · have Hf := c_i_f Hf hc
    refine lv_iconst (v := 0) hx hb dX1_linesWithoutCode_38 (by decide) ?_
    exact hJ39 T21 0 Hf _ _ _ hP hS (lv_sub hl [0, 2] rfl)
  have Hf := c_i_t Hf hc
  refine lv_iconst (v := 1) hx hb dX1_linesWithoutCode_34 (by decide) ?_
  refine lv_goto hx hb dX1_linesWithoutCode_35 (tgt := 39) (by decide) ?_
  exact hJ39 T21 1 Hf _ _ _ hP hS (lv_sub hl [0, 2] rfl)

set_option maxRecDepth 100000 in
def f_X0_oneIf (S : st_T) (x0 : Int32) : Option (Int32 × st_T) :=
  (c_i (x0 = 0) (some (0, S)) (some (1, S)))
set_option maxRecDepth 100000 in
set_option maxHeartbeats 4000000 in
theorem s_X0_oneIf (l : Launch) (X : st_I) {S SE : st_T} {x0 : Int32} {rr : Int32} (Hf : f_X0_oneIf S x0 = some (rr, SE)) : Met l yX0_oneIf (Cond.code yX0_oneIf cX0_oneIf 1 (some .int) :: lw_g) { frames := 0, cells := 0, slots := 0, locals := 0 } (st_P X S [.int x0]) (st_Q X (st_A S) (some (.int rr)) SE) 0 0 (st_A S) := by
  refine st_ofW (by decide) (Nat.le_of_ble_eq_true rfl) ?_
  intro p e s m args below meth c hx hb hr hml hlocks hnm hts hown hK hRO hA hP hS ls hl
  have hown : s.vm.findClass RX0 = some m.cls := hown
  have hl : lv_has ls 1 [(0, .int x0)] := hl
  unfold f_X0_oneIf at Hf
  refine lv_iload_n hx hb dX0_oneIf_0 rfl (lv_at hl 0 rfl) ?_
  refine lv_if_eq hx hb dX0_oneIf_1 (tgt := 8) (by decide) (fun hc => ?_) (fun hc => ?_)
  · have Hf := c_i_t Hf hc
    refine lv_iconst (v := 0) hx hb dX0_oneIf_8 (by decide) ?_
    cases Hf
    exact r_iret hx hb hr rfl hlocks dX0_oneIf_9 (Nat.le_of_ble_eq_true rfl) (Nat.le_of_ble_eq_true rfl) hP hS
  have Hf := c_i_f Hf hc
  refine lv_iconst (v := 1) hx hb dX0_oneIf_4 (by decide) ?_
  refine lv_goto hx hb dX0_oneIf_5 (tgt := 9) (by decide) ?_
  cases Hf
  exact r_iret hx hb hr rfl hlocks dX0_oneIf_9 (Nat.le_of_ble_eq_true rfl) (Nat.le_of_ble_eq_true rfl) hP hS

def j_X0_joined_42 (S42 : st_T) (u0_42 : Int32) : Option (Int32 × st_T) :=
  (c_c (f_X0_oneIf S42 u0_42) (fun (r42 : Int32) (T42 : st_T) => (some (r42, T42))))
def j_X0_joined_56 (S56 : st_T) (u0_56 : Int32) : Option (Int32 × st_T) :=
  (c_c (f_X0_oneIf S56 u0_56) (fun (r56 : Int32) (T56 : st_T) => (some (r56, T56))))
def j_X0_joined_81 (S81 : st_T) (u0_81 : Int32) : Option (Int32 × st_T) :=
  (c_c (f_X0_oneIf S81 u0_81) (fun (r81 : Int32) (T81 : st_T) => (some (r81, T81))))
def j_X0_joined_80 (S80 : st_T) : Option (Int32 × st_T) :=
  (j_X0_joined_81 S80 0)
set_option maxRecDepth 100000 in
def f_X0_joined (S : st_T) (x0 : Int32) (x1 : Int32) (x2 : Int32) : Option (Int32 × st_T) :=
  (c_i (x0 = 6) (c_i (x2 ≤ x1) (j_X0_joined_42 S 0) (j_X0_joined_42 S 1)) (c_i (x0 = 7) (c_i (x1 = x2) (j_X0_joined_56 S 1) (j_X0_joined_56 S 0)) (c_i (x0 = 8) (some ((x1 + x2), S)) (c_i (x0 = 9) (some ((x1 - x2), S)) (c_i (x1 = 0) (j_X0_joined_80 S) (c_i (x2 = 0) (j_X0_joined_80 S) (j_X0_joined_81 S 1)))))))
set_option maxRecDepth 100000 in
set_option maxHeartbeats 4000000 in
theorem s_X0_joined (l : Launch) (X : st_I) {S SE : st_T} {x0 : Int32} {x1 : Int32} {x2 : Int32} {rr : Int32} (Hf : f_X0_joined S x0 x1 x2 = some (rr, SE)) : Met l yX0_joined (Cond.code yX0_joined cX0_joined 3 (some .int) :: lw_g) { frames := 1, cells := 0, slots := 0, locals := 20 } (st_P X S [.int x0, .int x1, .int x2]) (st_Q X (st_A S) (some (.int rr)) SE) 0 0 (st_A S) := by
  refine st_ofW (by decide) (Nat.le_of_ble_eq_true rfl) ?_
  intro p e s m args below meth c hx hb hr hml hlocks hnm hts hown hK hRO hA hP hS ls hl
  have hown : s.vm.findClass RX0 = some m.cls := hown
  have hl : lv_has ls 3 [(0, .int x0), (1, .int x1), (2, .int x2)] := hl
  unfold f_X0_joined at Hf
  refine lv_iload_n hx hb dX0_joined_0 rfl (lv_at hl 0 rfl) ?_
  by_cases hs6 : x0 = 6
  · have Hf := c_i_t Hf hs6
    refine lv_tableIn hx hb dX0_joined_1 (by rw [hs6]; decide) (by rw [hs6]; decide) (off := 31) (by rw [hs6]; rfl) (tgt := 32) (by decide) ?_
    refine lv_iload_n hx hb dX0_joined_32 rfl (lv_at hl 1 rfl) ?_
    refine lv_iload_n hx hb dX0_joined_33 rfl (lv_at hl 2 rfl) ?_
    have hJ42 : ∀ (S42 : st_T) (u0_42 : Int32), j_X0_joined_42 S42 u0_42 = some (rr, SE) → ∀ (H : Heap) (locs : List Loc) (ls : Array Slot), st_HP X (st_A S) S42 H → va_S (st_A S) s.heap H locs → lv_has ls 3 [] → W p l e { frames := 1, cells := 0, slots := 0, locals := 20 } s m args below meth c H locs 0 0 (MQ below (st_Q X (st_A S) (some (.int rr)) SE) args s 0 0 (st_A S)) (F0 m 42 ls [.int u0_42]) := by
      intro S42 u0_42 Hf H locs ls hP hS hl
      unfold j_X0_joined_42 at Hf
      obtain ⟨r42, T42, hq42, Hf⟩ := c_c_some Hf
      refine r_cS (n := 1) (As := [.int u0_42]) (rest := []) ⟨hx, hb, hml, hown, hts⟩ (s_X0_oneIf l X hq42) lkm_X0_126 (by decide +kernel) dX0_joined_42 rfl rfl ⟨Nat.le_of_ble_eq_true rfl, Nat.le_of_ble_eq_true rfl⟩ rfl hl.1 (Nat.le_of_ble_eq_true rfl) ⟨Nat.le_of_ble_eq_true rfl, Nat.le_of_ble_eq_true rfl⟩ hK hRO hA hP hS (fun H locs hP hS => ?_)
      refine W.eq (g2 := F0 m 45 ls [.int r42]) rfl ?_
      cases Hf
      exact r_iret hx hb hr rfl hlocks dX0_joined_45 (Nat.le_of_ble_eq_true rfl) (Nat.le_of_ble_eq_true rfl) hP hS
    refine lv_icmp_ge hx hb dX0_joined_34 (tgt := 41) (by decide) (fun hc => ?_) (fun hc => ?_)
    · have Hf := c_i_t Hf hc
      refine lv_iconst (v := 0) hx hb dX0_joined_41 (by decide) ?_
      exact hJ42 S 0 Hf _ _ _ hP hS (lv_sub hl [] rfl)
    have Hf := c_i_f Hf hc
    refine lv_iconst (v := 1) hx hb dX0_joined_37 (by decide) ?_
    refine lv_goto hx hb dX0_joined_38 (tgt := 42) (by decide) ?_
    exact hJ42 S 1 Hf _ _ _ hP hS (lv_sub hl [] rfl)
  have Hf := c_i_f Hf hs6
  by_cases hs7 : x0 = 7
  · have Hf := c_i_t Hf hs7
    refine lv_tableIn hx hb dX0_joined_1 (by rw [hs7]; decide) (by rw [hs7]; decide) (off := 45) (by rw [hs7]; rfl) (tgt := 46) (by decide) ?_
    refine lv_iload_n hx hb dX0_joined_46 rfl (lv_at hl 1 rfl) ?_
    refine lv_iload_n hx hb dX0_joined_47 rfl (lv_at hl 2 rfl) ?_
    have hJ56 : ∀ (S56 : st_T) (u0_56 : Int32), j_X0_joined_56 S56 u0_56 = some (rr, SE) → ∀ (H : Heap) (locs : List Loc) (ls : Array Slot), st_HP X (st_A S) S56 H → va_S (st_A S) s.heap H locs → lv_has ls 3 [] → W p l e { frames := 1, cells := 0, slots := 0, locals := 20 } s m args below meth c H locs 0 0 (MQ below (st_Q X (st_A S) (some (.int rr)) SE) args s 0 0 (st_A S)) (F0 m 56 ls [.int u0_56]) := by
      intro S56 u0_56 Hf H locs ls hP hS hl
      unfold j_X0_joined_56 at Hf
      obtain ⟨r56, T56, hq56, Hf⟩ := c_c_some Hf
      refine r_cS (n := 1) (As := [.int u0_56]) (rest := []) ⟨hx, hb, hml, hown, hts⟩ (s_X0_oneIf l X hq56) lkm_X0_126 (by decide +kernel) dX0_joined_56 rfl rfl ⟨Nat.le_of_ble_eq_true rfl, Nat.le_of_ble_eq_true rfl⟩ rfl hl.1 (Nat.le_of_ble_eq_true rfl) ⟨Nat.le_of_ble_eq_true rfl, Nat.le_of_ble_eq_true rfl⟩ hK hRO hA hP hS (fun H locs hP hS => ?_)
      refine W.eq (g2 := F0 m 59 ls [.int r56]) rfl ?_
      cases Hf
      exact r_iret hx hb hr rfl hlocks dX0_joined_59 (Nat.le_of_ble_eq_true rfl) (Nat.le_of_ble_eq_true rfl) hP hS
    refine lv_icmp_ne hx hb dX0_joined_48 (tgt := 55) (by decide) (fun hc => ?_) (fun hc => ?_)
    · have Hf := c_i_f Hf hc
      refine lv_iconst (v := 0) hx hb dX0_joined_55 (by decide) ?_
      exact hJ56 S 0 Hf _ _ _ hP hS (lv_sub hl [] rfl)
    have Hf := c_i_t Hf hc
    refine lv_iconst (v := 1) hx hb dX0_joined_51 (by decide) ?_
    refine lv_goto hx hb dX0_joined_52 (tgt := 56) (by decide) ?_
    exact hJ56 S 1 Hf _ _ _ hP hS (lv_sub hl [] rfl)
  have Hf := c_i_f Hf hs7
  by_cases hs8 : x0 = 8
  · have Hf := c_i_t Hf hs8
    refine lv_tableIn hx hb dX0_joined_1 (by rw [hs8]; decide) (by rw [hs8]; decide) (off := 59) (by rw [hs8]; rfl) (tgt := 60) (by decide) ?_
    refine lv_iload_n hx hb dX0_joined_60 rfl (lv_at hl 1 rfl) ?_
    refine lv_iload_n hx hb dX0_joined_61 rfl (lv_at hl 2 rfl) ?_
    refine lv_iadd hx hb dX0_joined_62 ?_
    cases Hf
    exact r_iret hx hb hr rfl hlocks dX0_joined_63 (Nat.le_of_ble_eq_true rfl) (Nat.le_of_ble_eq_true rfl) hP hS
  have Hf := c_i_f Hf hs8
  by_cases hs9 : x0 = 9
  · have Hf := c_i_t Hf hs9
    refine lv_tableIn hx hb dX0_joined_1 (by rw [hs9]; decide) (by rw [hs9]; decide) (off := 63) (by rw [hs9]; rfl) (tgt := 64) (by decide) ?_
    refine lv_iload_n hx hb dX0_joined_64 rfl (lv_at hl 1 rfl) ?_
    refine lv_iload_n hx hb dX0_joined_65 rfl (lv_at hl 2 rfl) ?_
    refine lv_isub hx hb dX0_joined_66 ?_
    cases Hf
    exact r_iret hx hb hr rfl hlocks dX0_joined_67 (Nat.le_of_ble_eq_true rfl) (Nat.le_of_ble_eq_true rfl) hP hS
  have Hf := c_i_f Hf hs9
  refine lv_tableOut hx hb dX0_joined_1 (by have n6 := sw_ne 6 hs6 (n := 6) rfl; have n7 := sw_ne 7 hs7 (n := 7) rfl; have n8 := sw_ne 8 hs8 (n := 8) rfl; have n9 := sw_ne 9 hs9 (n := 9) rfl; omega) (tgt := 68) (by decide) ?_
  refine lv_iload_n hx hb dX0_joined_68 rfl (lv_at hl 1 rfl) ?_
  have hJ81 : ∀ (S81 : st_T) (u0_81 : Int32), j_X0_joined_81 S81 u0_81 = some (rr, SE) → ∀ (H : Heap) (locs : List Loc) (ls : Array Slot), st_HP X (st_A S) S81 H → va_S (st_A S) s.heap H locs → lv_has ls 3 [] → W p l e { frames := 1, cells := 0, slots := 0, locals := 20 } s m args below meth c H locs 0 0 (MQ below (st_Q X (st_A S) (some (.int rr)) SE) args s 0 0 (st_A S)) (F0 m 81 ls [.int u0_81]) := by
    intro S81 u0_81 Hf H locs ls hP hS hl
    unfold j_X0_joined_81 at Hf
    obtain ⟨r81, T81, hq81, Hf⟩ := c_c_some Hf
    refine r_cS (n := 1) (As := [.int u0_81]) (rest := []) ⟨hx, hb, hml, hown, hts⟩ (s_X0_oneIf l X hq81) lkm_X0_126 (by decide +kernel) dX0_joined_81 rfl rfl ⟨Nat.le_of_ble_eq_true rfl, Nat.le_of_ble_eq_true rfl⟩ rfl hl.1 (Nat.le_of_ble_eq_true rfl) ⟨Nat.le_of_ble_eq_true rfl, Nat.le_of_ble_eq_true rfl⟩ hK hRO hA hP hS (fun H locs hP hS => ?_)
    refine W.eq (g2 := F0 m 84 ls [.int r81]) rfl ?_
    cases Hf
    exact r_iret hx hb hr rfl hlocks dX0_joined_84 (Nat.le_of_ble_eq_true rfl) (Nat.le_of_ble_eq_true rfl) hP hS
  have hJ80 : ∀ (S80 : st_T), j_X0_joined_80 S80 = some (rr, SE) → ∀ (H : Heap) (locs : List Loc) (ls : Array Slot), st_HP X (st_A S) S80 H → va_S (st_A S) s.heap H locs → lv_has ls 3 [] → W p l e { frames := 1, cells := 0, slots := 0, locals := 20 } s m args below meth c H locs 0 0 (MQ below (st_Q X (st_A S) (some (.int rr)) SE) args s 0 0 (st_A S)) (F0 m 80 ls []) := by
    intro S80 Hf H locs ls hP hS hl
    unfold j_X0_joined_80 at Hf
    refine lv_iconst (v := 0) hx hb dX0_joined_80 (by decide) ?_
    exact hJ81 S80 0 Hf _ _ _ hP hS (lv_sub hl [] rfl)
  refine lv_if_eq hx hb dX0_joined_69 (tgt := 80) (by decide) (fun hc => ?_) (fun hc => ?_)
  · have Hf := c_i_t Hf hc
    exact hJ80 S Hf _ _ _ hP hS (lv_sub hl [] rfl)
  have Hf := c_i_f Hf hc
  refine lv_iload_n hx hb dX0_joined_72 rfl (lv_at hl 2 rfl) ?_
  refine lv_if_eq hx hb dX0_joined_73 (tgt := 80) (by decide) (fun hc => ?_) (fun hc => ?_)
  · have Hf := c_i_t Hf hc
    exact hJ80 S Hf _ _ _ hP hS (lv_sub hl [] rfl)
  have Hf := c_i_f Hf hc
  refine lv_iconst (v := 1) hx hb dX0_joined_76 (by decide) ?_
  refine lv_goto hx hb dX0_joined_77 (tgt := 81) (by decide) ?_
  exact hJ81 S 1 Hf _ _ _ hP hS (lv_sub hl [] rfl)

set_option maxRecDepth 100000 in
def f_X0_push (S : st_T) (a0 : Nat) (x1 : Int32) : Option (Unit × st_T) :=
  (c_g (st_K S a0 = 2) (c_i (16 ≤ (st_fi S 102 a0)) (some ((), S)) (c_n (st_fr S 101 a0) (fun (q10 : Nat) => (c_g (st_K S q10 = 20) (c_g (c_in (st_fi S 102 a0) (st_ln S q10)) (c_l (st_wi S q10 ((st_fi S 102 a0) : Int32).toNatClampNeg x1) (fun (S_18 : st_T) => (c_l (st_pi S_18 102 a0 ((st_fi S_18 102 a0) + 1)) (fun (S_26 : st_T) => (some ((), S_26))))))))))))
set_option maxRecDepth 100000 in
set_option maxHeartbeats 4000000 in
theorem s_X0_push (l : Launch) (X : st_I) {S SE : st_T} {a0 : Nat} {x1 : Int32} {rr : Unit} (Hf : f_X0_push S a0 x1 = some (rr, SE)) : Met l yX0_push (Cond.code yX0_push cX0_push 2 (none) :: lw_g) { frames := 0, cells := 0, slots := 0, locals := 0 } (st_P X S [.ref a0, .int x1]) (st_Q X (st_A S) none SE) 0 0 (st_A S) := by
  refine st_ofW (by decide) (Nat.le_of_ble_eq_true rfl) ?_
  intro p e s m args below meth c hx hb hr hml hlocks hnm hts hown hK hRO hA hP hS ls hl
  have hown : s.vm.findClass RX0 = some m.cls := hown
  have hl : lv_has ls 2 [(0, .ref a0), (1, .int x1)] := hl
  unfold f_X0_push at Hf
  refine lv_aload_n hx hb dX0_push_0 rfl (lv_at hl 0 rfl) ?_
  obtain ⟨hk_a0, Hf⟩ := c_g_some Hf
  refine fg_1_2 hx hb hts hown hK hP hk_a0 lkf_X0_15 dX0_push_1 ?_
  refine lv_bipush (v := 16) hx hb dX0_push_4 (by decide) ?_
  refine lv_icmp_ge hx hb dX0_push_6 (tgt := 29) (by decide) (fun hc => ?_) (fun hc => ?_)
  · have Hf := c_i_t Hf hc
    cases Hf
    exact r_vret hx hb hr rfl hlocks dX0_push_29 (Nat.le_of_ble_eq_true rfl) (Nat.le_of_ble_eq_true rfl) hP hS
  have Hf := c_i_f Hf hc
  refine lv_aload_n hx hb dX0_push_9 rfl (lv_at hl 0 rfl) ?_
  obtain ⟨q10, hq10, Hf⟩ := c_n_some Hf
  refine fg_1_1 hx hb hts hown hK hP hk_a0 lkf_X0_9 hq10 dX0_push_10 ?_
  refine lv_aload_n hx hb dX0_push_13 rfl (lv_at hl 0 rfl) ?_
  refine fg_1_2 hx hb hts hown hK hP hk_a0 lkf_X0_15 dX0_push_14 ?_
  refine lv_iload_n hx hb dX0_push_17 rfl (lv_at hl 1 rfl) ?_
  obtain ⟨hk_q10, Hf⟩ := c_g_some Hf
  obtain ⟨hi18, Hf⟩ := c_g_some Hf
  refine r_iast hx hb hK hP hS hk_q10 hi18 dX0_push_18 (fun H locs hP hS => ?_)
  obtain ⟨S_18, eS_18, Hf⟩ := c_l_ex Hf
  have hP : st_HP X (st_A S) S_18 H := by rw [eS_18]; exact hP
  refine lv_aload_n hx hb dX0_push_19 rfl (lv_at hl 0 rfl) ?_
  refine lv_dup hx hb dX0_push_20 rfl ?_
  have hk_a0 : st_K S_18 a0 = 2 := by rw [kp_wi eS_18]; exact hk_a0
  refine fg_1_2 hx hb hts hown hK hP hk_a0 lkf_X0_15 dX0_push_21 ?_
  refine lv_iconst (v := 1) hx hb dX0_push_24 (by decide) ?_
  refine lv_iadd hx hb dX0_push_25 ?_
  refine fp_1_2 hx hb hts hown hK hP hS hk_a0 lkf_X0_15 dX0_push_26 (fun H locs hP hS => ?_)
  obtain ⟨S_26, eS_26, Hf⟩ := c_l_ex Hf
  have hP : st_HP X (st_A S) S_26 H := by rw [eS_26]; exact hP
  cases Hf
  exact r_vret hx hb hr rfl hlocks dX0_push_29 (Nat.le_of_ble_eq_true rfl) (Nat.le_of_ble_eq_true rfl) hP hS
