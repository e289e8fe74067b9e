def f_X9_thrown (S : st_T) (a0 : Nat) : Option (Int32 × st_T) :=
  (c_g (st_K S a0 = 11) (some ((st_fi S 1000 a0), S)))
set_option maxRecDepth 100000 in
set_option maxHeartbeats 4000000 in
theorem s_X9_thrown (l : Launch) (X : st_I) {S SE : st_T} {a0 : Nat} {rr : Int32} (Hf : f_X9_thrown S a0 = some (rr, SE)) : Met l yX9_thrown (Cond.code yX9_thrown cX9_thrown 1 (some .int) :: lw_g) { frames := 0, cells := 0, slots := 0, locals := 0 } (st_P X S [.ref a0]) (st_Q X (st_A S) (some (.int rr)) SE) 0 0 (st_A S) := by
  refine st_ofW (by decide) (Nat.le_of_ble_eq_true rfl) ?_
  intro p e s m args below meth c hx hb hr hml hlocks hnm hts hown hK hRO hA hP hS ls hl
  have hown : s.vm.findClass RX9 = some m.cls := hown
  have hl : lv_has ls 1 [(0, .ref a0)] := hl
  unfold f_X9_thrown at Hf
  refine lv_aload_n hx hb dX9_thrown_0 rfl (lv_at hl 0 rfl) ?_
  obtain ⟨hk_a0, Hf⟩ := c_g_some Hf
  refine fg_10_0 hx hb hts hown hK hP hk_a0 lkf_X9_131 dX9_thrown_1 ?_
  cases Hf
  exact r_iret hx hb hr rfl hlocks dX9_thrown_4 (Nat.le_of_ble_eq_true rfl) (Nat.le_of_ble_eq_true rfl) hP hS

def j_X9_lay_69 (rec3 : st_T × Int32 → Option (Unit × st_T)) (y3_3 : Int32) (S69 : st_T) : Option (Unit × st_T) :=
  (rec3 (S69, (y3_3 + (-8))))
def j_X9_lay_38 (a0 : Nat) (rec3 : st_T × Int32 → Option (Unit × st_T)) (y3_3 : Int32) (z4_15 : Int32) (S38 : st_T) : Option (Unit × st_T) :=
  (c_g (st_K S38 a0 = 11) (c_i (800 ≤ (st_fi S38 1002 a0)) (j_X9_lay_69 rec3 y3_3 S38) (c_n (st_fr S38 1001 a0) (fun (q49 : Nat) => (c_g (st_K S38 q49 = 20) (c_g (c_in (st_fi S38 1002 a0) (st_ln S38 q49)) (c_l (st_wi S38 q49 ((st_fi S38 1002 a0) : Int32).toNatClampNeg z4_15) (fun (S_58 : st_T) => (c_l (st_pi S_58 1002 a0 ((st_fi S_58 1002 a0) + 1)) (fun (S_66 : st_T) => (j_X9_lay_69 rec3 y3_3 S_66)))))))))))
def b_X9_lay_3 (a0 : Nat) (x1 : Int64) (rec3 : st_T × Int32 → Option (Unit × st_T)) (q : st_T × Int32) : Option (Unit × st_T) :=
  (fun (S3 : st_T) (y3_3 : Int32) =>
  (c_i (y3_3 < 0) (some ((), S3)) (c_l ((((x1 >>> ((y3_3 : Int32).toInt64 &&& 63)) : Int64).toInt32) &&& 255) (fun (z4_15 : Int32) => (c_i (z4_15 = 10) (j_X9_lay_38 a0 rec3 y3_3 z4_15 S3) (c_i (z4_15 < 32) (j_X9_lay_69 rec3 y3_3 S3) (c_i (126 < z4_15) (j_X9_lay_69 rec3 y3_3 S3) (j_X9_lay_38 a0 rec3 y3_3 z4_15 S3)))))))) q.1 q.2
def f_X9_lay (S : st_T) (a0 : Nat) (x1 : Int64) : Option (Unit × st_T) :=
  (c_w (b_X9_lay_3 a0 x1) c_N (S, 56))
set_option maxRecDepth 100000 in
set_option maxHeartbeats 4000000 in
theorem s_X9_lay (l : Launch) (X : st_I) {S SE : st_T} {a0 : Nat} {x1 : Int64} {rr : Unit} (Hf : f_X9_lay S a0 x1 = some (rr, SE)) : Met l yX9_lay (Cond.code yX9_lay cX9_lay 5 (none) :: lw_g) { frames := 0, cells := 0, slots := 0, locals := 0 } (st_P X S [.ref a0, .long x1]) (st_Q X (st_A S) none SE) 0 0 (st_A S) := by
  refine st_ofW (by decide) (Nat.le_of_ble_eq_true rfl) ?_
  intro p e s m args below meth c hx hb hr hml hlocks hnm hts hown hK hRO hA hP hS ls hl
  have hown : s.vm.findClass RX9 = some m.cls := hown
  have hl : lv_has ls 5 [(0, .ref a0), (1, .long x1)] := hl
  unfold f_X9_lay at Hf
  refine lv_bipush (v := 56) hx hb dX9_lay_0 (by decide) ?_
  refine lv_istore_n (lv' := [(3, .int 56), (0, .ref a0), (1, .long x1)]) hx hb dX9_lay_2 rfl hl (by decide) rfl (fun ls hl => ?_)
  refine (c_w_ind (P := fun (q : st_T × Int32) => ∀ (H : Heap) (locs : List Loc) (ls : Array Slot), st_HP X (st_A S) q.1 H → va_S (st_A S) s.heap H locs → lv_has ls 5 [(0, .ref a0), (1, .long x1), (3, .int q.2)] → W p l e { frames := 0, cells := 0, slots := 0, locals := 0 } s m args below meth c H locs 0 0 (MQ below (st_Q X (st_A S) none SE) args s 0 0 (st_A S)) (F0 m 3 ls [])) ?_ _ _ Hf) _ _ _ hP hS (lv_sub hl [1, 2, 0] rfl)
  intro rec3 hrec3 q Hf H locs ls hP hS hl
  obtain ⟨S3, y3_3⟩ := q
  unfold b_X9_lay_3 at Hf
  try dsimp only at Hf
  try dsimp only at hP
  try dsimp only at hl
  try dsimp only
  refine lv_iload_n hx hb dX9_lay_3 rfl (lv_at hl 2 rfl) ?_
  refine lv_if_lt hx hb dX9_lay_4 (tgt := 75) (by decide) (fun hc => ?_) (fun hc => ?_)
  · have Hf := c_i_t Hf hc
    cases Hf
    exact r_vret hx hb hr rfl hlocks dX9_lay_75 (Nat.le_of_ble_eq_true rfl) (Nat.le_of_ble_eq_true rfl) hP hS
  have Hf := c_i_f Hf hc
  refine lv_lload_n hx hb dX9_lay_7 rfl (lv_at hl 1 rfl) ?_
  refine lv_iload_n hx hb dX9_lay_8 rfl (lv_at hl 2 rfl) ?_
  refine lv_lshr (v := (x1 >>> ((y3_3 : Int32).toInt64 &&& 63))) hx hb dX9_lay_9 rfl ?_
  refine lv_l2i (v := ((x1 >>> ((y3_3 : Int32).toInt64 &&& 63)) : Int64).toInt32) hx hb dX9_lay_10 rfl ?_
  refine lv_sipush (v := 255) hx hb dX9_lay_11 (by decide) ?_
  refine lv_iand hx hb dX9_lay_14 ?_
  refine lv_topi (fun z4_15 ez4_15 => ?_)
  have Hf := c_l_ren Hf ez4_15
  refine lv_istore (lv' := [(4, .int z4_15), (0, .ref a0), (1, .long x1), (3, .int y3_3)]) hx hb dX9_lay_15 hl (by decide) rfl (fun ls hl => ?_)
  refine lv_iload hx hb dX9_lay_17 (lv_at hl 0 rfl) ?_
  refine lv_bipush (v := 10) hx hb dX9_lay_19 (by decide) ?_
  have hJ69 : ∀ (S69 : st_T), j_X9_lay_69 rec3 y3_3 S69 = some (rr, SE) → ∀ (H : Heap) (locs : List Loc) (ls : Array Slot), st_HP X (st_A S) S69 H → va_S (st_A S) s.heap H locs → lv_has ls 5 [(0, .ref a0), (1, .long x1), (3, .int y3_3)] → W p l e { frames := 0, cells := 0, slots := 0, locals := 0 } s m args below meth c H locs 0 0 (MQ below (st_Q X (st_A S) none SE) args s 0 0 (st_A S)) (F0 m 69 ls []) := by
    intro S69 Hf H locs ls hP hS hl
    unfold j_X9_lay_69 at Hf
    refine lv_iinc (v := (y3_3 + (-8))) (lv' := [(3, .int (y3_3 + (-8))), (0, .ref a0), (1, .long x1)]) hx hb dX9_lay_69 hl (k := 2) rfl rfl (by decide) rfl (fun ls hl => ?_)
    refine lv_goto hx hb dX9_lay_72 (tgt := 3) (by decide) ?_
    exact hrec3 (S69, (y3_3 + (-8))) Hf _ _ _ hP hS (lv_sub hl [1, 2, 0] rfl)
  have hJ38 : ∀ (S38 : st_T), j_X9_lay_38 a0 rec3 y3_3 z4_15 S38 = some (rr, SE) → ∀ (H : Heap) (locs : List Loc) (ls : Array Slot), st_HP X (st_A S) S38 H → va_S (st_A S) s.heap H locs → lv_has ls 5 [(0, .ref a0), (1, .long x1), (3, .int y3_3), (4, .int z4_15)] → W p l e { frames := 0, cells := 0, slots := 0, locals := 0 } s m args below meth c H locs 0 0 (MQ below (st_Q X (st_A S) none SE) args s 0 0 (st_A S)) (F0 m 38 ls []) := by
    intro S38 Hf H locs ls hP hS hl
    unfold j_X9_lay_38 at Hf
    refine lv_aload_n hx hb dX9_lay_38 rfl (lv_at hl 0 rfl) ?_
    obtain ⟨hk_a0, Hf⟩ := c_g_some Hf
    refine fg_10_2 hx hb hts hown hK hP hk_a0 lkf_X9_138 dX9_lay_39 ?_
    refine lv_sipush (v := 800) hx hb dX9_lay_42 (by decide) ?_
    refine lv_icmp_ge hx hb dX9_lay_45 (tgt := 69) (by decide) (fun hc => ?_) (fun hc => ?_)
    · have Hf := c_i_t Hf hc
      exact hJ69 S38 Hf _ _ _ hP hS (lv_sub hl [0, 1, 2] rfl)
    have Hf := c_i_f Hf hc
    refine lv_aload_n hx hb dX9_lay_48 rfl (lv_at hl 0 rfl) ?_
    obtain ⟨q49, hq49, Hf⟩ := c_n_some Hf
    refine fg_10_1 hx hb hts hown hK hP hk_a0 lkf_X9_7 hq49 dX9_lay_49 ?_
    refine lv_aload_n hx hb dX9_lay_52 rfl (lv_at hl 0 rfl) ?_
    refine fg_10_2 hx hb hts hown hK hP hk_a0 lkf_X9_138 dX9_lay_53 ?_
    refine lv_iload hx hb dX9_lay_56 (lv_at hl 3 rfl) ?_
    obtain ⟨hk_q49, Hf⟩ := c_g_some Hf
    obtain ⟨hi58, Hf⟩ := c_g_some Hf
    refine r_iast hx hb hK hP hS hk_q49 hi58 dX9_lay_58 (fun H locs hP hS => ?_)
    obtain ⟨S_58, eS_58, Hf⟩ := c_l_ex Hf
    have hP : st_HP X (st_A S) S_58 H := by rw [eS_58]; exact hP
    refine lv_aload_n hx hb dX9_lay_59 rfl (lv_at hl 0 rfl) ?_
    refine lv_dup hx hb dX9_lay_60 rfl ?_
    have hk_a0 : st_K S_58 a0 = 11 := by rw [kp_wi eS_58]; exact hk_a0
    refine fg_10_2 hx hb hts hown hK hP hk_a0 lkf_X9_138 dX9_lay_61 ?_
    refine lv_iconst (v := 1) hx hb dX9_lay_64 (by decide) ?_
    refine lv_iadd hx hb dX9_lay_65 ?_
    refine fp_10_2 hx hb hts hown hK hP hS hk_a0 lkf_X9_138 dX9_lay_66 (fun H locs hP hS => ?_)
    obtain ⟨S_66, eS_66, Hf⟩ := c_l_ex Hf
    have hP : st_HP X (st_A S) S_66 H := by rw [eS_66]; exact hP
    exact hJ69 S_66 Hf _ _ _ hP hS (lv_sub hl [0, 1, 2] rfl)
  refine lv_icmp_eq hx hb dX9_lay_21 (tgt := 38) (by decide) (fun hc => ?_) (fun hc => ?_)
  · have Hf := c_i_t Hf hc
    exact hJ38 S3 Hf _ _ _ hP hS (lv_sub hl [1, 2, 3, 0] rfl)
  have Hf := c_i_f Hf hc
  refine lv_iload hx hb dX9_lay_24 (lv_at hl 0 rfl) ?_
  refine lv_bipush (v := 32) hx hb dX9_lay_26 (by decide) ?_
  refine lv_icmp_lt hx hb dX9_lay_28 (tgt := 69) (by decide) (fun hc => ?_) (fun hc => ?_)
  · have Hf := c_i_t Hf hc
    exact hJ69 S3 Hf _ _ _ hP hS (lv_sub hl [1, 2, 3] rfl)
  have Hf := c_i_f Hf hc
  refine lv_iload hx hb dX9_lay_31 (lv_at hl 0 rfl) ?_
  refine lv_bipush (v := 126) hx hb dX9_lay_33 (by decide) ?_
  refine lv_icmp_gt hx hb dX9_lay_35 (tgt := 69) (by decide) (fun hc => ?_) (fun hc => ?_)
  · have Hf := c_i_t Hf hc
    exact hJ69 S3 Hf _ _ _ hP hS (lv_sub hl [1, 2, 3] rfl)
  have Hf := c_i_f Hf hc
  exact hJ38 S3 Hf _ _ _ hP hS (lv_sub hl [1, 2, 3, 0] rfl)

def f_X9_feed (S : st_T) (a0 : Nat) (x1 : Int64) (x3 : Int64) (x5 : Int64) : Option (Int32 × st_T) :=
  (c_g (st_K S a0 = 11) (c_l (st_pi S 1000 a0 0) (fun (S_2 : st_T) => (c_c (f_X9_lay S_2 a0 x1) (fun (r7 : Unit) (T7 : st_T) => (c_g (st_K T7 a0 = 11) (c_c (f_X9_lay T7 a0 x3) (fun (r12 : Unit) (T12 : st_T) => (c_g (st_K T12 a0 = 11) (c_c (f_X9_lay T12 a0 x5) (fun (r18 : Unit) (T18 : st_T) => (c_g (st_K T18 a0 = 11) (some ((st_fi T18 1002 a0), T18))))))))))))))
set_option maxRecDepth 100000 in
set_option maxHeartbeats 4000000 in
theorem s_X9_feed (l : Launch) (X : st_I) {S SE : st_T} {a0 : Nat} {x1 : Int64} {x3 : Int64} {x5 : Int64} {rr : Int32} (Hf : f_X9_feed S a0 x1 x3 x5 = some (rr, SE)) : Met l yX9_feed (Cond.code yX9_feed cX9_feed 7 (some .int) :: lw_g) { frames := 1, cells := 0, slots := 0, locals := 24 } (st_P X S [.ref a0, .long x1, .long x3, .long x5]) (st_Q X (st_A S) (some (.int rr)) SE) 0 0 (st_A S) := by
  refine st_ofW (by decide) (Nat.le_of_ble_eq_true rfl) ?_
  intro p e s m args below meth c hx hb hr hml hlocks hnm hts hown hK hRO hA hP hS ls hl
  have hown : s.vm.findClass RX9 = some m.cls := hown
  have hl : lv_has ls 7 [(0, .ref a0), (1, .long x1), (3, .long x3), (5, .long x5)] := hl
  unfold f_X9_feed at Hf
  refine lv_aload_n hx hb dX9_feed_0 rfl (lv_at hl 0 rfl) ?_
  refine lv_iconst (v := 0) hx hb dX9_feed_1 (by decide) ?_
  obtain ⟨hk_a0, Hf⟩ := c_g_some Hf
  refine fp_10_0 hx hb hts hown hK hP hS hk_a0 lkf_X9_131 dX9_feed_2 (fun H locs hP hS => ?_)
  obtain ⟨S_2, eS_2, Hf⟩ := c_l_ex Hf
  have hP : st_HP X (st_A S) S_2 H := by rw [eS_2]; exact hP
  refine lv_aload_n hx hb dX9_feed_5 rfl (lv_at hl 0 rfl) ?_
  refine lv_lload_n hx hb dX9_feed_6 rfl (lv_at hl 1 rfl) ?_
  have hk_a0 : st_K S_2 a0 = 11 := by rw [kp_pi eS_2]; exact hk_a0
  obtain ⟨r7, T7, hq7, Hf⟩ := c_c_some Hf
  refine r_cV (n := 1) (As := [.long x1]) (rest := []) ⟨hx, hb, hml, hown, hts⟩ (s_X9_lay l X hq7) lkm_X9_134 (by decide +kernel) rfl (by decide) dX9_feed_7 rfl rfl ⟨Nat.le_of_ble_eq_true rfl, Nat.le_of_ble_eq_true rfl⟩ hk_a0 rfl hl.1 (Nat.le_of_ble_eq_true rfl) ⟨Nat.le_of_ble_eq_true rfl, Nat.le_of_ble_eq_true rfl⟩ hK hRO hA hP hS (fun H locs hP hS => ?_)
  refine W.eq (g2 := F0 m 10 ls []) rfl ?_
  refine lv_aload_n hx hb dX9_feed_10 rfl (lv_at hl 0 rfl) ?_
  refine lv_lload_n hx hb dX9_feed_11 rfl (lv_at hl 2 rfl) ?_
  obtain ⟨hk_a0, Hf⟩ := c_g_some Hf
  obtain ⟨r12, T12, hq12, Hf⟩ := c_c_some Hf
  refine r_cV (n := 1) (As := [.long x3]) (rest := []) ⟨hx, hb, hml, hown, hts⟩ (s_X9_lay l X hq12) lkm_X9_134 (by decide +kernel) rfl (by decide) dX9_feed_12 rfl rfl ⟨Nat.le_of_ble_eq_true rfl, Nat.le_of_ble_eq_true rfl⟩ hk_a0 rfl hl.1 (Nat.le_of_ble_eq_true rfl) ⟨Nat.le_of_ble_eq_true rfl, Nat.le_of_ble_eq_true rfl⟩ hK hRO hA hP hS (fun H locs hP hS => ?_)
  refine W.eq (g2 := F0 m 15 ls []) rfl ?_
  refine lv_aload_n hx hb dX9_feed_15 rfl (lv_at hl 0 rfl) ?_
  refine lv_lload hx hb dX9_feed_16 (lv_at hl 3 rfl) ?_
  obtain ⟨hk_a0, Hf⟩ := c_g_some Hf
  obtain ⟨r18, T18, hq18, Hf⟩ := c_c_some Hf
  refine r_cV (n := 1) (As := [.long x5]) (rest := []) ⟨hx, hb, hml, hown, hts⟩ (s_X9_lay l X hq18) lkm_X9_134 (by decide +kernel) rfl (by decide) dX9_feed_18 rfl rfl ⟨Nat.le_of_ble_eq_true rfl, Nat.le_of_ble_eq_true rfl⟩ hk_a0 rfl hl.1 (Nat.le_of_ble_eq_true rfl) ⟨Nat.le_of_ble_eq_true rfl, Nat.le_of_ble_eq_true rfl⟩ hK hRO hA hP hS (fun H locs hP hS => ?_)
  refine W.eq (g2 := F0 m 21 ls []) rfl ?_
  refine lv_aload_n hx hb dX9_feed_21 rfl (lv_at hl 0 rfl) ?_
  obtain ⟨hk_a0, Hf⟩ := c_g_some Hf
  refine fg_10_2 hx hb hts hown hK hP hk_a0 lkf_X9_138 dX9_feed_22 ?_
  cases Hf
  exact r_iret hx hb hr rfl hlocks dX9_feed_25 (Nat.le_of_ble_eq_true rfl) (Nat.le_of_ble_eq_true rfl) hP hS

def f_X9_isLetter (S : st_T) (x0 : Int32) : Option (Int32 × st_T) :=
  (c_i (x0 < 97) (some (0, S)) (c_i (122 < x0) (some (0, S)) (some (1, S))))
set_option maxRecDepth 100000 in
set_option maxHeartbeats 4000000 in
theorem s_X9_isLetter (l : Launch) (X : st_I) {S SE : st_T} {x0 : Int32} {rr : Int32} (Hf : f_X9_isLetter S x0 = some (rr, SE)) : Met l yX9_isLetter (Cond.code yX9_isLetter cX9_isLetter 1 (some .boolean) :: lw_g) { frames := 0, cells := 0, slots := 0, locals := 0 } (st_P X S [.int x0]) (st_Q X (st_A S) (some (.int rr)) SE) 0 0 (st_A S) := by
  refine st_ofW (by decide) (Nat.le_of_ble_eq_true rfl) ?_
  intro p e s m args below meth c hx hb hr hml hlocks hnm hts hown hK hRO hA hP hS ls hl
  have hown : s.vm.findClass RX9 = some m.cls := hown
  have hl : lv_has ls 1 [(0, .int x0)] := hl
  unfold f_X9_isLetter at Hf
  refine lv_iload_n hx hb dX9_isLetter_0 rfl (lv_at hl 0 rfl) ?_
  refine lv_bipush (v := 97) hx hb dX9_isLetter_1 (by decide) ?_
  refine lv_icmp_lt hx hb dX9_isLetter_3 (tgt := 16) (by decide) (fun hc => ?_) (fun hc => ?_)
  · have Hf := c_i_t Hf hc
    refine lv_iconst (v := 0) hx hb dX9_isLetter_16 (by decide) ?_
    cases Hf
    exact r_zret hx hb hr rfl (Or.inl rfl) hlocks dX9_isLetter_17 (Nat.le_of_ble_eq_true rfl) (Nat.le_of_ble_eq_true rfl) hP hS
  have Hf := c_i_f Hf hc
  refine lv_iload_n hx hb dX9_isLetter_6 rfl (lv_at hl 0 rfl) ?_
  refine lv_bipush (v := 122) hx hb dX9_isLetter_7 (by decide) ?_
  refine lv_icmp_gt hx hb dX9_isLetter_9 (tgt := 16) (by decide) (fun hc => ?_) (fun hc => ?_)
  · have Hf := c_i_t Hf hc
    refine lv_iconst (v := 0) hx hb dX9_isLetter_16 (by decide) ?_
    cases Hf
    exact r_zret hx hb hr rfl (Or.inl rfl) hlocks dX9_isLetter_17 (Nat.le_of_ble_eq_true rfl) (Nat.le_of_ble_eq_true rfl) hP hS
  have Hf := c_i_f Hf hc
  refine lv_iconst (v := 1) hx hb dX9_isLetter_12 (by decide) ?_
  refine lv_goto hx hb dX9_isLetter_13 (tgt := 17) (by decide) ?_
  cases Hf
  exact r_zret hx hb hr rfl (Or.inr rfl) hlocks dX9_isLetter_17 (Nat.le_of_ble_eq_true rfl) (Nat.le_of_ble_eq_true rfl) hP hS

def f_X9_isDigit (S : st_T) (x0 : Int32) : Option (Int32 × st_T) :=
  (c_i (x0 < 48) (some (0, S)) (c_i (57 < x0) (some (0, S)) (some (1, S))))
set_option maxRecDepth 100000 in
set_option maxHeartbeats 4000000 in
theorem s_X9_isDigit (l : Launch) (X : st_I) {S SE : st_T} {x0 : Int32} {rr : Int32} (Hf : f_X9_isDigit S x0 = some (rr, SE)) : Met l yX9_isDigit (Cond.code yX9_isDigit cX9_isDigit 1 (some .boolean) :: lw_g) { frames := 0, cells := 0, slots := 0, locals := 0 } (st_P X S [.int x0]) (st_Q X (st_A S) (some (.int rr)) SE) 0 0 (st_A S) := by
  refine st_ofW (by decide) (Nat.le_of_ble_eq_true rfl) ?_
  intro p e s m args below meth c hx hb hr hml hlocks hnm hts hown hK hRO hA hP hS ls hl
  have hown : s.vm.findClass RX9 = some m.cls := hown
  have hl : lv_has ls 1 [(0, .int x0)] := hl
  unfold f_X9_isDigit at Hf
  refine lv_iload_n hx hb dX9_isDigit_0 rfl (lv_at hl 0 rfl) ?_
  refine lv_bipush (v := 48) hx hb dX9_isDigit_1 (by decide) ?_
  refine lv_icmp_lt hx hb dX9_isDigit_3 (tgt := 16) (by decide) (fun hc => ?_) (fun hc => ?_)
  · have Hf := c_i_t Hf hc
    refine lv_iconst (v := 0) hx hb dX9_isDigit_16 (by decide) ?_
    cases Hf
    exact r_zret hx hb hr rfl (Or.inl rfl) hlocks dX9_isDigit_17 (Nat.le_of_ble_eq_true rfl) (Nat.le_of_ble_eq_true rfl) hP hS
  have Hf := c_i_f Hf hc
  refine lv_iload_n hx hb dX9_isDigit_6 rfl (lv_at hl 0 rfl) ?_
  refine lv_bipush (v := 57) hx hb dX9_isDigit_7 (by decide) ?_
  refine lv_icmp_gt hx hb dX9_isDigit_9 (tgt := 16) (by decide) (fun hc => ?_) (fun hc => ?_)
  · have Hf := c_i_t Hf hc
    refine lv_iconst (v := 0) hx hb dX9_isDigit_16 (by decide) ?_
    cases Hf
    exact r_zret hx hb hr rfl (Or.inl rfl) hlocks dX9_isDigit_17 (Nat.le_of_ble_eq_true rfl) (Nat.le_of_ble_eq_true rfl) hP hS
  have Hf := c_i_f Hf hc
  refine lv_iconst (v := 1) hx hb dX9_isDigit_12 (by decide) ?_
  refine lv_goto hx hb dX9_isDigit_13 (tgt := 17) (by decide) ?_
  cases Hf
  exact r_zret hx hb hr rfl (Or.inr rfl) hlocks dX9_isDigit_17 (Nat.le_of_ble_eq_true rfl) (Nat.le_of_ble_eq_true rfl) hP hS

def f_X9_rank (S : st_T) (x0 : Int32) : Option (Int32 × st_T) :=
  (c_c (f_X9_isLetter S x0) (fun (r1 : Int32) (T1 : st_T) => (c_i (r1 = 0) (some ((x0 - 21), T1)) (some ((x0 - 96), T1)))))
set_option maxRecDepth 100000 in
set_option maxHeartbeats 4000000 in
theorem s_X9_rank (l : Launch) (X : st_I) {S SE : st_T} {x0 : Int32} {rr : Int32} (Hf : f_X9_rank S x0 = some (rr, SE)) : Met l yX9_rank (Cond.code yX9_rank cX9_rank 1 (some .int) :: lw_g) { frames := 1, cells := 0, slots := 0, locals := 20 } (st_P X S [.int x0]) (st_Q X (st_A S) (some (.int rr)) SE) 0 0 (st_A S) := by
  refine st_ofW (by decide) (Nat.le_of_ble_eq_true rfl) ?_
  intro p e s m args below meth c hx hb hr hml hlocks hnm hts hown hK hRO hA hP hS ls hl
  have hown : s.vm.findClass RX9 = some m.cls := hown
  have hl : lv_has ls 1 [(0, .int x0)] := hl
  unfold f_X9_rank at Hf
  refine lv_iload_n hx hb dX9_rank_0 rfl (lv_at hl 0 rfl) ?_
  obtain ⟨r1, T1, hq1, Hf⟩ := c_c_some Hf
  refine r_cS (n := 1) (As := [.int x0]) (rest := []) ⟨hx, hb, hml, hown, hts⟩ (s_X9_isLetter l X hq1) lkm_X9_141 (by decide +kernel) dX9_rank_1 rfl rfl ⟨Nat.le_of_ble_eq_true rfl, Nat.le_of_ble_eq_true rfl⟩ rfl hl.1 (Nat.le_of_ble_eq_true rfl) ⟨Nat.le_of_ble_eq_true rfl, Nat.le_of_ble_eq_true rfl⟩ hK hRO hA hP hS (fun H locs hP hS => ?_)
  refine W.eq (g2 := F0 m 4 ls [.int r1]) rfl ?_
  refine lv_if_eq hx hb dX9_rank_4 (tgt := 14) (by decide) (fun hc => ?_) (fun hc => ?_)
  · have Hf := c_i_t Hf hc
    refine lv_iload_n hx hb dX9_rank_14 rfl (lv_at hl 0 rfl) ?_
    refine lv_bipush (v := 21) hx hb dX9_rank_15 (by decide) ?_
    refine lv_isub hx hb dX9_rank_17 ?_
    cases Hf
    exact r_iret hx hb hr rfl hlocks dX9_rank_18 (Nat.le_of_ble_eq_true rfl) (Nat.le_of_ble_eq_true rfl) hP hS
  have Hf := c_i_f Hf hc
  refine lv_iload_n hx hb dX9_rank_7 rfl (lv_at hl 0 rfl) ?_
  refine lv_bipush (v := 96) hx hb dX9_rank_8 (by decide) ?_
  refine lv_isub hx hb dX9_rank_10 ?_
  refine lv_goto hx hb dX9_rank_11 (tgt := 18) (by decide) ?_
  cases Hf
  exact r_iret hx hb hr rfl hlocks dX9_rank_18 (Nat.le_of_ble_eq_true rfl) (Nat.le_of_ble_eq_true rfl) hP hS

def j_X9_isSignOf_42 (S42 : st_T) : Option (Int32 × st_T) :=
  (some (1, S42))
def f_X9_isSignOf (S : st_T) (x0 : Int32) : Option (Int32 × st_T) :=
  (c_i (x0 = 40) (j_X9_isSignOf_42 S) (c_i (x0 = 41) (j_X9_isSignOf_42 S) (c_i (x0 = 59) (j_X9_isSignOf_42 S) (c_i (x0 = 61) (j_X9_isSignOf_42 S) (c_i (x0 = 60) (j_X9_isSignOf_42 S) (c_i (x0 = 43) (j_X9_isSignOf_42 S) (c_i (x0 = 45) (j_X9_isSignOf_42 S) (some (0, S)))))))))
set_option maxRecDepth 100000 in
set_option maxHeartbeats 4000000 in
theorem s_X9_isSignOf (l : Launch) (X : st_I) {S SE : st_T} {x0 : Int32} {rr : Int32} (Hf : f_X9_isSignOf S x0 = some (rr, SE)) : Met l yX9_isSignOf (Cond.code yX9_isSignOf cX9_isSignOf 1 (some .boolean) :: lw_g) { frames := 0, cells := 0, slots := 0, locals := 0 } (st_P X S [.int x0]) (st_Q X (st_A S) (some (.int rr)) SE) 0 0 (st_A S) := by
  refine st_ofW (by decide) (Nat.le_of_ble_eq_true rfl) ?_
  intro p e s m args below meth c hx hb hr hml hlocks hnm hts hown hK hRO hA hP hS ls hl
  have hown : s.vm.findClass RX9 = some m.cls := hown
  have hl : lv_has ls 1 [(0, .int x0)] := hl
  unfold f_X9_isSignOf at Hf
  refine lv_iload_n hx hb dX9_isSignOf_0 rfl (lv_at hl 0 rfl) ?_
  refine lv_bipush (v := 40) hx hb dX9_isSignOf_1 (by decide) ?_
  have hJ42 : ∀ (S42 : st_T), j_X9_isSignOf_42 S42 = some (rr, SE) → ∀ (H : Heap) (locs : List Loc) (ls : Array Slot), st_HP X (st_A S) S42 H → va_S (st_A S) s.heap H locs → lv_has ls 1 [] → W p l e { frames := 0, cells := 0, slots := 0, locals := 0 } s m args below meth c H locs 0 0 (MQ below (st_Q X (st_A S) (some (.int rr)) SE) args s 0 0 (st_A S)) (F0 m 42 ls []) := by
    intro S42 Hf H locs ls hP hS hl
    unfold j_X9_isSignOf_42 at Hf
    refine lv_iconst (v := 1) hx hb dX9_isSignOf_42 (by decide) ?_
    refine lv_goto hx hb dX9_isSignOf_43 (tgt := 47) (by decide) ?_
    cases Hf
    exact r_zret hx hb hr rfl (Or.inr rfl) hlocks dX9_isSignOf_47 (Nat.le_of_ble_eq_true rfl) (Nat.le_of_ble_eq_true rfl) hP hS
  refine lv_icmp_eq hx hb dX9_isSignOf_3 (tgt := 42) (by decide) (fun hc => ?_) (fun hc => ?_)
  · have Hf := c_i_t Hf hc
    exact hJ42 S Hf _ _ _ hP hS (lv_sub hl [] rfl)
  have Hf := c_i_f Hf hc
  refine lv_iload_n hx hb dX9_isSignOf_6 rfl (lv_at hl 0 rfl) ?_
  refine lv_bipush (v := 41) hx hb dX9_isSignOf_7 (by decide) ?_
  refine lv_icmp_eq hx hb dX9_isSignOf_9 (tgt := 42) (by decide) (fun hc => ?_) (fun hc => ?_)
  · have Hf := c_i_t Hf hc
    exact hJ42 S Hf _ _ _ hP hS (lv_sub hl [] rfl)
  have Hf := c_i_f Hf hc
  refine lv_iload_n hx hb dX9_isSignOf_12 rfl (lv_at hl 0 rfl) ?_
  refine lv_bipush (v := 59) hx hb dX9_isSignOf_13 (by decide) ?_
  refine lv_icmp_eq hx hb dX9_isSignOf_15 (tgt := 42) (by decide) (fun hc => ?_) (fun hc => ?_)
  · have Hf := c_i_t Hf hc
    exact hJ42 S Hf _ _ _ hP hS (lv_sub hl [] rfl)
  have Hf := c_i_f Hf hc
  refine lv_iload_n hx hb dX9_isSignOf_18 rfl (lv_at hl 0 rfl) ?_
  refine lv_bipush (v := 61) hx hb dX9_isSignOf_19 (by decide) ?_
  refine lv_icmp_eq hx hb dX9_isSignOf_21 (tgt := 42) (by decide) (fun hc => ?_) (fun hc => ?_)
  · have Hf := c_i_t Hf hc
    exact hJ42 S Hf _ _ _ hP hS (lv_sub hl [] rfl)
  have Hf := c_i_f Hf hc
  refine lv_iload_n hx hb dX9_isSignOf_24 rfl (lv_at hl 0 rfl) ?_
  refine lv_bipush (v := 60) hx hb dX9_isSignOf_25 (by decide) ?_
  refine lv_icmp_eq hx hb dX9_isSignOf_27 (tgt := 42) (by decide) (fun hc => ?_) (fun hc => ?_)
  · have Hf := c_i_t Hf hc
    exact hJ42 S Hf _ _ _ hP hS (lv_sub hl [] rfl)
  have Hf := c_i_f Hf hc
  refine lv_iload_n hx hb dX9_isSignOf_30 rfl (lv_at hl 0 rfl) ?_
  refine lv_bipush (v := 43) hx hb dX9_isSignOf_31 (by decide) ?_
  refine lv_icmp_eq hx hb dX9_isSignOf_33 (tgt := 42) (by decide) (fun hc => ?_) (fun hc => ?_)
  · have Hf := c_i_t Hf hc
    exact hJ42 S Hf _ _ _ hP hS (lv_sub hl [] rfl)
  have Hf := c_i_f Hf hc
  refine lv_iload_n hx hb dX9_isSignOf_36 rfl (lv_at hl 0 rfl) ?_
  refine lv_bipush (v := 45) hx hb dX9_isSignOf_37 (by decide) ?_
  refine lv_icmp_ne hx hb dX9_isSignOf_39 (tgt := 46) (by decide) (fun hc => ?_) (fun hc => ?_)
  · have Hf := c_i_f Hf hc
    refine lv_iconst (v := 0) hx hb dX9_isSignOf_46 (by decide) ?_
    cases Hf
    exact r_zret hx hb hr rfl (Or.inl rfl) hlocks dX9_isSignOf_47 (Nat.le_of_ble_eq_true rfl) (Nat.le_of_ble_eq_true rfl) hP hS
  have Hf := c_i_t Hf hc
  exact hJ42 S Hf _ _ _ hP hS (lv_sub hl [] rfl)

def j_X9_cutAll_44 (rec17 : st_T × Int32 × Int32 → Option (Unit × st_T)) (y1_17 : Int32) (y2_17 : Int32) (S44 : st_T) : Option (Unit × st_T) :=
  (rec17 (S44, y1_17, (y2_17 + 1)))
def j_X9_cutAll_265 (a0 : Nat) (rec17 : st_T × Int32 × Int32 → Option (Unit × st_T)) (y1_17 : Int32) (S265 : st_T) (y2_265 : Int32) (y5_265 : Int64) : Option (Unit × st_T) :=
  (c_g (st_K S265 a0 = 11) (c_n (st_fr S265 1006 a0) (fun (q266 : Nat) => (c_g (st_K S265 q266 = 21) (c_g (c_in y1_17 (st_ln S265 q266)) (c_l (st_wl S265 q266 (y1_17 : Int32).toNatClampNeg y5_265) (fun (S_272 : st_T) => (rec17 (S_272, (y1_17 + 1), y2_265)))))))))
def j_X9_cutAll_261 (a0 : Nat) (rec17 : st_T × Int32 × Int32 → Option (Unit × st_T)) (y1_17 : Int32) (y2_17 : Int32) (z5_242 : Int64) (q245 : Nat) (S261 : st_T) (u0_261 : Int32) : Option (Unit × st_T) :=
  (c_g (st_K S261 q245 = 20) (c_g (c_in y1_17 (st_ln S261 q245)) (c_l (st_wi S261 q245 (y1_17 : Int32).toNatClampNeg u0_261) (fun (S_261 : st_T) => (j_X9_cutAll_265 a0 rec17 y1_17 S_261 (y2_17 + 1) z5_242)))))
def j_X9_cutAll_236 (a0 : Nat) (rec17 : st_T × Int32 × Int32 → Option (Unit × st_T)) (y1_17 : Int32) (y2_159 : Int32) (y5_159 : Int64) (q219 : Nat) (S236 : st_T) (u0_236 : Int32) : Option (Unit × st_T) :=
  (c_g (st_K S236 q219 = 20) (c_g (c_in y1_17 (st_ln S236 q219)) (c_l (st_wi S236 q219 (y1_17 : Int32).toNatClampNeg u0_236) (fun (S_236 : st_T) => (j_X9_cutAll_265 a0 rec17 y1_17 S_236 y2_159 y5_159)))))
def j_X9_cutAll_218 (a0 : Nat) (rec17 : st_T × Int32 × Int32 → Option (Unit × st_T)) (y1_17 : Int32) (y2_17 : Int32) (y2_159 : Int32) (y5_159 : Int64) (S218 : st_T) : Option (Unit × st_T) :=
  (c_g (st_K S218 a0 = 11) (c_n (st_fr S218 1004 a0) (fun (q219 : Nat) => (c_i ((y2_159 - y2_17) ≤ 4) (j_X9_cutAll_236 a0 rec17 y1_17 y2_159 y5_159 q219 S218 2) (j_X9_cutAll_236 a0 rec17 y1_17 y2_159 y5_159 q219 S218 4)))))
def j_X9_cutAll_210 (rec159 : st_T × Int32 × Int64 → Option (Unit × st_T)) (y2_159 : Int32) (S210 : st_T) (u0_210 : Int64) : Option (Unit × st_T) :=
  (rec159 (S210, (y2_159 + 1), u0_210))
def b_X9_cutAll_159 (a0 : Nat) (rec17 : st_T × Int32 × Int32 → Option (Unit × st_T)) (y1_17 : Int32) (y2_17 : Int32) (rec159 : st_T × Int32 × Int64 → Option (Unit × st_T)) (q : st_T × Int32 × Int64) : Option (Unit × st_T) :=
  (fun (S159 : st_T) (y2_159 : Int32) (y5_159 : Int64) =>
  (c_g (st_K S159 a0 = 11) (c_i ((st_fi S159 1003 a0) ≤ y2_159) (j_X9_cutAll_218 a0 rec17 y1_17 y2_17 y2_159 y5_159 S159) (c_n (st_fr S159 1001 a0) (fun (q168 : Nat) => (c_g (st_K S159 q168 = 20) (c_g (c_in y2_159 (st_ln S159 q168)) (c_c (f_X9_isDigit S159 (st_ri S159 q168 (y2_159 : Int32).toNatClampNeg)) (fun (r173 : Int32) (T173 : st_T) => (c_i (r173 = 0) (j_X9_cutAll_218 a0 rec17 y1_17 y2_17 y2_159 y5_159 T173) (c_i (4 ≤ (y2_159 - y2_17)) (j_X9_cutAll_210 rec159 y2_159 T173 y5_159) (c_g (st_K T173 a0 = 11) (c_n (st_fr T173 1001 a0) (fun (q194 : Nat) => (c_g (st_K T173 q194 = 20) (c_g (c_in y2_159 (st_ln T173 q194)) (j_X9_cutAll_210 rec159 y2_159 T173 (((10 * y5_159) + (((st_ri T173 q194 (y2_159 : Int32).toNatClampNeg) : Int32).toInt64)) - 48)))))))))))))))))) q.1 q.2.1 q.2.2
def j_X9_cutAll_148 (a0 : Nat) (rec17 : st_T × Int32 × Int32 → Option (Unit × st_T)) (y1_17 : Int32) (y2_70 : Int32) (y5_70 : Int64) (q130 : Nat) (S148 : st_T) (u0_148 : Int32) : Option (Unit × st_T) :=
  (c_g (st_K S148 q130 = 20) (c_g (c_in y1_17 (st_ln S148 q130)) (c_l (st_wi S148 q130 (y1_17 : Int32).toNatClampNeg u0_148) (fun (S_148 : st_T) => (j_X9_cutAll_265 a0 rec17 y1_17 S_148 y2_70 y5_70)))))
def j_X9_cutAll_129 (a0 : Nat) (rec17 : st_T × Int32 × Int32 → Option (Unit × st_T)) (y1_17 : Int32) (y2_17 : Int32) (y2_70 : Int32) (y5_70 : Int64) (S129 : st_T) : Option (Unit × st_T) :=
  (c_g (st_K S129 a0 = 11) (c_n (st_fr S129 1004 a0) (fun (q130 : Nat) => (c_i ((y2_70 - y2_17) ≤ 8) (j_X9_cutAll_148 a0 rec17 y1_17 y2_70 y5_70 q130 S129 1) (j_X9_cutAll_148 a0 rec17 y1_17 y2_70 y5_70 q130 S129 4)))))
def j_X9_cutAll_121 (rec70 : st_T × Int32 × Int64 → Option (Unit × st_T)) (y2_70 : Int32) (S121 : st_T) (u0_121 : Int64) : Option (Unit × st_T) :=
  (rec70 (S121, (y2_70 + 1), u0_121))
def b_X9_cutAll_70 (a0 : Nat) (rec17 : st_T × Int32 × Int32 → Option (Unit × st_T)) (y1_17 : Int32) (y2_17 : Int32) (rec70 : st_T × Int32 × Int64 → Option (Unit × st_T)) (q : st_T × Int32 × Int64) : Option (Unit × st_T) :=
  (fun (S70 : st_T) (y2_70 : Int32) (y5_70 : Int64) =>
  (c_g (st_K S70 a0 = 11) (c_i ((st_fi S70 1003 a0) ≤ y2_70) (j_X9_cutAll_129 a0 rec17 y1_17 y2_17 y2_70 y5_70 S70) (c_n (st_fr S70 1001 a0) (fun (q79 : Nat) => (c_g (st_K S70 q79 = 20) (c_g (c_in y2_70 (st_ln S70 q79)) (c_c (f_X9_isLetter S70 (st_ri S70 q79 (y2_70 : Int32).toNatClampNeg)) (fun (r84 : Int32) (T84 : st_T) => (c_i (r84 = 0) (j_X9_cutAll_129 a0 rec17 y1_17 y2_17 y2_70 y5_70 T84) (c_i (8 ≤ (y2_70 - y2_17)) (j_X9_cutAll_121 rec70 y2_70 T84 y5_70) (c_g (st_K T84 a0 = 11) (c_n (st_fr T84 1001 a0) (fun (q106 : Nat) => (c_g (st_K T84 q106 = 20) (c_g (c_in y2_70 (st_ln T84 q106)) (c_c (f_X9_rank T84 (st_ri T84 q106 (y2_70 : Int32).toNatClampNeg)) (fun (r111 : Int32) (T111 : st_T) => (j_X9_cutAll_121 rec70 y2_70 T111 ((37 * y5_70) + ((r111 : Int32).toInt64))))))))))))))))))))) q.1 q.2.1 q.2.2
def b_X9_cutAll_17 (a0 : Nat) (rec17 : st_T × Int32 × Int32 → Option (Unit × st_T)) (q : st_T × Int32 × Int32) : Option (Unit × st_T) :=
  (fun (S17 : st_T) (y1_17 : Int32) (y2_17 : Int32) =>
  (c_g (st_K S17 a0 = 11) (c_i ((st_fi S17 1003 a0) ≤ y2_17) (c_n (st_fr S17 1004 a0) (fun (q280 : Nat) => (c_g (st_K S17 q280 = 20) (c_g (c_in y1_17 (st_ln S17 q280)) (c_l (st_wi S17 q280 (y1_17 : Int32).toNatClampNeg 0) (fun (S_285 : st_T) => (c_n (st_fr S_285 1005 a0) (fun (q287 : Nat) => (c_g (st_K S_285 q287 = 20) (c_g (c_in y1_17 (st_ln S_285 q287)) (c_l (st_wi S_285 q287 (y1_17 : Int32).toNatClampNeg (st_fi S_285 1003 a0)) (fun (S_295 : st_T) => (c_l (st_pi S_295 1007 a0 0) (fun (S_298 : st_T) => (c_l (st_pi S_298 1008 a0 0) (fun (S_303 : st_T) => (some ((), S_303)))))))))))))))))) (c_n (st_fr S17 1001 a0) (fun (q26 : Nat) => (c_g (st_K S17 q26 = 20) (c_g (c_in y2_17 (st_ln S17 q26)) (c_l (st_ri S17 q26 (y2_17 : Int32).toNatClampNeg) (fun (z3_31 : Int32) => (c_i (z3_31 = 10) (j_X9_cutAll_44 rec17 y1_17 y2_17 S17) (c_i (z3_31 = 32) (j_X9_cutAll_44 rec17 y1_17 y2_17 S17) (c_n (st_fr S17 1005 a0) (fun (q57 : Nat) => (c_g (st_K S17 q57 = 20) (c_g (c_in y1_17 (st_ln S17 q57)) (c_l (st_wi S17 q57 (y1_17 : Int32).toNatClampNeg y2_17) (fun (S_62 : st_T) => (c_c (f_X9_isLetter S_62 z3_31) (fun (r64 : Int32) (T64 : st_T) => (c_i (r64 = 0) (c_c (f_X9_isDigit T64 z3_31) (fun (r153 : Int32) (T153 : st_T) => (c_i (r153 = 0) (c_l ((z3_31 : Int32).toInt64) (fun (z5_242 : Int64) => (c_g (st_K T153 a0 = 11) (c_n (st_fr T153 1004 a0) (fun (q245 : Nat) => (c_c (f_X9_isSignOf T153 z3_31) (fun (r250 : Int32) (T250 : st_T) => (c_i (r250 = 0) (j_X9_cutAll_261 a0 rec17 y1_17 y2_17 z5_242 q245 T250 4) (j_X9_cutAll_261 a0 rec17 y1_17 y2_17 z5_242 q245 T250 3))))))))) (c_w (b_X9_cutAll_159 a0 rec17 y1_17 y2_17) c_N (T153, y2_17, 0))))) (c_w (b_X9_cutAll_70 a0 rec17 y1_17 y2_17) c_N (T64, y2_17, 0)))))))))))))))))))))) q.1 q.2.1 q.2.2
def f_X9_cutAll (S : st_T) (a0 : Nat) : Option (Unit × st_T) :=
  (c_g (st_K S a0 = 11) (c_l (st_pi S 1003 a0 (st_fi S 1002 a0)) (fun (S_5 : st_T) => (c_l (st_pi S_5 1002 a0 0) (fun (S_10 : st_T) => (c_w (b_X9_cutAll_17 a0) c_N (S_10, 0, 0)))))))
set_option maxRecDepth 100000 in
set_option maxHeartbeats 4000000 in
theorem s_X9_cutAll (l : Launch) (X : st_I) {S SE : st_T} {a0 : Nat} {rr : Unit} (Hf : f_X9_cutAll S a0 = some (rr, SE)) : Met l yX9_cutAll (Cond.code yX9_cutAll cX9_cutAll 7 (none) :: lw_g) { frames := 2, cells := 0, slots := 0, locals := 40 } (st_P X S [.ref a0]) (st_Q X (st_A S) none SE) 0 0 (st_A S) := by
  refine st_ofW (by decide) (Nat.le_of_ble_eq_true rfl) ?_
  intro p e s m args below meth c hx hb hr hml hlocks hnm hts hown hK hRO hA hP hS ls hl
  have hown : s.vm.findClass RX9 = some m.cls := hown
  have hl : lv_has ls 7 [(0, .ref a0)] := hl
  unfold f_X9_cutAll at Hf
  refine lv_aload_n hx hb dX9_cutAll_0 rfl (lv_at hl 0 rfl) ?_
  refine lv_aload_n hx hb dX9_cutAll_1 rfl (lv_at hl 0 rfl) ?_
  obtain ⟨hk_a0, Hf⟩ := c_g_some Hf
  refine fg_10_2 hx hb hts hown hK hP hk_a0 lkf_X9_138 dX9_cutAll_2 ?_
  refine fp_10_3 hx hb hts hown hK hP hS hk_a0 lkf_X9_145 dX9_cutAll_5 (fun H locs hP hS => ?_)
  obtain ⟨S_5, eS_5, Hf⟩ := c_l_ex Hf
  have hP : st_HP X (st_A S) S_5 H := by rw [eS_5]; exact hP
  refine lv_aload_n hx hb dX9_cutAll_8 rfl (lv_at hl 0 rfl) ?_
  refine lv_iconst (v := 0) hx hb dX9_cutAll_9 (by decide) ?_
  have hk_a0 : st_K S_5 a0 = 11 := by rw [kp_pi eS_5]; exact hk_a0
  refine fp_10_2 hx hb hts hown hK hP hS hk_a0 lkf_X9_138 dX9_cutAll_10 (fun H locs hP hS => ?_)
  obtain ⟨S_10, eS_10, Hf⟩ := c_l_ex Hf
  have hP : st_HP X (st_A S) S_10 H := by rw [eS_10]; exact hP
  refine lv_iconst (v := 0) hx hb dX9_cutAll_13 (by decide) ?_
  refine lv_istore_n (lv' := [(1, .int 0), (0, .ref a0)]) hx hb dX9_cutAll_14 rfl hl (by decide) rfl (fun ls hl => ?_)
  refine lv_iconst (v := 0) hx hb dX9_cutAll_15 (by decide) ?_
  refine lv_istore_n (lv' := [(2, .int 0), (1, .int 0), (0, .ref a0)]) hx hb dX9_cutAll_16 rfl hl (by decide) rfl (fun ls hl => ?_)
  refine (c_w_ind (P := fun (q : st_T × Int32 × Int32) => ∀ (H : Heap) (locs : List Loc) (ls : Array Slot), st_HP X (st_A S) q.1 H → va_S (st_A S) s.heap H locs → lv_has ls 7 [(0, .ref a0), (1, .int q.2.1), (2, .int q.2.2)] → W p l e { frames := 2, cells := 0, slots := 0, locals := 40 } s m args below meth c H locs 0 0 (MQ below (st_Q X (st_A S) none SE) args s 0 0 (st_A S)) (F0 m 17 ls [])) ?_ _ _ Hf) _ _ _ hP hS (lv_sub hl [2, 1, 0] rfl)
  intro rec17 hrec17 q Hf H locs ls hP hS hl
  obtain ⟨S17, y1_17, y2_17⟩ := q
  unfold b_X9_cutAll_17 at Hf
  try dsimp only at Hf
  try dsimp only at hP
  try dsimp only at hl
  try dsimp only
  refine lv_iload_n hx hb dX9_cutAll_17 rfl (lv_at hl 2 rfl) ?_
  refine lv_aload_n hx hb dX9_cutAll_18 rfl (lv_at hl 0 rfl) ?_
  obtain ⟨hk_a0, Hf⟩ := c_g_some Hf
  refine fg_10_3 hx hb hts hown hK hP hk_a0 lkf_X9_145 dX9_cutAll_19 ?_
  refine lv_icmp_ge hx hb dX9_cutAll_22 (tgt := 279) (by decide) (fun hc => ?_) (fun hc => ?_)
  · have Hf := c_i_t Hf hc
    refine lv_aload_n hx hb dX9_cutAll_279 rfl (lv_at hl 0 rfl) ?_
    obtain ⟨q280, hq280, Hf⟩ := c_n_some Hf
    refine fg_10_4 hx hb hts hown hK hP hk_a0 lkf_X9_13 hq280 dX9_cutAll_280 ?_
    refine lv_iload_n hx hb dX9_cutAll_283 rfl (lv_at hl 1 rfl) ?_
    refine lv_iconst (v := 0) hx hb dX9_cutAll_284 (by decide) ?_
    obtain ⟨hk_q280, Hf⟩ := c_g_some Hf
    obtain ⟨hi285, Hf⟩ := c_g_some Hf
    refine r_iast hx hb hK hP hS hk_q280 hi285 dX9_cutAll_285 (fun H locs hP hS => ?_)
    obtain ⟨S_285, eS_285, Hf⟩ := c_l_ex Hf
    have hP : st_HP X (st_A S) S_285 H := by rw [eS_285]; exact hP
    refine lv_aload_n hx hb dX9_cutAll_286 rfl (lv_at hl 0 rfl) ?_
    have hk_a0 : st_K S_285 a0 = 11 := by rw [kp_wi eS_285]; exact hk_a0
    obtain ⟨q287, hq287, Hf⟩ := c_n_some Hf
    refine fg_10_5 hx hb hts hown hK hP hk_a0 lkf_X9_16 hq287 dX9_cutAll_287 ?_
    refine lv_iload_n hx hb dX9_cutAll_290 rfl (lv_at hl 1 rfl) ?_
    refine lv_aload_n hx hb dX9_cutAll_291 rfl (lv_at hl 0 rfl) ?_
    refine fg_10_3 hx hb hts hown hK hP hk_a0 lkf_X9_145 dX9_cutAll_292 ?_
    obtain ⟨hk_q287, Hf⟩ := c_g_some Hf
    obtain ⟨hi295, Hf⟩ := c_g_some Hf
    refine r_iast hx hb hK hP hS hk_q287 hi295 dX9_cutAll_295 (fun H locs hP hS => ?_)
    obtain ⟨S_295, eS_295, Hf⟩ := c_l_ex Hf
    have hP : st_HP X (st_A S) S_295 H := by rw [eS_295]; exact hP
    refine lv_aload_n hx hb dX9_cutAll_296 rfl (lv_at hl 0 rfl) ?_
    refine lv_iconst (v := 0) hx hb dX9_cutAll_297 (by decide) ?_
    have hk_a0 : st_K S_295 a0 = 11 := by rw [kp_wi eS_295]; exact hk_a0
    refine fp_10_7 hx hb hts hown hK hP hS hk_a0 lkf_X9_164 dX9_cutAll_298 (fun H locs hP hS => ?_)
    obtain ⟨S_298, eS_298, Hf⟩ := c_l_ex Hf
    have hP : st_HP X (st_A S) S_298 H := by rw [eS_298]; exact hP
    refine lv_aload_n hx hb dX9_cutAll_301 rfl (lv_at hl 0 rfl) ?_
    refine lv_iconst (v := 0) hx hb dX9_cutAll_302 (by decide) ?_
    have hk_a0 : st_K S_298 a0 = 11 := by rw [kp_pi eS_298]; exact hk_a0
    refine fp_10_8 hx hb hts hown hK hP hS hk_a0 lkf_X9_167 dX9_cutAll_303 (fun H locs hP hS => ?_)
    obtain ⟨S_303, eS_303, Hf⟩ := c_l_ex Hf
    have hP : st_HP X (st_A S) S_303 H := by rw [eS_303]; exact hP
    cases Hf
    exact r_vret hx hb hr rfl hlocks dX9_cutAll_306 (Nat.le_of_ble_eq_true rfl) (Nat.le_of_ble_eq_true rfl) hP hS
  have Hf := c_i_f Hf hc
  refine lv_aload_n hx hb dX9_cutAll_25 rfl (lv_at hl 0 rfl) ?_
  obtain ⟨q26, hq26, Hf⟩ := c_n_some Hf
  refine fg_10_1 hx hb hts hown hK hP hk_a0 lkf_X9_7 hq26 dX9_cutAll_26 ?_
  refine lv_iload_n hx hb dX9_cutAll_29 rfl (lv_at hl 2 rfl) ?_
  obtain ⟨hk_q26, Hf⟩ := c_g_some Hf
  obtain ⟨hi30, Hf⟩ := c_g_some Hf
  refine r_iald hx hb hK hP hk_q26 hi30 dX9_cutAll_30 ?_
  refine lv_topi (fun z3_31 ez3_31 => ?_)
  have Hf := c_l_ren Hf ez3_31
  refine lv_istore_n (lv' := [(3, .int z3_31), (0, .ref a0), (1, .int y1_17), (2, .int y2_17)]) hx hb dX9_cutAll_31 rfl hl (by decide) rfl (fun ls hl => ?_)
  refine lv_iload_n hx hb dX9_cutAll_32 rfl (lv_at hl 0 rfl) ?_
  refine lv_bipush (v := 10) hx hb dX9_cutAll_33 (by decide) ?_
  have hJ44 : ∀ (S44 : st_T), j_X9_cutAll_44 rec17 y1_17 y2_17 S44 = some (rr, SE) → ∀ (H : Heap) (locs : List Loc) (ls : Array Slot), st_HP X (st_A S) S44 H → va_S (st_A S) s.heap H locs → lv_has ls 7 [(0, .ref a0), (1, .int y1_17), (2, .int y2_17)] → W p l e { frames := 2, cells := 0, slots := 0, locals := 40 } s m args below meth c H locs 0 0 (MQ below (st_Q X (st_A S) none SE) args s 0 0 (st_A S)) (F0 m 44 ls []) := by
    intro S44 Hf H locs ls hP hS hl
    unfold j_X9_cutAll_44 at Hf
    refine lv_iinc (v := (y2_17 + 1)) (lv' := [(2, .int (y2_17 + 1)), (0, .ref a0), (1, .int y1_17)]) hx hb dX9_cutAll_44 hl (k := 2) rfl rfl (by decide) rfl (fun ls hl => ?_)
    refine lv_goto hx hb dX9_cutAll_47 (tgt := 17) (by decide) ?_
    exact hrec17 (S44, y1_17, (y2_17 + 1)) Hf _ _ _ hP hS (lv_sub hl [1, 2, 0] rfl)
  refine lv_icmp_eq hx hb dX9_cutAll_35 (tgt := 44) (by decide) (fun hc => ?_) (fun hc => ?_)
  · have Hf := c_i_t Hf hc
    exact hJ44 S17 Hf _ _ _ hP hS (lv_sub hl [1, 2, 3] rfl)
  have Hf := c_i_f Hf hc
  refine lv_iload_n hx hb dX9_cutAll_38 rfl (lv_at hl 0 rfl) ?_
  refine lv_bipush (v := 32) hx hb dX9_cutAll_39 (by decide) ?_
  refine lv_icmp_ne hx hb dX9_cutAll_41 (tgt := 50) (by decide) (fun hc => ?_) (fun hc => ?_)
  · have Hf := c_i_f Hf hc
    refine lv_iload_n hx hb dX9_cutAll_50 rfl (lv_at hl 3 rfl) ?_
    refine lv_istore (lv' := [(4, .int y2_17), (3, .int z3_31), (0, .ref a0), (1, .int y1_17), (2, .int y2_17)]) hx hb dX9_cutAll_51 hl (by decide) rfl (fun ls hl => ?_)
    refine lv_lconst (v := 0) hx hb dX9_cutAll_53 (by decide) ?_
    refine lv_lstore (lv' := [(5, .long 0), (4, .int y2_17), (3, .int z3_31), (0, .ref a0), (1, .int y1_17), (2, .int y2_17)]) hx hb dX9_cutAll_54 hl (by decide) rfl (fun ls hl => ?_)
    refine lv_aload_n hx hb dX9_cutAll_56 rfl (lv_at hl 3 rfl) ?_
    obtain ⟨q57, hq57, Hf⟩ := c_n_some Hf
    refine fg_10_5 hx hb hts hown hK hP hk_a0 lkf_X9_16 hq57 dX9_cutAll_57 ?_
    refine lv_iload_n hx hb dX9_cutAll_60 rfl (lv_at hl 4 rfl) ?_
    refine lv_iload_n hx hb dX9_cutAll_61 rfl (lv_at hl 5 rfl) ?_
    obtain ⟨hk_q57, Hf⟩ := c_g_some Hf
    obtain ⟨hi62, Hf⟩ := c_g_some Hf
    refine r_iast hx hb hK hP hS hk_q57 hi62 dX9_cutAll_62 (fun H locs hP hS => ?_)
    obtain ⟨S_62, eS_62, Hf⟩ := c_l_ex Hf
    have hP : st_HP X (st_A S) S_62 H := by rw [eS_62]; exact hP
    refine lv_iload_n hx hb dX9_cutAll_63 rfl (lv_at hl 2 rfl) ?_
    obtain ⟨r64, T64, hq64, Hf⟩ := c_c_some Hf
    refine r_cS (n := 1) (As := [.int z3_31]) (rest := []) ⟨hx, hb, hml, hown, hts⟩ (s_X9_isLetter l X hq64) lkm_X9_141 (by decide +kernel) dX9_cutAll_64 rfl rfl ⟨Nat.le_of_ble_eq_true rfl, Nat.le_of_ble_eq_true rfl⟩ rfl hl.1 (Nat.le_of_ble_eq_true rfl) ⟨Nat.le_of_ble_eq_true rfl, Nat.le_of_ble_eq_true rfl⟩ hK hRO hA hP hS (fun H locs hP hS => ?_)
    refine W.eq (g2 := F0 m 67 ls [.int r64]) rfl ?_
    have hJ265 : ∀ (S265 : st_T) (y2_265 : Int32) (y5_265 : Int64), j_X9_cutAll_265 a0 rec17 y1_17 S265 y2_265 y5_265 = some (rr, SE) → ∀ (H : Heap) (locs : List Loc) (ls : Array Slot), st_HP X (st_A S) S265 H → va_S (st_A S) s.heap H locs → lv_has ls 7 [(0, .ref a0), (1, .int y1_17), (2, .int y2_265), (5, .long y5_265)] → W p l e { frames := 2, cells := 0, slots := 0, locals := 40 } s m args below meth c H locs 0 0 (MQ below (st_Q X (st_A S) none SE) args s 0 0 (st_A S)) (F0 m 265 ls []) := by
      intro S265 y2_265 y5_265 Hf H locs ls hP hS hl
      unfold j_X9_cutAll_265 at Hf
      refine lv_aload_n hx hb dX9_cutAll_265 rfl (lv_at hl 0 rfl) ?_
      obtain ⟨hk_a0, Hf⟩ := c_g_some Hf
      obtain ⟨q266, hq266, Hf⟩ := c_n_some Hf
      refine fg_10_6 hx hb hts hown hK hP hk_a0 lkf_X9_19 hq266 dX9_cutAll_266 ?_
      refine lv_iload_n hx hb dX9_cutAll_269 rfl (lv_at hl 1 rfl) ?_
      refine lv_lload hx hb dX9_cutAll_270 (lv_at hl 3 rfl) ?_
      obtain ⟨hk_q266, Hf⟩ := c_g_some Hf
      obtain ⟨hi272, Hf⟩ := c_g_some Hf
      refine r_last hx hb hK hP hS hk_q266 hi272 dX9_cutAll_272 (fun H locs hP hS => ?_)
      obtain ⟨S_272, eS_272, Hf⟩ := c_l_ex Hf
      have hP : st_HP X (st_A S) S_272 H := by rw [eS_272]; exact hP
      refine lv_iinc (v := (y1_17 + 1)) (lv' := [(1, .int (y1_17 + 1)), (0, .ref a0), (2, .int y2_265), (5, .long y5_265)]) hx hb dX9_cutAll_273 hl (k := 1) rfl rfl (by decide) rfl (fun ls hl => ?_)
      refine lv_goto hx hb dX9_cutAll_276 (tgt := 17) (by decide) ?_
      exact hrec17 (S_272, (y1_17 + 1), y2_265) Hf _ _ _ hP hS (lv_sub hl [1, 0, 2] rfl)
    refine lv_if_eq hx hb dX9_cutAll_67 (tgt := 152) (by decide) (fun hc => ?_) (fun hc => ?_)
    · have Hf := c_i_t Hf hc
      refine lv_iload_n hx hb dX9_cutAll_152 rfl (lv_at hl 2 rfl) ?_
      obtain ⟨r153, T153, hq153, Hf⟩ := c_c_some Hf
      refine r_cS (n := 1) (As := [.int z3_31]) (rest := []) ⟨hx, hb, hml, hown, hts⟩ (s_X9_isDigit l X hq153) lkm_X9_154 (by decide +kernel) dX9_cutAll_153 rfl rfl ⟨Nat.le_of_ble_eq_true rfl, Nat.le_of_ble_eq_true rfl⟩ rfl hl.1 (Nat.le_of_ble_eq_true rfl) ⟨Nat.le_of_ble_eq_true rfl, Nat.le_of_ble_eq_true rfl⟩ hK hRO hA hP hS (fun H locs hP hS => ?_)
      refine W.eq (g2 := F0 m 156 ls [.int r153]) rfl ?_
      refine lv_if_eq hx hb dX9_cutAll_156 (tgt := 240) (by decide) (fun hc => ?_) (fun hc => ?_)
      · have Hf := c_i_t Hf hc
        refine lv_iload_n hx hb dX9_cutAll_240 rfl (lv_at hl 2 rfl) ?_
        refine lv_i2l (v := (z3_31 : Int32).toInt64) hx hb dX9_cutAll_241 rfl ?_
        refine lv_topl (fun z5_242 ez5_242 => ?_)
        have Hf := c_l_ren Hf ez5_242
        refine lv_lstore (lv' := [(5, .long z5_242), (4, .int y2_17), (3, .int z3_31), (0, .ref a0), (1, .int y1_17), (2, .int y2_17)]) hx hb dX9_cutAll_242 hl (by decide) rfl (fun ls hl => ?_)
        refine lv_aload_n hx hb dX9_cutAll_244 rfl (lv_at hl 3 rfl) ?_
        obtain ⟨hk_a0, Hf⟩ := c_g_some Hf
        obtain ⟨q245, hq245, Hf⟩ := c_n_some Hf
        refine fg_10_4 hx hb hts hown hK hP hk_a0 lkf_X9_13 hq245 dX9_cutAll_245 ?_
        refine lv_iload_n hx hb dX9_cutAll_248 rfl (lv_at hl 4 rfl) ?_
        refine lv_iload_n hx hb dX9_cutAll_249 rfl (lv_at hl 2 rfl) ?_
        obtain ⟨r250, T250, hq250, Hf⟩ := c_c_some Hf
        refine r_cS (n := 1) (As := [.int z3_31]) (rest := [.int y1_17, .ref q245]) ⟨hx, hb, hml, hown, hts⟩ (s_X9_isSignOf l X hq250) lkm_X9_161 (by decide +kernel) dX9_cutAll_250 rfl rfl ⟨Nat.le_of_ble_eq_true rfl, Nat.le_of_ble_eq_true rfl⟩ rfl hl.1 (Nat.le_of_ble_eq_true rfl) ⟨Nat.le_of_ble_eq_true rfl, Nat.le_of_ble_eq_true rfl⟩ hK hRO hA hP hS (fun H locs hP hS => ?_)
        refine W.eq (g2 := F0 m 253 ls [.int r250, .int y1_17, .ref q245]) rfl ?_
        have hJ261 : ∀ (S261 : st_T) (u0_261 : Int32), j_X9_cutAll_261 a0 rec17 y1_17 y2_17 z5_242 q245 S261 u0_261 = some (rr, SE) → ∀ (H : Heap) (locs : List Loc) (ls : Array Slot), st_HP X (st_A S) S261 H → va_S (st_A S) s.heap H locs → lv_has ls 7 [(0, .ref a0), (1, .int y1_17), (2, .int y2_17), (5, .long z5_242)] → W p l e { frames := 2, cells := 0, slots := 0, locals := 40 } s m args below meth c H locs 0 0 (MQ below (st_Q X (st_A S) none SE) args s 0 0 (st_A S)) (F0 m 261 ls [.int u0_261, .int y1_17, .ref q245]) := by
          intro S261 u0_261 Hf H locs ls hP hS hl
          unfold j_X9_cutAll_261 at Hf
          obtain ⟨hk_q245, Hf⟩ := c_g_some Hf
          obtain ⟨hi261, Hf⟩ := c_g_some Hf
          refine r_iast hx hb hK hP hS hk_q245 hi261 dX9_cutAll_261 (fun H locs hP hS => ?_)
          obtain ⟨S_261, eS_261, Hf⟩ := c_l_ex Hf
          have hP : st_HP X (st_A S) S_261 H := by rw [eS_261]; exact hP
          refine lv_iinc (v := (y2_17 + 1)) (lv' := [(2, .int (y2_17 + 1)), (0, .ref a0), (1, .int y1_17), (5, .long z5_242)]) hx hb dX9_cutAll_262 hl (k := 2) rfl rfl (by decide) rfl (fun ls hl => ?_)
          exact hJ265 S_261 (y2_17 + 1) z5_242 Hf _ _ _ hP hS (lv_sub hl [1, 2, 0, 3] rfl)
        refine lv_if_eq hx hb dX9_cutAll_253 (tgt := 260) (by decide) (fun hc => ?_) (fun hc => ?_)
        · have Hf := c_i_t Hf hc
          refine lv_iconst (v := 4) hx hb dX9_cutAll_260 (by decide) ?_
          exact hJ261 T250 4 Hf _ _ _ hP hS (lv_sub hl [3, 4, 5, 0] rfl)
        have Hf := c_i_f Hf hc
        refine lv_iconst (v := 3) hx hb dX9_cutAll_256 (by decide) ?_
        refine lv_goto hx hb dX9_cutAll_257 (tgt := 261) (by decide) ?_
        exact hJ261 T250 3 Hf _ _ _ hP hS (lv_sub hl [3, 4, 5, 0] rfl)
      have Hf := c_i_f Hf hc
      refine (c_w_ind (P := fun (q : st_T × Int32 × Int64) => ∀ (H : Heap) (locs : List Loc) (ls : Array Slot), st_HP X (st_A S) q.1 H → va_S (st_A S) s.heap H locs → lv_has ls 7 [(0, .ref a0), (1, .int y1_17), (2, .int q.2.1), (4, .int y2_17), (5, .long q.2.2)] → W p l e { frames := 2, cells := 0, slots := 0, locals := 40 } s m args below meth c H locs 0 0 (MQ below (st_Q X (st_A S) none SE) args s 0 0 (st_A S)) (F0 m 159 ls [])) ?_ _ _ Hf) _ _ _ hP hS (lv_sub hl [3, 4, 5, 1, 0] rfl)
      intro rec159 hrec159 q Hf H locs ls hP hS hl
      obtain ⟨S159, y2_159, y5_159⟩ := q
      unfold b_X9_cutAll_159 at Hf
      try dsimp only at Hf
      try dsimp only at hP
      try dsimp only at hl
      try dsimp only
      refine lv_iload_n hx hb dX9_cutAll_159 rfl (lv_at hl 2 rfl) ?_
      refine lv_aload_n hx hb dX9_cutAll_160 rfl (lv_at hl 0 rfl) ?_
      obtain ⟨hk_a0, Hf⟩ := c_g_some Hf
      refine fg_10_3 hx hb hts hown hK hP hk_a0 lkf_X9_145 dX9_cutAll_161 ?_
      have hJ218 : ∀ (S218 : st_T), j_X9_cutAll_218 a0 rec17 y1_17 y2_17 y2_159 y5_159 S218 = some (rr, SE) → ∀ (H : Heap) (locs : List Loc) (ls : Array Slot), st_HP X (st_A S) S218 H → va_S (st_A S) s.heap H locs → lv_has ls 7 [(0, .ref a0), (1, .int y1_17), (2, .int y2_159), (4, .int y2_17), (5, .long y5_159)] → W p l e { frames := 2, cells := 0, slots := 0, locals := 40 } s m args below meth c H locs 0 0 (MQ below (st_Q X (st_A S) none SE) args s 0 0 (st_A S)) (F0 m 218 ls []) := by
        intro S218 Hf H locs ls hP hS hl
        unfold j_X9_cutAll_218 at Hf
        refine lv_aload_n hx hb dX9_cutAll_218 rfl (lv_at hl 0 rfl) ?_
        obtain ⟨hk_a0, Hf⟩ := c_g_some Hf
        obtain ⟨q219, hq219, Hf⟩ := c_n_some Hf
        refine fg_10_4 hx hb hts hown hK hP hk_a0 lkf_X9_13 hq219 dX9_cutAll_219 ?_
        refine lv_iload_n hx hb dX9_cutAll_222 rfl (lv_at hl 1 rfl) ?_
        refine lv_iload_n hx hb dX9_cutAll_223 rfl (lv_at hl 2 rfl) ?_
        refine lv_iload hx hb dX9_cutAll_224 (lv_at hl 3 rfl) ?_
        refine lv_isub hx hb dX9_cutAll_226 ?_
        refine lv_iconst (v := 4) hx hb dX9_cutAll_227 (by decide) ?_
        have hJ236 : ∀ (S236 : st_T) (u0_236 : Int32), j_X9_cutAll_236 a0 rec17 y1_17 y2_159 y5_159 q219 S236 u0_236 = some (rr, SE) → ∀ (H : Heap) (locs : List Loc) (ls : Array Slot), st_HP X (st_A S) S236 H → va_S (st_A S) s.heap H locs → lv_has ls 7 [(0, .ref a0), (1, .int y1_17), (2, .int y2_159), (5, .long y5_159)] → W p l e { frames := 2, cells := 0, slots := 0, locals := 40 } s m args below meth c H locs 0 0 (MQ below (st_Q X (st_A S) none SE) args s 0 0 (st_A S)) (F0 m 236 ls [.int u0_236, .int y1_17, .ref q219]) := by
          intro S236 u0_236 Hf H locs ls hP hS hl
          unfold j_X9_cutAll_236 at Hf
          obtain ⟨hk_q219, Hf⟩ := c_g_some Hf
          obtain ⟨hi236, Hf⟩ := c_g_some Hf
          refine r_iast hx hb hK hP hS hk_q219 hi236 dX9_cutAll_236 (fun H locs hP hS => ?_)
          obtain ⟨S_236, eS_236, Hf⟩ := c_l_ex Hf
          have hP : st_HP X (st_A S) S_236 H := by rw [eS_236]; exact hP
          refine lv_goto hx hb dX9_cutAll_237 (tgt := 265) (by decide) ?_
          exact hJ265 S_236 y2_159 y5_159 Hf _ _ _ hP hS (lv_sub hl [0, 1, 2, 3] rfl)
        refine lv_icmp_le hx hb dX9_cutAll_228 (tgt := 235) (by decide) (fun hc => ?_) (fun hc => ?_)
        · have Hf := c_i_t Hf hc
          refine lv_iconst (v := 2) hx hb dX9_cutAll_235 (by decide) ?_
          exact hJ236 S218 2 Hf _ _ _ hP hS (lv_sub hl [0, 1, 2, 4] rfl)
        have Hf := c_i_f Hf hc
        refine lv_iconst (v := 4) hx hb dX9_cutAll_231 (by decide) ?_
        refine lv_goto hx hb dX9_cutAll_232 (tgt := 236) (by decide) ?_
        exact hJ236 S218 4 Hf _ _ _ hP hS (lv_sub hl [0, 1, 2, 4] rfl)
      refine lv_icmp_ge hx hb dX9_cutAll_164 (tgt := 218) (by decide) (fun hc => ?_) (fun hc => ?_)
      · have Hf := c_i_t Hf hc
        exact hJ218 S159 Hf _ _ _ hP hS (lv_sub hl [0, 1, 2, 3, 4] rfl)
      have Hf := c_i_f Hf hc
      refine lv_aload_n hx hb dX9_cutAll_167 rfl (lv_at hl 0 rfl) ?_
      obtain ⟨q168, hq168, Hf⟩ := c_n_some Hf
      refine fg_10_1 hx hb hts hown hK hP hk_a0 lkf_X9_7 hq168 dX9_cutAll_168 ?_
      refine lv_iload_n hx hb dX9_cutAll_171 rfl (lv_at hl 2 rfl) ?_
      obtain ⟨hk_q168, Hf⟩ := c_g_some Hf
      obtain ⟨hi172, Hf⟩ := c_g_some Hf
      refine r_iald hx hb hK hP hk_q168 hi172 dX9_cutAll_172 ?_
      obtain ⟨r173, T173, hq173, Hf⟩ := c_c_some Hf
      refine r_cS (n := 1) (As := [.int (st_ri S159 q168 (y2_159 : Int32).toNatClampNeg)]) (rest := []) ⟨hx, hb, hml, hown, hts⟩ (s_X9_isDigit l X hq173) lkm_X9_154 (by decide +kernel) dX9_cutAll_173 rfl rfl ⟨Nat.le_of_ble_eq_true rfl, Nat.le_of_ble_eq_true rfl⟩ rfl hl.1 (Nat.le_of_ble_eq_true rfl) ⟨Nat.le_of_ble_eq_true rfl, Nat.le_of_ble_eq_true rfl⟩ hK hRO hA hP hS (fun H locs hP hS => ?_)
      refine W.eq (g2 := F0 m 176 ls [.int r173]) rfl ?_
      refine lv_if_eq hx hb dX9_cutAll_176 (tgt := 218) (by decide) (fun hc => ?_) (fun hc => ?_)
      · have Hf := c_i_t Hf hc
        exact hJ218 T173 Hf _ _ _ hP hS (lv_sub hl [0, 1, 2, 3, 4] rfl)
      have Hf := c_i_f Hf hc
      refine lv_iload_n hx hb dX9_cutAll_179 rfl (lv_at hl 2 rfl) ?_
      refine lv_iload hx hb dX9_cutAll_180 (lv_at hl 3 rfl) ?_
      refine lv_isub hx hb dX9_cutAll_182 ?_
      refine lv_iconst (v := 4) hx hb dX9_cutAll_183 (by decide) ?_
      have hJ210 : ∀ (S210 : st_T) (u0_210 : Int64), j_X9_cutAll_210 rec159 y2_159 S210 u0_210 = some (rr, SE) → ∀ (H : Heap) (locs : List Loc) (ls : Array Slot), st_HP X (st_A S) S210 H → va_S (st_A S) s.heap H locs → lv_has ls 7 [(0, .ref a0), (1, .int y1_17), (2, .int y2_159), (4, .int y2_17)] → W p l e { frames := 2, cells := 0, slots := 0, locals := 40 } s m args below meth c H locs 0 0 (MQ below (st_Q X (st_A S) none SE) args s 0 0 (st_A S)) (F0 m 210 ls [.long u0_210]) := by
        intro S210 u0_210 Hf H locs ls hP hS hl
        unfold j_X9_cutAll_210 at Hf
        refine lv_lstore (lv' := [(5, .long u0_210), (0, .ref a0), (1, .int y1_17), (2, .int y2_159), (4, .int y2_17)]) hx hb dX9_cutAll_210 hl (by decide) rfl (fun ls hl => ?_)
        refine lv_iinc (v := (y2_159 + 1)) (lv' := [(2, .int (y2_159 + 1)), (5, .long u0_210), (0, .ref a0), (1, .int y1_17), (4, .int y2_17)]) hx hb dX9_cutAll_212 hl (k := 3) rfl rfl (by decide) rfl (fun ls hl => ?_)
        refine lv_goto hx hb dX9_cutAll_215 (tgt := 159) (by decide) ?_
        exact hrec159 (S210, (y2_159 + 1), u0_210) Hf _ _ _ hP hS (lv_sub hl [2, 3, 0, 4, 1] rfl)
      refine lv_icmp_ge hx hb dX9_cutAll_184 (tgt := 208) (by decide) (fun hc => ?_) (fun hc => ?_)
      · have Hf := c_i_t Hf hc
        refine lv_lload hx hb dX9_cutAll_208 (lv_at hl 4 rfl) ?_
        exact hJ210 T173 y5_159 Hf _ _ _ hP hS (lv_sub hl [0, 1, 2, 3] rfl)
      have Hf := c_i_f Hf hc
      refine lv_ldc2 hx hb hown (hts _ lkc_X9_157) dX9_cutAll_187 ?_
      refine lv_lload hx hb dX9_cutAll_190 (lv_at hl 4 rfl) ?_
      refine lv_lmul hx hb dX9_cutAll_192 ?_
      refine lv_aload_n hx hb dX9_cutAll_193 rfl (lv_at hl 0 rfl) ?_
      obtain ⟨hk_a0, Hf⟩ := c_g_some Hf
      obtain ⟨q194, hq194, Hf⟩ := c_n_some Hf
      refine fg_10_1 hx hb hts hown hK hP hk_a0 lkf_X9_7 hq194 dX9_cutAll_194 ?_
      refine lv_iload_n hx hb dX9_cutAll_197 rfl (lv_at hl 2 rfl) ?_
      obtain ⟨hk_q194, Hf⟩ := c_g_some Hf
      obtain ⟨hi198, Hf⟩ := c_g_some Hf
      refine r_iald hx hb hK hP hk_q194 hi198 dX9_cutAll_198 ?_
      refine lv_i2l (v := ((st_ri T173 q194 (y2_159 : Int32).toNatClampNeg) : Int32).toInt64) hx hb dX9_cutAll_199 rfl ?_
      refine lv_ladd hx hb dX9_cutAll_200 ?_
      refine lv_ldc2 hx hb hown (hts _ lkc_X9_159) dX9_cutAll_201 ?_
      refine lv_lsub hx hb dX9_cutAll_204 ?_
      refine lv_goto hx hb dX9_cutAll_205 (tgt := 210) (by decide) ?_
      exact hJ210 T173 (((10 * y5_159) + (((st_ri T173 q194 (y2_159 : Int32).toNatClampNeg) : Int32).toInt64)) - 48) Hf _ _ _ hP hS (lv_sub hl [0, 1, 2, 3] rfl)
    have Hf := c_i_f Hf hc
    refine (c_w_ind (P := fun (q : st_T × Int32 × Int64) => ∀ (H : Heap) (locs : List Loc) (ls : Array Slot), st_HP X (st_A S) q.1 H → va_S (st_A S) s.heap H locs → lv_has ls 7 [(0, .ref a0), (1, .int y1_17), (2, .int q.2.1), (4, .int y2_17), (5, .long q.2.2)] → W p l e { frames := 2, cells := 0, slots := 0, locals := 40 } s m args below meth c H locs 0 0 (MQ below (st_Q X (st_A S) none SE) args s 0 0 (st_A S)) (F0 m 70 ls [])) ?_ _ _ Hf) _ _ _ hP hS (lv_sub hl [3, 4, 5, 1, 0] rfl)
    intro rec70 hrec70 q Hf H locs ls hP hS hl
    obtain ⟨S70, y2_70, y5_70⟩ := q
    unfold b_X9_cutAll_70 at Hf
    try dsimp only at Hf
    try dsimp only at hP
    try dsimp only at hl
    try dsimp only
    refine lv_iload_n hx hb dX9_cutAll_70 rfl (lv_at hl 2 rfl) ?_
    refine lv_aload_n hx hb dX9_cutAll_71 rfl (lv_at hl 0 rfl) ?_
    obtain ⟨hk_a0, Hf⟩ := c_g_some Hf
    refine fg_10_3 hx hb hts hown hK hP hk_a0 lkf_X9_145 dX9_cutAll_72 ?_
    have hJ129 : ∀ (S129 : st_T), j_X9_cutAll_129 a0 rec17 y1_17 y2_17 y2_70 y5_70 S129 = some (rr, SE) → ∀ (H : Heap) (locs : List Loc) (ls : Array Slot), st_HP X (st_A S) S129 H → va_S (st_A S) s.heap H locs → lv_has ls 7 [(0, .ref a0), (1, .int y1_17), (2, .int y2_70), (4, .int y2_17), (5, .long y5_70)] → W p l e { frames := 2, cells := 0, slots := 0, locals := 40 } s m args below meth c H locs 0 0 (MQ below (st_Q X (st_A S) none SE) args s 0 0 (st_A S)) (F0 m 129 ls []) := by
      intro S129 Hf H locs ls hP hS hl
      unfold j_X9_cutAll_129 at Hf
      refine lv_aload_n hx hb dX9_cutAll_129 rfl (lv_at hl 0 rfl) ?_
      obtain ⟨hk_a0, Hf⟩ := c_g_some Hf
      obtain ⟨q130, hq130, Hf⟩ := c_n_some Hf
      refine fg_10_4 hx hb hts hown hK hP hk_a0 lkf_X9_13 hq130 dX9_cutAll_130 ?_
      refine lv_iload_n hx hb dX9_cutAll_133 rfl (lv_at hl 1 rfl) ?_
      refine lv_iload_n hx hb dX9_cutAll_134 rfl (lv_at hl 2 rfl) ?_
      refine lv_iload hx hb dX9_cutAll_135 (lv_at hl 3 rfl) ?_
      refine lv_isub hx hb dX9_cutAll_137 ?_
      refine lv_bipush (v := 8) hx hb dX9_cutAll_138 (by decide) ?_
      have hJ148 : ∀ (S148 : st_T) (u0_148 : Int32), j_X9_cutAll_148 a0 rec17 y1_17 y2_70 y5_70 q130 S148 u0_148 = some (rr, SE) → ∀ (H : Heap) (locs : List Loc) (ls : Array Slot), st_HP X (st_A S) S148 H → va_S (st_A S) s.heap H locs → lv_has ls 7 [(0, .ref a0), (1, .int y1_17), (2, .int y2_70), (5, .long y5_70)] → W p l e { frames := 2, cells := 0, slots := 0, locals := 40 } s m args below meth c H locs 0 0 (MQ below (st_Q X (st_A S) none SE) args s 0 0 (st_A S)) (F0 m 148 ls [.int u0_148, .int y1_17, .ref q130]) := by
        intro S148 u0_148 Hf H locs ls hP hS hl
        unfold j_X9_cutAll_148 at Hf
        obtain ⟨hk_q130, Hf⟩ := c_g_some Hf
        obtain ⟨hi148, Hf⟩ := c_g_some Hf
        refine r_iast hx hb hK hP hS hk_q130 hi148 dX9_cutAll_148 (fun H locs hP hS => ?_)
        obtain ⟨S_148, eS_148, Hf⟩ := c_l_ex Hf
        have hP : st_HP X (st_A S) S_148 H := by rw [eS_148]; exact hP
        refine lv_goto hx hb dX9_cutAll_149 (tgt := 265) (by decide) ?_
        exact hJ265 S_148 y2_70 y5_70 Hf _ _ _ hP hS (lv_sub hl [0, 1, 2, 3] rfl)
      refine lv_icmp_le hx hb dX9_cutAll_140 (tgt := 147) (by decide) (fun hc => ?_) (fun hc => ?_)
      · have Hf := c_i_t Hf hc
        refine lv_iconst (v := 1) hx hb dX9_cutAll_147 (by decide) ?_
        exact hJ148 S129 1 Hf _ _ _ hP hS (lv_sub hl [0, 1, 2, 4] rfl)
      have Hf := c_i_f Hf hc
      refine lv_iconst (v := 4) hx hb dX9_cutAll_143 (by decide) ?_
      refine lv_goto hx hb dX9_cutAll_144 (tgt := 148) (by decide) ?_
      exact hJ148 S129 4 Hf _ _ _ hP hS (lv_sub hl [0, 1, 2, 4] rfl)
    refine lv_icmp_ge hx hb dX9_cutAll_75 (tgt := 129) (by decide) (fun hc => ?_) (fun hc => ?_)
    · have Hf := c_i_t Hf hc
      exact hJ129 S70 Hf _ _ _ hP hS (lv_sub hl [0, 1, 2, 3, 4] rfl)
    have Hf := c_i_f Hf hc
    refine lv_aload_n hx hb dX9_cutAll_78 rfl (lv_at hl 0 rfl) ?_
    obtain ⟨q79, hq79, Hf⟩ := c_n_some Hf
    refine fg_10_1 hx hb hts hown hK hP hk_a0 lkf_X9_7 hq79 dX9_cutAll_79 ?_
    refine lv_iload_n hx hb dX9_cutAll_82 rfl (lv_at hl 2 rfl) ?_
    obtain ⟨hk_q79, Hf⟩ := c_g_some Hf
    obtain ⟨hi83, Hf⟩ := c_g_some Hf
    refine r_iald hx hb hK hP hk_q79 hi83 dX9_cutAll_83 ?_
    obtain ⟨r84, T84, hq84, Hf⟩ := c_c_some Hf
    refine r_cS (n := 1) (As := [.int (st_ri S70 q79 (y2_70 : Int32).toNatClampNeg)]) (rest := []) ⟨hx, hb, hml, hown, hts⟩ (s_X9_isLetter l X hq84) lkm_X9_141 (by decide +kernel) dX9_cutAll_84 rfl rfl ⟨Nat.le_of_ble_eq_true rfl, Nat.le_of_ble_eq_true rfl⟩ rfl hl.1 (Nat.le_of_ble_eq_true rfl) ⟨Nat.le_of_ble_eq_true rfl, Nat.le_of_ble_eq_true rfl⟩ hK hRO hA hP hS (fun H locs hP hS => ?_)
    refine W.eq (g2 := F0 m 87 ls [.int r84]) rfl ?_
    refine lv_if_eq hx hb dX9_cutAll_87 (tgt := 129) (by decide) (fun hc => ?_) (fun hc => ?_)
    · have Hf := c_i_t Hf hc
      exact hJ129 T84 Hf _ _ _ hP hS (lv_sub hl [0, 1, 2, 3, 4] rfl)
    have Hf := c_i_f Hf hc
    refine lv_iload_n hx hb dX9_cutAll_90 rfl (lv_at hl 2 rfl) ?_
    refine lv_iload hx hb dX9_cutAll_91 (lv_at hl 3 rfl) ?_
    refine lv_isub hx hb dX9_cutAll_93 ?_
    refine lv_bipush (v := 8) hx hb dX9_cutAll_94 (by decide) ?_
    have hJ121 : ∀ (S121 : st_T) (u0_121 : Int64), j_X9_cutAll_121 rec70 y2_70 S121 u0_121 = some (rr, SE) → ∀ (H : Heap) (locs : List Loc) (ls : Array Slot), st_HP X (st_A S) S121 H → va_S (st_A S) s.heap H locs → lv_has ls 7 [(0, .ref a0), (1, .int y1_17), (2, .int y2_70), (4, .int y2_17)] → W p l e { frames := 2, cells := 0, slots := 0, locals := 40 } s m args below meth c H locs 0 0 (MQ below (st_Q X (st_A S) none SE) args s 0 0 (st_A S)) (F0 m 121 ls [.long u0_121]) := by
      intro S121 u0_121 Hf H locs ls hP hS hl
      unfold j_X9_cutAll_121 at Hf
      refine lv_lstore (lv' := [(5, .long u0_121), (0, .ref a0), (1, .int y1_17), (2, .int y2_70), (4, .int y2_17)]) hx hb dX9_cutAll_121 hl (by decide) rfl (fun ls hl => ?_)
      refine lv_iinc (v := (y2_70 + 1)) (lv' := [(2, .int (y2_70 + 1)), (5, .long u0_121), (0, .ref a0), (1, .int y1_17), (4, .int y2_17)]) hx hb dX9_cutAll_123 hl (k := 3) rfl rfl (by decide) rfl (fun ls hl => ?_)
      refine lv_goto hx hb dX9_cutAll_126 (tgt := 70) (by decide) ?_
      exact hrec70 (S121, (y2_70 + 1), u0_121) Hf _ _ _ hP hS (lv_sub hl [2, 3, 0, 4, 1] rfl)
    refine lv_icmp_ge hx hb dX9_cutAll_96 (tgt := 119) (by decide) (fun hc => ?_) (fun hc => ?_)
    · have Hf := c_i_t Hf hc
      refine lv_lload hx hb dX9_cutAll_119 (lv_at hl 4 rfl) ?_
      exact hJ121 T84 y5_70 Hf _ _ _ hP hS (lv_sub hl [0, 1, 2, 3] rfl)
    have Hf := c_i_f Hf hc
    refine lv_ldc2 hx hb hown (hts _ lkc_X9_148) dX9_cutAll_99 ?_
    refine lv_lload hx hb dX9_cutAll_102 (lv_at hl 4 rfl) ?_
    refine lv_lmul hx hb dX9_cutAll_104 ?_
    refine lv_aload_n hx hb dX9_cutAll_105 rfl (lv_at hl 0 rfl) ?_
    obtain ⟨hk_a0, Hf⟩ := c_g_some Hf
    obtain ⟨q106, hq106, Hf⟩ := c_n_some Hf
    refine fg_10_1 hx hb hts hown hK hP hk_a0 lkf_X9_7 hq106 dX9_cutAll_106 ?_
    refine lv_iload_n hx hb dX9_cutAll_109 rfl (lv_at hl 2 rfl) ?_
    obtain ⟨hk_q106, Hf⟩ := c_g_some Hf
    obtain ⟨hi110, Hf⟩ := c_g_some Hf
    refine r_iald hx hb hK hP hk_q106 hi110 dX9_cutAll_110 ?_
    obtain ⟨r111, T111, hq111, Hf⟩ := c_c_some Hf
    refine r_cS (n := 1) (As := [.int (st_ri T84 q106 (y2_70 : Int32).toNatClampNeg)]) (rest := [.long (37 * y5_70)]) ⟨hx, hb, hml, hown, hts⟩ (s_X9_rank l X hq111) lkm_X9_150 (by decide +kernel) dX9_cutAll_111 rfl rfl ⟨Nat.le_of_ble_eq_true rfl, Nat.le_of_ble_eq_true rfl⟩ rfl hl.1 (Nat.le_of_ble_eq_true rfl) ⟨Nat.le_of_ble_eq_true rfl, Nat.le_of_ble_eq_true rfl⟩ hK hRO hA hP hS (fun H locs hP hS => ?_)
    refine W.eq (g2 := F0 m 114 ls [.int r111, .long (37 * y5_70)]) rfl ?_
    refine lv_i2l (v := (r111 : Int32).toInt64) hx hb dX9_cutAll_114 rfl ?_
    refine lv_ladd hx hb dX9_cutAll_115 ?_
    refine lv_goto hx hb dX9_cutAll_116 (tgt := 121) (by decide) ?_
    exact hJ121 T111 ((37 * y5_70) + ((r111 : Int32).toInt64)) Hf _ _ _ hP hS (lv_sub hl [0, 1, 2, 3] rfl)
  have Hf := c_i_t Hf hc
  exact hJ44 S17 Hf _ _ _ hP hS (lv_sub hl [1, 2, 3] rfl)

def f_X9_wrong (S : st_T) (a0 : Nat) (x1 : Int32) : Option (Unit × st_T) :=
  (c_g (st_K S a0 = 11) (c_i ((st_fi S 1008 a0) = 0) (c_n (st_fr S 1005 a0) (fun (q12 : Nat) => (c_g (st_K S q12 = 20) (c_g (c_in (st_fi S 1007 a0) (st_ln S q12)) (c_l (st_pi S 1008 a0 (x1 + (16 * (st_ri S q12 ((st_fi S 1007 a0) : Int32).toNatClampNeg)))) (fun (S_22 : st_T) => (some ((), S_22)))))))) (some ((), S))))
set_option maxRecDepth 100000 in
set_option maxHeartbeats 4000000 in
theorem s_X9_wrong (l : Launch) (X : st_I) {S SE : st_T} {a0 : Nat} {x1 : Int32} {rr : Unit} (Hf : f_X9_wrong S a0 x1 = some (rr, SE)) : Met l yX9_wrong (Cond.code yX9_wrong cX9_wrong 2 (none) :: lw_g) { frames := 0, cells := 0, slots := 0, locals := 0 } (st_P X S [.ref a0, .int x1]) (st_Q X (st_A S) none SE) 0 0 (st_A S) := by
  refine st_ofW (by decide) (Nat.le_of_ble_eq_true rfl) ?_
  intro p e s m args below meth c hx hb hr hml hlocks hnm hts hown hK hRO hA hP hS ls hl
  have hown : s.vm.findClass RX9 = some m.cls := hown
  have hl : lv_has ls 2 [(0, .ref a0), (1, .int x1)] := hl
  unfold f_X9_wrong at Hf
  refine lv_aload_n hx hb dX9_wrong_0 rfl (lv_at hl 0 rfl) ?_
  obtain ⟨hk_a0, Hf⟩ := c_g_some Hf
  refine fg_10_8 hx hb hts hown hK hP hk_a0 lkf_X9_167 dX9_wrong_1 ?_
  refine lv_if_ne hx hb dX9_wrong_4 (tgt := 25) (by decide) (fun hc => ?_) (fun hc => ?_)
  · have Hf := c_i_f Hf hc
    cases Hf
    exact r_vret hx hb hr rfl hlocks dX9_wrong_25 (Nat.le_of_ble_eq_true rfl) (Nat.le_of_ble_eq_true rfl) hP hS
  have Hf := c_i_t Hf hc
  refine lv_aload_n hx hb dX9_wrong_7 rfl (lv_at hl 0 rfl) ?_
  refine lv_iload_n hx hb dX9_wrong_8 rfl (lv_at hl 1 rfl) ?_
  refine lv_bipush (v := 16) hx hb dX9_wrong_9 (by decide) ?_
  refine lv_aload_n hx hb dX9_wrong_11 rfl (lv_at hl 0 rfl) ?_
  obtain ⟨q12, hq12, Hf⟩ := c_n_some Hf
  refine fg_10_5 hx hb hts hown hK hP hk_a0 lkf_X9_16 hq12 dX9_wrong_12 ?_
  refine lv_aload_n hx hb dX9_wrong_15 rfl (lv_at hl 0 rfl) ?_
  refine fg_10_7 hx hb hts hown hK hP hk_a0 lkf_X9_164 dX9_wrong_16 ?_
  obtain ⟨hk_q12, Hf⟩ := c_g_some Hf
  obtain ⟨hi19, Hf⟩ := c_g_some Hf
  refine r_iald hx hb hK hP hk_q12 hi19 dX9_wrong_19 ?_
  refine lv_imul hx hb dX9_wrong_20 ?_
  refine lv_iadd hx hb dX9_wrong_21 ?_
  refine fp_10_8 hx hb hts hown hK hP hS hk_a0 lkf_X9_167 dX9_wrong_22 (fun H locs hP hS => ?_)
  obtain ⟨S_22, eS_22, Hf⟩ := c_l_ex Hf
  have hP : st_HP X (st_A S) S_22 H := by rw [eS_22]; exact hP
  cases Hf
  exact r_vret hx hb hr rfl hlocks dX9_wrong_25 (Nat.le_of_ble_eq_true rfl) (Nat.le_of_ble_eq_true rfl) hP hS

def f_X9_isSign (S : st_T) (a0 : Nat) (x1 : Int32) : Option (Int32 × st_T) :=
  (c_g (st_K S a0 = 11) (c_i ((st_fi S 1008 a0) = 0) (c_n (st_fr S 1004 a0) (fun (q8 : Nat) => (c_g (st_K S q8 = 20) (c_g (c_in (st_fi S 1007 a0) (st_ln S q8)) (c_i ((st_ri S q8 ((st_fi S 1007 a0) : Int32).toNatClampNeg) = 3) (c_n (st_fr S 1006 a0) (fun (q21 : Nat) => (c_g (st_K S q21 = 21) (c_g (c_in (st_fi S 1007 a0) (st_ln S q21)) (c_i ((lg_cmp (st_rl S q21 ((st_fi S 1007 a0) : Int32).toNatClampNeg) ((x1 : Int32).toInt64)) = 0) (some (1, S)) (some (0, S))))))) (some (0, S))))))) (some (0, S))))
set_option maxRecDepth 100000 in
set_option maxHeartbeats 4000000 in
theorem s_X9_isSign (l : Launch) (X : st_I) {S SE : st_T} {a0 : Nat} {x1 : Int32} {rr : Int32} (Hf : f_X9_isSign S a0 x1 = some (rr, SE)) : Met l yX9_isSign (Cond.code yX9_isSign cX9_isSign 2 (some .boolean) :: lw_g) { frames := 0, cells := 0, slots := 0, locals := 0 } (st_P X S [.ref a0, .int x1]) (st_Q X (st_A S) (some (.int rr)) SE) 0 0 (st_A S) := by
  refine st_ofW (by decide) (Nat.le_of_ble_eq_true rfl) ?_
  intro p e s m args below meth c hx hb hr hml hlocks hnm hts hown hK hRO hA hP hS ls hl
  have hown : s.vm.findClass RX9 = some m.cls := hown
  have hl : lv_has ls 2 [(0, .ref a0), (1, .int x1)] := hl
  unfold f_X9_isSign at Hf
  refine lv_aload_n hx hb dX9_isSign_0 rfl (lv_at hl 0 rfl) ?_
  obtain ⟨hk_a0, Hf⟩ := c_g_some Hf
  refine fg_10_8 hx hb hts hown hK hP hk_a0 lkf_X9_167 dX9_isSign_1 ?_
  refine lv_if_ne hx hb dX9_isSign_4 (tgt := 39) (by decide) (fun hc => ?_) (fun hc => ?_)
  · have Hf := c_i_f Hf hc
    refine lv_iconst (v := 0) hx hb dX9_isSign_39 (by decide) ?_
    cases Hf
    exact r_zret hx hb hr rfl (Or.inl rfl) hlocks dX9_isSign_40 (Nat.le_of_ble_eq_true rfl) (Nat.le_of_ble_eq_true rfl) hP hS
  have Hf := c_i_t Hf hc
  refine lv_aload_n hx hb dX9_isSign_7 rfl (lv_at hl 0 rfl) ?_
  obtain ⟨q8, hq8, Hf⟩ := c_n_some Hf
  refine fg_10_4 hx hb hts hown hK hP hk_a0 lkf_X9_13 hq8 dX9_isSign_8 ?_
  refine lv_aload_n hx hb dX9_isSign_11 rfl (lv_at hl 0 rfl) ?_
  refine fg_10_7 hx hb hts hown hK hP hk_a0 lkf_X9_164 dX9_isSign_12 ?_
  obtain ⟨hk_q8, Hf⟩ := c_g_some Hf
  obtain ⟨hi15, Hf⟩ := c_g_some Hf
  refine r_iald hx hb hK hP hk_q8 hi15 dX9_isSign_15 ?_
  refine lv_iconst (v := 3) hx hb dX9_isSign_16 (by decide) ?_
  refine lv_icmp_ne hx hb dX9_isSign_17 (tgt := 39) (by decide) (fun hc => ?_) (fun hc => ?_)
  · have Hf := c_i_f Hf hc
    refine lv_iconst (v := 0) hx hb dX9_isSign_39 (by decide) ?_
    cases Hf
    exact r_zret hx hb hr rfl (Or.inl rfl) hlocks dX9_isSign_40 (Nat.le_of_ble_eq_true rfl) (Nat.le_of_ble_eq_true rfl) hP hS
  have Hf := c_i_t Hf hc
  refine lv_aload_n hx hb dX9_isSign_20 rfl (lv_at hl 0 rfl) ?_
  obtain ⟨q21, hq21, Hf⟩ := c_n_some Hf
  refine fg_10_6 hx hb hts hown hK hP hk_a0 lkf_X9_19 hq21 dX9_isSign_21 ?_
  refine lv_aload_n hx hb dX9_isSign_24 rfl (lv_at hl 0 rfl) ?_
  refine fg_10_7 hx hb hts hown hK hP hk_a0 lkf_X9_164 dX9_isSign_25 ?_
  obtain ⟨hk_q21, Hf⟩ := c_g_some Hf
  obtain ⟨hi28, Hf⟩ := c_g_some Hf
  refine r_lald hx hb hK hP hk_q21 hi28 dX9_isSign_28 ?_
  refine lv_iload_n hx hb dX9_isSign_29 rfl (lv_at hl 1 rfl) ?_
  refine lv_i2l (v := (x1 : Int32).toInt64) hx hb dX9_isSign_30 rfl ?_
  refine W.lcmp hx hb dX9_isSign_31 ?_
  refine lv_if_ne hx hb dX9_isSign_32 (tgt := 39) (by decide) (fun hc => ?_) (fun hc => ?_)
  · have Hf := c_i_f Hf hc
    refine lv_iconst (v := 0) hx hb dX9_isSign_39 (by decide) ?_
    cases Hf
    exact r_zret hx hb hr rfl (Or.inl rfl) hlocks dX9_isSign_40 (Nat.le_of_ble_eq_true rfl) (Nat.le_of_ble_eq_true rfl) hP hS
  have Hf := c_i_t Hf hc
  refine lv_iconst (v := 1) hx hb dX9_isSign_35 (by decide) ?_
  refine lv_goto hx hb dX9_isSign_36 (tgt := 40) (by decide) ?_
  cases Hf
  exact r_zret hx hb hr rfl (Or.inr rfl) hlocks dX9_isSign_40 (Nat.le_of_ble_eq_true rfl) (Nat.le_of_ble_eq_true rfl) hP hS

def f_X9_isWord (S : st_T) (a0 : Nat) (x1 : Int32) : Option (Int32 × st_T) :=
  (c_g (st_K S a0 = 11) (c_i ((st_fi S 1008 a0) = 0) (c_n (st_fr S 1004 a0) (fun (q8 : Nat) => (c_g (st_K S q8 = 20) (c_g (c_in (st_fi S 1007 a0) (st_ln S q8)) (c_i ((st_ri S q8 ((st_fi S 1007 a0) : Int32).toNatClampNeg) = 1) (c_n (st_fr S 1006 a0) (fun (q21 : Nat) => (c_g (st_K S q21 = 21) (c_g (c_in (st_fi S 1007 a0) (st_ln S q21)) (c_n (st_fr S 1009 a0) (fun (q30 : Nat) => (c_g (st_K S q30 = 21) (c_g (c_in x1 (st_ln S q30)) (c_i ((lg_cmp (st_rl S q21 ((st_fi S 1007 a0) : Int32).toNatClampNeg) (st_rl S q30 (x1 : Int32).toNatClampNeg)) = 0) (some (1, S)) (some (0, S))))))))))) (some (0, S))))))) (some (0, S))))
set_option maxRecDepth 100000 in
set_option maxHeartbeats 4000000 in
theorem s_X9_isWord (l : Launch) (X : st_I) {S SE : st_T} {a0 : Nat} {x1 : Int32} {rr : Int32} (Hf : f_X9_isWord S a0 x1 = some (rr, SE)) : Met l yX9_isWord (Cond.code yX9_isWord cX9_isWord 2 (some .boolean) :: lw_g) { frames := 0, cells := 0, slots := 0, locals := 0 } (st_P X S [.ref a0, .int x1]) (st_Q X (st_A S) (some (.int rr)) SE) 0 0 (st_A S) := by
  refine st_ofW (by decide) (Nat.le_of_ble_eq_true rfl) ?_
  intro p e s m args below meth c hx hb hr hml hlocks hnm hts hown hK hRO hA hP hS ls hl
  have hown : s.vm.findClass RX9 = some m.cls := hown
  have hl : lv_has ls 2 [(0, .ref a0), (1, .int x1)] := hl
  unfold f_X9_isWord at Hf
  refine lv_aload_n hx hb dX9_isWord_0 rfl (lv_at hl 0 rfl) ?_
  obtain ⟨hk_a0, Hf⟩ := c_g_some Hf
  refine fg_10_8 hx hb hts hown hK hP hk_a0 lkf_X9_167 dX9_isWord_1 ?_
  refine lv_if_ne hx hb dX9_isWord_4 (tgt := 43) (by decide) (fun hc => ?_) (fun hc => ?_)
  · have Hf := c_i_f Hf hc
    refine lv_iconst (v := 0) hx hb dX9_isWord_43 (by decide) ?_
    cases Hf
    exact r_zret hx hb hr rfl (Or.inl rfl) hlocks dX9_isWord_44 (Nat.le_of_ble_eq_true rfl) (Nat.le_of_ble_eq_true rfl) hP hS
  have Hf := c_i_t Hf hc
  refine lv_aload_n hx hb dX9_isWord_7 rfl (lv_at hl 0 rfl) ?_
  obtain ⟨q8, hq8, Hf⟩ := c_n_some Hf
  refine fg_10_4 hx hb hts hown hK hP hk_a0 lkf_X9_13 hq8 dX9_isWord_8 ?_
  refine lv_aload_n hx hb dX9_isWord_11 rfl (lv_at hl 0 rfl) ?_
  refine fg_10_7 hx hb hts hown hK hP hk_a0 lkf_X9_164 dX9_isWord_12 ?_
  obtain ⟨hk_q8, Hf⟩ := c_g_some Hf
  obtain ⟨hi15, Hf⟩ := c_g_some Hf
  refine r_iald hx hb hK hP hk_q8 hi15 dX9_isWord_15 ?_
  refine lv_iconst (v := 1) hx hb dX9_isWord_16 (by decide) ?_
  refine lv_icmp_ne hx hb dX9_isWord_17 (tgt := 43) (by decide) (fun hc => ?_) (fun hc => ?_)
  · have Hf := c_i_f Hf hc
    refine lv_iconst (v := 0) hx hb dX9_isWord_43 (by decide) ?_
    cases Hf
    exact r_zret hx hb hr rfl (Or.inl rfl) hlocks dX9_isWord_44 (Nat.le_of_ble_eq_true rfl) (Nat.le_of_ble_eq_true rfl) hP hS
  have Hf := c_i_t Hf hc
  refine lv_aload_n hx hb dX9_isWord_20 rfl (lv_at hl 0 rfl) ?_
  obtain ⟨q21, hq21, Hf⟩ := c_n_some Hf
  refine fg_10_6 hx hb hts hown hK hP hk_a0 lkf_X9_19 hq21 dX9_isWord_21 ?_
  refine lv_aload_n hx hb dX9_isWord_24 rfl (lv_at hl 0 rfl) ?_
  refine fg_10_7 hx hb hts hown hK hP hk_a0 lkf_X9_164 dX9_isWord_25 ?_
  obtain ⟨hk_q21, Hf⟩ := c_g_some Hf
  obtain ⟨hi28, Hf⟩ := c_g_some Hf
  refine r_lald hx hb hK hP hk_q21 hi28 dX9_isWord_28 ?_
  refine lv_aload_n hx hb dX9_isWord_29 rfl (lv_at hl 0 rfl) ?_
  obtain ⟨q30, hq30, Hf⟩ := c_n_some Hf
  refine fg_10_9 hx hb hts hown hK hP hk_a0 lkf_X9_51 hq30 dX9_isWord_30 ?_
  refine lv_iload_n hx hb dX9_isWord_33 rfl (lv_at hl 1 rfl) ?_
  obtain ⟨hk_q30, Hf⟩ := c_g_some Hf
  obtain ⟨hi34, Hf⟩ := c_g_some Hf
  refine r_lald hx hb hK hP hk_q30 hi34 dX9_isWord_34 ?_
  refine W.lcmp hx hb dX9_isWord_35 ?_
  refine lv_if_ne hx hb dX9_isWord_36 (tgt := 43) (by decide) (fun hc => ?_) (fun hc => ?_)
  · have Hf := c_i_f Hf hc
    refine lv_iconst (v := 0) hx hb dX9_isWord_43 (by decide) ?_
    cases Hf
    exact r_zret hx hb hr rfl (Or.inl rfl) hlocks dX9_isWord_44 (Nat.le_of_ble_eq_true rfl) (Nat.le_of_ble_eq_true rfl) hP hS
  have Hf := c_i_t Hf hc
  refine lv_iconst (v := 1) hx hb dX9_isWord_39 (by decide) ?_
  refine lv_goto hx hb dX9_isWord_40 (tgt := 44) (by decide) ?_
  cases Hf
  exact r_zret hx hb hr rfl (Or.inr rfl) hlocks dX9_isWord_44 (Nat.le_of_ble_eq_true rfl) (Nat.le_of_ble_eq_true rfl) hP hS

def f_X9_takeSign (S : st_T) (a0 : Nat) (x1 : Int32) : Option (Unit × st_T) :=
  (c_g (st_K S a0 = 11) (c_c (f_X9_isSign S a0 x1) (fun (r2 : Int32) (T2 : st_T) => (c_i (r2 = 0) (c_g (st_K T2 a0 = 11) (c_c (f_X9_wrong T2 a0 1) (fun (r23 : Unit) (T23 : st_T) => (some ((), T23))))) (c_g (st_K T2 a0 = 11) (c_l (st_pi T2 1007 a0 ((st_fi T2 1007 a0) + 1)) (fun (S_15 : st_T) => (some ((), S_15)))))))))
set_option maxRecDepth 100000 in
set_option maxHeartbeats 4000000 in
theorem s_X9_takeSign (l : Launch) (X : st_I) {S SE : st_T} {a0 : Nat} {x1 : Int32} {rr : Unit} (Hf : f_X9_takeSign S a0 x1 = some (rr, SE)) : Met l yX9_takeSign (Cond.code yX9_takeSign cX9_takeSign 2 (none) :: lw_g) { frames := 1, cells := 0, slots := 0, locals := 21 } (st_P X S [.ref a0, .int x1]) (st_Q X (st_A S) none SE) 0 0 (st_A S) := by
  refine st_ofW (by decide) (Nat.le_of_ble_eq_true rfl) ?_
  intro p e s m args below meth c hx hb hr hml hlocks hnm hts hown hK hRO hA hP hS ls hl
  have hown : s.vm.findClass RX9 = some m.cls := hown
  have hl : lv_has ls 2 [(0, .ref a0), (1, .int x1)] := hl
  unfold f_X9_takeSign at Hf
  refine lv_aload_n hx hb dX9_takeSign_0 rfl (lv_at hl 0 rfl) ?_
  refine lv_iload_n hx hb dX9_takeSign_1 rfl (lv_at hl 1 rfl) ?_
  obtain ⟨hk_a0, Hf⟩ := c_g_some Hf
  obtain ⟨r2, T2, hq2, Hf⟩ := c_c_some Hf
  refine r_cV (n := 1) (As := [.int x1]) (rest := []) ⟨hx, hb, hml, hown, hts⟩ (s_X9_isSign l X hq2) lkm_X9_170 (by decide +kernel) rfl (by decide) dX9_takeSign_2 rfl rfl ⟨Nat.le_of_ble_eq_true rfl, Nat.le_of_ble_eq_true rfl⟩ hk_a0 rfl hl.1 (Nat.le_of_ble_eq_true rfl) ⟨Nat.le_of_ble_eq_true rfl, Nat.le_of_ble_eq_true rfl⟩ hK hRO hA hP hS (fun H locs hP hS => ?_)
  refine W.eq (g2 := F0 m 5 ls [.int r2]) rfl ?_
  refine lv_if_eq hx hb dX9_takeSign_5 (tgt := 21) (by decide) (fun hc => ?_) (fun hc => ?_)
  · have Hf := c_i_t Hf hc
    refine lv_aload_n hx hb dX9_takeSign_21 rfl (lv_at hl 0 rfl) ?_
    refine lv_iconst (v := 1) hx hb dX9_takeSign_22 (by decide) ?_
    obtain ⟨hk_a0, Hf⟩ := c_g_some Hf
    obtain ⟨r23, T23, hq23, Hf⟩ := c_c_some Hf
    refine r_cV (n := 1) (As := [.int 1]) (rest := []) ⟨hx, hb, hml, hown, hts⟩ (s_X9_wrong l X hq23) lkm_X9_173 (by decide +kernel) rfl (by decide) dX9_takeSign_23 rfl rfl ⟨Nat.le_of_ble_eq_true rfl, Nat.le_of_ble_eq_true rfl⟩ hk_a0 rfl hl.1 (Nat.le_of_ble_eq_true rfl) ⟨Nat.le_of_ble_eq_true rfl, Nat.le_of_ble_eq_true rfl⟩ hK hRO hA hP hS (fun H locs hP hS => ?_)
    refine W.eq (g2 := F0 m 26 ls []) rfl ?_
    cases Hf
    exact r_vret hx hb hr rfl hlocks dX9_takeSign_26 (Nat.le_of_ble_eq_true rfl) (Nat.le_of_ble_eq_true rfl) hP hS
  have Hf := c_i_f Hf hc
  refine lv_aload_n hx hb dX9_takeSign_8 rfl (lv_at hl 0 rfl) ?_
  refine lv_dup hx hb dX9_takeSign_9 rfl ?_
  obtain ⟨hk_a0, Hf⟩ := c_g_some Hf
  refine fg_10_7 hx hb hts hown hK hP hk_a0 lkf_X9_164 dX9_takeSign_10 ?_
  refine lv_iconst (v := 1) hx hb dX9_takeSign_13 (by decide) ?_
  refine lv_iadd hx hb dX9_takeSign_14 ?_
  refine fp_10_7 hx hb hts hown hK hP hS hk_a0 lkf_X9_164 dX9_takeSign_15 (fun H locs hP hS => ?_)
  obtain ⟨S_15, eS_15, Hf⟩ := c_l_ex Hf
  have hP : st_HP X (st_A S) S_15 H := by rw [eS_15]; exact hP
  refine lv_goto hx hb dX9_takeSign_18 (tgt := 26) (by decide) ?_
  cases Hf
  exact r_vret hx hb hr rfl hlocks dX9_takeSign_26 (Nat.le_of_ble_eq_true rfl) (Nat.le_of_ble_eq_true rfl) hP hS

def j_X9_hasSign_20 (a0 : Nat) (r2 : Int32) (T2 : st_T) (S20 : st_T) (u0_20 : Int32) : Option (Int32 × st_T) :=
  (c_g (st_K S20 a0 = 11) (c_l (st_pi S20 1007 a0 ((st_fi T2 1007 a0) + u0_20)) (fun (S_21 : st_T) => (c_g (r2 = 0 ∨ r2 = 1) (some (r2, S_21))))))
def f_X9_hasSign (S : st_T) (a0 : Nat) (x1 : Int32) : Option (Int32 × st_T) :=
  (c_g (st_K S a0 = 11) (c_c (f_X9_isSign S a0 x1) (fun (r2 : Int32) (T2 : st_T) => (c_g (st_K T2 a0 = 11) (c_i (r2 = 0) (j_X9_hasSign_20 a0 r2 T2 T2 0) (j_X9_hasSign_20 a0 r2 T2 T2 1))))))
set_option maxRecDepth 100000 in
set_option maxHeartbeats 4000000 in
theorem s_X9_hasSign (l : Launch) (X : st_I) {S SE : st_T} {a0 : Nat} {x1 : Int32} {rr : Int32} (Hf : f_X9_hasSign S a0 x1 = some (rr, SE)) : Met l yX9_hasSign (Cond.code yX9_hasSign cX9_hasSign 3 (some .boolean) :: lw_g) { frames := 1, cells := 0, slots := 0, locals := 21 } (st_P X S [.ref a0, .int x1]) (st_Q X (st_A S) (some (.int rr)) SE) 0 0 (st_A S) := by
  refine st_ofW (by decide) (Nat.le_of_ble_eq_true rfl) ?_
  intro p e s m args below meth c hx hb hr hml hlocks hnm hts hown hK hRO hA hP hS ls hl
  have hown : s.vm.findClass RX9 = some m.cls := hown
  have hl : lv_has ls 3 [(0, .ref a0), (1, .int x1)] := hl
  unfold f_X9_hasSign at Hf
  refine lv_aload_n hx hb dX9_hasSign_0 rfl (lv_at hl 0 rfl) ?_
  refine lv_iload_n hx hb dX9_hasSign_1 rfl (lv_at hl 1 rfl) ?_
  obtain ⟨hk_a0, Hf⟩ := c_g_some Hf
  obtain ⟨r2, T2, hq2, Hf⟩ := c_c_some Hf
  refine r_cV (n := 1) (As := [.int x1]) (rest := []) ⟨hx, hb, hml, hown, hts⟩ (s_X9_isSign l X hq2) lkm_X9_170 (by decide +kernel) rfl (by decide) dX9_hasSign_2 rfl rfl ⟨Nat.le_of_ble_eq_true rfl, Nat.le_of_ble_eq_true rfl⟩ hk_a0 rfl hl.1 (Nat.le_of_ble_eq_true rfl) ⟨Nat.le_of_ble_eq_true rfl, Nat.le_of_ble_eq_true rfl⟩ hK hRO hA hP hS (fun H locs hP hS => ?_)
  refine W.eq (g2 := F0 m 5 ls [.int r2]) rfl ?_
  refine lv_istore_n (lv' := [(2, .int r2), (0, .ref a0), (1, .int x1)]) hx hb dX9_hasSign_5 rfl hl (by decide) rfl (fun ls hl => ?_)
  refine lv_aload_n hx hb dX9_hasSign_6 rfl (lv_at hl 1 rfl) ?_
  refine lv_dup hx hb dX9_hasSign_7 rfl ?_
  obtain ⟨hk_a0, Hf⟩ := c_g_some Hf
  refine fg_10_7 hx hb hts hown hK hP hk_a0 lkf_X9_164 dX9_hasSign_8 ?_
  refine lv_iload_n hx hb dX9_hasSign_11 rfl (lv_at hl 0 rfl) ?_
  have hJ20 : ∀ (S20 : st_T) (u0_20 : Int32), j_X9_hasSign_20 a0 r2 T2 S20 u0_20 = some (rr, SE) → ∀ (H : Heap) (locs : List Loc) (ls : Array Slot), st_HP X (st_A S) S20 H → va_S (st_A S) s.heap H locs → lv_has ls 3 [(2, .int r2)] → W p l e { frames := 1, cells := 0, slots := 0, locals := 21 } s m args below meth c H locs 0 0 (MQ below (st_Q X (st_A S) (some (.int rr)) SE) args s 0 0 (st_A S)) (F0 m 20 ls [.int u0_20, .int (st_fi T2 1007 a0), .ref a0]) := by
    intro S20 u0_20 Hf H locs ls hP hS hl
    unfold j_X9_hasSign_20 at Hf
    refine lv_iadd hx hb dX9_hasSign_20 ?_
    obtain ⟨hk_a0, Hf⟩ := c_g_some Hf
    refine fp_10_7 hx hb hts hown hK hP hS hk_a0 lkf_X9_164 dX9_hasSign_21 (fun H locs hP hS => ?_)
    obtain ⟨S_21, eS_21, Hf⟩ := c_l_ex Hf
    have hP : st_HP X (st_A S) S_21 H := by rw [eS_21]; exact hP
    refine lv_iload_n hx hb dX9_hasSign_24 rfl (lv_at hl 0 rfl) ?_
    obtain ⟨hz, Hf⟩ := c_g_some Hf
    cases Hf
    exact r_zret hx hb hr rfl hz hlocks dX9_hasSign_25 (Nat.le_of_ble_eq_true rfl) (Nat.le_of_ble_eq_true rfl) hP hS
  refine lv_if_eq hx hb dX9_hasSign_12 (tgt := 19) (by decide) (fun hc => ?_) (fun hc => ?_)
  · have Hf := c_i_t Hf hc
    refine lv_iconst (v := 0) hx hb dX9_hasSign_19 (by decide) ?_
    exact hJ20 T2 0 Hf _ _ _ hP hS (lv_sub hl [0] rfl)
  have Hf := c_i_f Hf hc
  refine lv_iconst (v := 1) hx hb dX9_hasSign_15 (by decide) ?_
  refine lv_goto hx hb dX9_hasSign_16 (tgt := 20) (by decide) ?_
  exact hJ20 T2 1 Hf _ _ _ hP hS (lv_sub hl [0] rfl)

def j_X9_hasWord_20 (a0 : Nat) (r2 : Int32) (T2 : st_T) (S20 : st_T) (u0_20 : Int32) : Option (Int32 × st_T) :=
  (c_g (st_K S20 a0 = 11) (c_l (st_pi S20 1007 a0 ((st_fi T2 1007 a0) + u0_20)) (fun (S_21 : st_T) => (c_g (r2 = 0 ∨ r2 = 1) (some (r2, S_21))))))
def f_X9_hasWord (S : st_T) (a0 : Nat) (x1 : Int32) : Option (Int32 × st_T) :=
  (c_g (st_K S a0 = 11) (c_c (f_X9_isWord S a0 x1) (fun (r2 : Int32) (T2 : st_T) => (c_g (st_K T2 a0 = 11) (c_i (r2 = 0) (j_X9_hasWord_20 a0 r2 T2 T2 0) (j_X9_hasWord_20 a0 r2 T2 T2 1))))))
set_option maxRecDepth 100000 in
set_option maxHeartbeats 4000000 in
theorem s_X9_hasWord (l : Launch) (X : st_I) {S SE : st_T} {a0 : Nat} {x1 : Int32} {rr : Int32} (Hf : f_X9_hasWord S a0 x1 = some (rr, SE)) : Met l yX9_hasWord (Cond.code yX9_hasWord cX9_hasWord 3 (some .boolean) :: lw_g) { frames := 1, cells := 0, slots := 0, locals := 21 } (st_P X S [.ref a0, .int x1]) (st_Q X (st_A S) (some (.int rr)) SE) 0 0 (st_A S) := by
  refine st_ofW (by decide) (Nat.le_of_ble_eq_true rfl) ?_
  intro p e s m args below meth c hx hb hr hml hlocks hnm hts hown hK hRO hA hP hS ls hl
  have hown : s.vm.findClass RX9 = some m.cls := hown
  have hl : lv_has ls 3 [(0, .ref a0), (1, .int x1)] := hl
  unfold f_X9_hasWord at Hf
  refine lv_aload_n hx hb dX9_hasWord_0 rfl (lv_at hl 0 rfl) ?_
  refine lv_iload_n hx hb dX9_hasWord_1 rfl (lv_at hl 1 rfl) ?_
  obtain ⟨hk_a0, Hf⟩ := c_g_some Hf
  obtain ⟨r2, T2, hq2, Hf⟩ := c_c_some Hf
  refine r_cV (n := 1) (As := [.int x1]) (rest := []) ⟨hx, hb, hml, hown, hts⟩ (s_X9_isWord l X hq2) lkm_X9_177 (by decide +kernel) rfl (by decide) dX9_hasWord_2 rfl rfl ⟨Nat.le_of_ble_eq_true rfl, Nat.le_of_ble_eq_true rfl⟩ hk_a0 rfl hl.1 (Nat.le_of_ble_eq_true rfl) ⟨Nat.le_of_ble_eq_true rfl, Nat.le_of_ble_eq_true rfl⟩ hK hRO hA hP hS (fun H locs hP hS => ?_)
  refine W.eq (g2 := F0 m 5 ls [.int r2]) rfl ?_
  refine lv_istore_n (lv' := [(2, .int r2), (0, .ref a0), (1, .int x1)]) hx hb dX9_hasWord_5 rfl hl (by decide) rfl (fun ls hl => ?_)
  refine lv_aload_n hx hb dX9_hasWord_6 rfl (lv_at hl 1 rfl) ?_
  refine lv_dup hx hb dX9_hasWord_7 rfl ?_
  obtain ⟨hk_a0, Hf⟩ := c_g_some Hf
  refine fg_10_7 hx hb hts hown hK hP hk_a0 lkf_X9_164 dX9_hasWord_8 ?_
  refine lv_iload_n hx hb dX9_hasWord_11 rfl (lv_at hl 0 rfl) ?_
  have hJ20 : ∀ (S20 : st_T) (u0_20 : Int32), j_X9_hasWord_20 a0 r2 T2 S20 u0_20 = some (rr, SE) → ∀ (H : Heap) (locs : List Loc) (ls : Array Slot), st_HP X (st_A S) S20 H → va_S (st_A S) s.heap H locs → lv_has ls 3 [(2, .int r2)] → W p l e { frames := 1, cells := 0, slots := 0, locals := 21 } s m args below meth c H locs 0 0 (MQ below (st_Q X (st_A S) (some (.int rr)) SE) args s 0 0 (st_A S)) (F0 m 20 ls [.int u0_20, .int (st_fi T2 1007 a0), .ref a0]) := by
    intro S20 u0_20 Hf H locs ls hP hS hl
    unfold j_X9_hasWord_20 at Hf
    refine lv_iadd hx hb dX9_hasWord_20 ?_
    obtain ⟨hk_a0, Hf⟩ := c_g_some Hf
    refine fp_10_7 hx hb hts hown hK hP hS hk_a0 lkf_X9_164 dX9_hasWord_21 (fun H locs hP hS => ?_)
    obtain ⟨S_21, eS_21, Hf⟩ := c_l_ex Hf
    have hP : st_HP X (st_A S) S_21 H := by rw [eS_21]; exact hP
    refine lv_iload_n hx hb dX9_hasWord_24 rfl (lv_at hl 0 rfl) ?_
    obtain ⟨hz, Hf⟩ := c_g_some Hf
    cases Hf
    exact r_zret hx hb hr rfl hz hlocks dX9_hasWord_25 (Nat.le_of_ble_eq_true rfl) (Nat.le_of_ble_eq_true rfl) hP hS
  refine lv_if_eq hx hb dX9_hasWord_12 (tgt := 19) (by decide) (fun hc => ?_) (fun hc => ?_)
  · have Hf := c_i_t Hf hc
    refine lv_iconst (v := 0) hx hb dX9_hasWord_19 (by decide) ?_
    exact hJ20 T2 0 Hf _ _ _ hP hS (lv_sub hl [0] rfl)
  have Hf := c_i_f Hf hc
  refine lv_iconst (v := 1) hx hb dX9_hasWord_15 (by decide) ?_
  refine lv_goto hx hb dX9_hasWord_16 (tgt := 20) (by decide) ?_
  exact hJ20 T2 1 Hf _ _ _ hP hS (lv_sub hl [0] rfl)

def f_X9_takeWord (S : st_T) (a0 : Nat) (x1 : Int32) : Option (Unit × st_T) :=
  (c_g (st_K S a0 = 11) (c_c (f_X9_hasWord S a0 x1) (fun (r2 : Int32) (T2 : st_T) => (c_i (r2 = 0) (c_g (st_K T2 a0 = 11) (c_c (f_X9_wrong T2 a0 1) (fun (r10 : Unit) (T10 : st_T) => (some ((), T10))))) (some ((), T2))))))
set_option maxRecDepth 100000 in
set_option maxHeartbeats 4000000 in
theorem s_X9_takeWord (l : Launch) (X : st_I) {S SE : st_T} {a0 : Nat} {x1 : Int32} {rr : Unit} (Hf : f_X9_takeWord S a0 x1 = some (rr, SE)) : Met l yX9_takeWord (Cond.code yX9_takeWord cX9_takeWord 2 (none) :: lw_g) { frames := 2, cells := 0, slots := 0, locals := 43 } (st_P X S [.ref a0, .int x1]) (st_Q X (st_A S) none SE) 0 0 (st_A S) := by
  refine st_ofW (by decide) (Nat.le_of_ble_eq_true rfl) ?_
  intro p e s m args below meth c hx hb hr hml hlocks hnm hts hown hK hRO hA hP hS ls hl
  have hown : s.vm.findClass RX9 = some m.cls := hown
  have hl : lv_has ls 2 [(0, .ref a0), (1, .int x1)] := hl
  unfold f_X9_takeWord at Hf
  refine lv_aload_n hx hb dX9_takeWord_0 rfl (lv_at hl 0 rfl) ?_
  refine lv_iload_n hx hb dX9_takeWord_1 rfl (lv_at hl 1 rfl) ?_
  obtain ⟨hk_a0, Hf⟩ := c_g_some Hf
  obtain ⟨r2, T2, hq2, Hf⟩ := c_c_some Hf
  refine r_cV (n := 1) (As := [.int x1]) (rest := []) ⟨hx, hb, hml, hown, hts⟩ (s_X9_hasWord l X hq2) lkm_X9_180 (by decide +kernel) rfl (by decide) dX9_takeWord_2 rfl rfl ⟨Nat.le_of_ble_eq_true rfl, Nat.le_of_ble_eq_true rfl⟩ hk_a0 rfl hl.1 (Nat.le_of_ble_eq_true rfl) ⟨Nat.le_of_ble_eq_true rfl, Nat.le_of_ble_eq_true rfl⟩ hK hRO hA hP hS (fun H locs hP hS => ?_)
  refine W.eq (g2 := F0 m 5 ls [.int r2]) rfl ?_
  refine lv_if_ne hx hb dX9_takeWord_5 (tgt := 13) (by decide) (fun hc => ?_) (fun hc => ?_)
  · have Hf := c_i_f Hf hc
    cases Hf
    exact r_vret hx hb hr rfl hlocks dX9_takeWord_13 (Nat.le_of_ble_eq_true rfl) (Nat.le_of_ble_eq_true rfl) hP hS
  have Hf := c_i_t Hf hc
  refine lv_aload_n hx hb dX9_takeWord_8 rfl (lv_at hl 0 rfl) ?_
  refine lv_iconst (v := 1) hx hb dX9_takeWord_9 (by decide) ?_
  obtain ⟨hk_a0, Hf⟩ := c_g_some Hf
  obtain ⟨r10, T10, hq10, Hf⟩ := c_c_some Hf
  refine r_cV (n := 1) (As := [.int 1]) (rest := []) ⟨hx, hb, hml, hown, hts⟩ (s_X9_wrong l X hq10) lkm_X9_173 (by decide +kernel) rfl (by decide) dX9_takeWord_10 rfl rfl ⟨Nat.le_of_ble_eq_true rfl, Nat.le_of_ble_eq_true rfl⟩ hk_a0 rfl hl.1 (Nat.le_of_ble_eq_true rfl) ⟨Nat.le_of_ble_eq_true rfl, Nat.le_of_ble_eq_true rfl⟩ hK hRO hA hP hS (fun H locs hP hS => ?_)
  refine W.eq (g2 := F0 m 13 ls []) rfl ?_
  cases Hf
  exact r_vret hx hb hr rfl hlocks dX9_takeWord_13 (Nat.le_of_ble_eq_true rfl) (Nat.le_of_ble_eq_true rfl) hP hS

def j_X9_takeNumber_70 (a0 : Nat) (S70 : st_T) : Option (Int32 × st_T) :=
  (c_g (st_K S70 a0 = 11) (c_l (st_pi S70 1007 a0 ((st_fi S70 1007 a0) + 1)) (fun (S_77 : st_T) => (c_i ((st_fi S_77 1008 a0) ≤ 0) (c_n (st_fr S_77 1006 a0) (fun (q92 : Nat) => (c_g (st_K S_77 q92 = 21) (c_g (c_in ((st_fi S_77 1007 a0) - 1) (st_ln S_77 q92)) (some ((((st_rl S_77 q92 (((st_fi S_77 1007 a0) - 1) : Int32).toNatClampNeg) : Int64).toInt32), S_77)))))) (some (0, S_77))))))
def j_X9_takeNumber_65 (a0 : Nat) (S65 : st_T) : Option (Int32 × st_T) :=
  (c_g (st_K S65 a0 = 11) (c_c (f_X9_wrong S65 a0 4) (fun (r67 : Unit) (T67 : st_T) => (j_X9_takeNumber_70 a0 T67))))
def j_X9_takeNumber_28 (a0 : Nat) (x1 : Int32) (x2 : Int32) (S28 : st_T) : Option (Int32 × st_T) :=
  (c_g (st_K S28 a0 = 11) (c_i ((st_fi S28 1008 a0) = 0) (c_n (st_fr S28 1006 a0) (fun (q36 : Nat) => (c_g (st_K S28 q36 = 21) (c_g (c_in (st_fi S28 1007 a0) (st_ln S28 q36)) (c_i ((lg_cmp (st_rl S28 q36 ((st_fi S28 1007 a0) : Int32).toNatClampNeg) ((x1 : Int32).toInt64)) < 0) (j_X9_takeNumber_65 a0 S28) (c_g (c_in (st_fi S28 1007 a0) (st_ln S28 q36)) (c_i ((lg_cmp (st_rl S28 q36 ((st_fi S28 1007 a0) : Int32).toNatClampNeg) ((x2 : Int32).toInt64)) ≤ 0) (j_X9_takeNumber_70 a0 S28) (j_X9_takeNumber_65 a0 S28)))))))) (j_X9_takeNumber_70 a0 S28)))
def f_X9_takeNumber (S : st_T) (a0 : Nat) (x1 : Int32) (x2 : Int32) : Option (Int32 × st_T) :=
  (c_g (st_K S a0 = 11) (c_i ((st_fi S 1008 a0) = 0) (c_n (st_fr S 1004 a0) (fun (q8 : Nat) => (c_g (st_K S q8 = 20) (c_g (c_in (st_fi S 1007 a0) (st_ln S q8)) (c_i ((st_ri S q8 ((st_fi S 1007 a0) : Int32).toNatClampNeg) = 2) (j_X9_takeNumber_28 a0 x1 x2 S) (c_c (f_X9_wrong S a0 1) (fun (r22 : Unit) (T22 : st_T) => (j_X9_takeNumber_70 a0 T22)))))))) (j_X9_takeNumber_28 a0 x1 x2 S)))
set_option maxRecDepth 100000 in
set_option maxHeartbeats 4000000 in
theorem s_X9_takeNumber (l : Launch) (X : st_I) {S SE : st_T} {a0 : Nat} {x1 : Int32} {x2 : Int32} {rr : Int32} (Hf : f_X9_takeNumber S a0 x1 x2 = some (rr, SE)) : Met l yX9_takeNumber (Cond.code yX9_takeNumber cX9_takeNumber 3 (some .int) :: lw_g) { frames := 1, cells := 0, slots := 0, locals := 21 } (st_P X S [.ref a0, .int x1, .int x2]) (st_Q X (st_A S) (some (.int rr)) SE) 0 0 (st_A S) := by
  refine st_ofW (by decide) (Nat.le_of_ble_eq_true rfl) ?_
  intro p e s m args below meth c hx hb hr hml hlocks hnm hts hown hK hRO hA hP hS ls hl
  have hown : s.vm.findClass RX9 = some m.cls := hown
  have hl : lv_has ls 3 [(0, .ref a0), (1, .int x1), (2, .int x2)] := hl
  unfold f_X9_takeNumber at Hf
  refine lv_aload_n hx hb dX9_takeNumber_0 rfl (lv_at hl 0 rfl) ?_
  obtain ⟨hk_a0, Hf⟩ := c_g_some Hf
  refine fg_10_8 hx hb hts hown hK hP hk_a0 lkf_X9_167 dX9_takeNumber_1 ?_
  have hJ70 : ∀ (S70 : st_T), j_X9_takeNumber_70 a0 S70 = some (rr, SE) → ∀ (H : Heap) (locs : List Loc) (ls : Array Slot), st_HP X (st_A S) S70 H → va_S (st_A S) s.heap H locs → lv_has ls 3 [(0, .ref a0)] → W p l e { frames := 1, cells := 0, slots := 0, locals := 21 } s m args below meth c H locs 0 0 (MQ below (st_Q X (st_A S) (some (.int rr)) SE) args s 0 0 (st_A S)) (F0 m 70 ls []) := by
    intro S70 Hf H locs ls hP hS hl
    unfold j_X9_takeNumber_70 at Hf
    refine lv_aload_n hx hb dX9_takeNumber_70 rfl (lv_at hl 0 rfl) ?_
    refine lv_dup hx hb dX9_takeNumber_71 rfl ?_
    obtain ⟨hk_a0, Hf⟩ := c_g_some Hf
    refine fg_10_7 hx hb hts hown hK hP hk_a0 lkf_X9_164 dX9_takeNumber_72 ?_
    refine lv_iconst (v := 1) hx hb dX9_takeNumber_75 (by decide) ?_
    refine lv_iadd hx hb dX9_takeNumber_76 ?_
    refine fp_10_7 hx hb hts hown hK hP hS hk_a0 lkf_X9_164 dX9_takeNumber_77 (fun H locs hP hS => ?_)
    obtain ⟨S_77, eS_77, Hf⟩ := c_l_ex Hf
    have hP : st_HP X (st_A S) S_77 H := by rw [eS_77]; exact hP
    refine lv_aload_n hx hb dX9_takeNumber_80 rfl (lv_at hl 0 rfl) ?_
    have hk_a0 : st_K S_77 a0 = 11 := by rw [kp_pi eS_77]; exact hk_a0
    refine fg_10_8 hx hb hts hown hK hP hk_a0 lkf_X9_167 dX9_takeNumber_81 ?_
    refine lv_if_le hx hb dX9_takeNumber_84 (tgt := 91) (by decide) (fun hc => ?_) (fun hc => ?_)
    · have Hf := c_i_t Hf hc
      refine lv_aload_n hx hb dX9_takeNumber_91 rfl (lv_at hl 0 rfl) ?_
      obtain ⟨q92, hq92, Hf⟩ := c_n_some Hf
      refine fg_10_6 hx hb hts hown hK hP hk_a0 lkf_X9_19 hq92 dX9_takeNumber_92 ?_
      refine lv_aload_n hx hb dX9_takeNumber_95 rfl (lv_at hl 0 rfl) ?_
      refine fg_10_7 hx hb hts hown hK hP hk_a0 lkf_X9_164 dX9_takeNumber_96 ?_
      refine lv_iconst (v := 1) hx hb dX9_takeNumber_99 (by decide) ?_
      refine lv_isub hx hb dX9_takeNumber_100 ?_
      obtain ⟨hk_q92, Hf⟩ := c_g_some Hf
      obtain ⟨hi101, Hf⟩ := c_g_some Hf
      refine r_lald hx hb hK hP hk_q92 hi101 dX9_takeNumber_101 ?_
      refine lv_l2i (v := ((st_rl S_77 q92 (((st_fi S_77 1007 a0) - 1) : Int32).toNatClampNeg) : Int64).toInt32) hx hb dX9_takeNumber_102 rfl ?_
      cases Hf
      exact r_iret hx hb hr rfl hlocks dX9_takeNumber_103 (Nat.le_of_ble_eq_true rfl) (Nat.le_of_ble_eq_true rfl) hP hS
    have Hf := c_i_f Hf hc
    refine lv_iconst (v := 0) hx hb dX9_takeNumber_87 (by decide) ?_
    refine lv_goto hx hb dX9_takeNumber_88 (tgt := 103) (by decide) ?_
    cases Hf
    exact r_iret hx hb hr rfl hlocks dX9_takeNumber_103 (Nat.le_of_ble_eq_true rfl) (Nat.le_of_ble_eq_true rfl) hP hS
  have hJ28 : ∀ (S28 : st_T), j_X9_takeNumber_28 a0 x1 x2 S28 = some (rr, SE) → ∀ (H : Heap) (locs : List Loc) (ls : Array Slot), st_HP X (st_A S) S28 H → va_S (st_A S) s.heap H locs → lv_has ls 3 [(0, .ref a0), (1, .int x1), (2, .int x2)] → W p l e { frames := 1, cells := 0, slots := 0, locals := 21 } s m args below meth c H locs 0 0 (MQ below (st_Q X (st_A S) (some (.int rr)) SE) args s 0 0 (st_A S)) (F0 m 28 ls []) := by
    intro S28 Hf H locs ls hP hS hl
    unfold j_X9_takeNumber_28 at Hf
    refine lv_aload_n hx hb dX9_takeNumber_28 rfl (lv_at hl 0 rfl) ?_
    obtain ⟨hk_a0, Hf⟩ := c_g_some Hf
    refine fg_10_8 hx hb hts hown hK hP hk_a0 lkf_X9_167 dX9_takeNumber_29 ?_
    refine lv_if_ne hx hb dX9_takeNumber_32 (tgt := 70) (by decide) (fun hc => ?_) (fun hc => ?_)
    · have Hf := c_i_f Hf hc
      exact hJ70 S28 Hf _ _ _ hP hS (lv_sub hl [0] rfl)
    have Hf := c_i_t Hf hc
    refine lv_aload_n hx hb dX9_takeNumber_35 rfl (lv_at hl 0 rfl) ?_
    obtain ⟨q36, hq36, Hf⟩ := c_n_some Hf
    refine fg_10_6 hx hb hts hown hK hP hk_a0 lkf_X9_19 hq36 dX9_takeNumber_36 ?_
    refine lv_aload_n hx hb dX9_takeNumber_39 rfl (lv_at hl 0 rfl) ?_
    refine fg_10_7 hx hb hts hown hK hP hk_a0 lkf_X9_164 dX9_takeNumber_40 ?_
    obtain ⟨hk_q36, Hf⟩ := c_g_some Hf
    obtain ⟨hi43, Hf⟩ := c_g_some Hf
    refine r_lald hx hb hK hP hk_q36 hi43 dX9_takeNumber_43 ?_
    refine lv_iload_n hx hb dX9_takeNumber_44 rfl (lv_at hl 1 rfl) ?_
    refine lv_i2l (v := (x1 : Int32).toInt64) hx hb dX9_takeNumber_45 rfl ?_
    refine W.lcmp hx hb dX9_takeNumber_46 ?_
    have hJ65 : ∀ (S65 : st_T), j_X9_takeNumber_65 a0 S65 = some (rr, SE) → ∀ (H : Heap) (locs : List Loc) (ls : Array Slot), st_HP X (st_A S) S65 H → va_S (st_A S) s.heap H locs → lv_has ls 3 [(0, .ref a0)] → W p l e { frames := 1, cells := 0, slots := 0, locals := 21 } s m args below meth c H locs 0 0 (MQ below (st_Q X (st_A S) (some (.int rr)) SE) args s 0 0 (st_A S)) (F0 m 65 ls []) := by
      intro S65 Hf H locs ls hP hS hl
      unfold j_X9_takeNumber_65 at Hf
      refine lv_aload_n hx hb dX9_takeNumber_65 rfl (lv_at hl 0 rfl) ?_
      refine lv_iconst (v := 4) hx hb dX9_takeNumber_66 (by decide) ?_
      obtain ⟨hk_a0, Hf⟩ := c_g_some Hf
      obtain ⟨r67, T67, hq67, Hf⟩ := c_c_some Hf
      refine r_cV (n := 1) (As := [.int 4]) (rest := []) ⟨hx, hb, hml, hown, hts⟩ (s_X9_wrong l X hq67) lkm_X9_173 (by decide +kernel) rfl (by decide) dX9_takeNumber_67 rfl rfl ⟨Nat.le_of_ble_eq_true rfl, Nat.le_of_ble_eq_true rfl⟩ hk_a0 rfl hl.1 (Nat.le_of_ble_eq_true rfl) ⟨Nat.le_of_ble_eq_true rfl, Nat.le_of_ble_eq_true rfl⟩ hK hRO hA hP hS (fun H locs hP hS => ?_)
      refine W.eq (g2 := F0 m 70 ls []) rfl ?_
      exact hJ70 T67 Hf _ _ _ hP hS (lv_sub hl [0] rfl)
    refine lv_if_lt hx hb dX9_takeNumber_47 (tgt := 65) (by decide) (fun hc => ?_) (fun hc => ?_)
    · have Hf := c_i_t Hf hc
      exact hJ65 S28 Hf _ _ _ hP hS (lv_sub hl [0] rfl)
    have Hf := c_i_f Hf hc
    refine lv_aload_n hx hb dX9_takeNumber_50 rfl (lv_at hl 0 rfl) ?_
    refine fg_10_6 hx hb hts hown hK hP hk_a0 lkf_X9_19 hq36 dX9_takeNumber_51 ?_
    refine lv_aload_n hx hb dX9_takeNumber_54 rfl (lv_at hl 0 rfl) ?_
    refine fg_10_7 hx hb hts hown hK hP hk_a0 lkf_X9_164 dX9_takeNumber_55 ?_
    obtain ⟨hi58, Hf⟩ := c_g_some Hf
    refine r_lald hx hb hK hP hk_q36 hi58 dX9_takeNumber_58 ?_
    refine lv_iload_n hx hb dX9_takeNumber_59 rfl (lv_at hl 2 rfl) ?_
    refine lv_i2l (v := (x2 : Int32).toInt64) hx hb dX9_takeNumber_60 rfl ?_
    refine W.lcmp hx hb dX9_takeNumber_61 ?_
    refine lv_if_le hx hb dX9_takeNumber_62 (tgt := 70) (by decide) (fun hc => ?_) (fun hc => ?_)
    · have Hf := c_i_t Hf hc
      exact hJ70 S28 Hf _ _ _ hP hS (lv_sub hl [0] rfl)
    have Hf := c_i_f Hf hc
    exact hJ65 S28 Hf _ _ _ hP hS (lv_sub hl [0] rfl)
  refine lv_if_ne hx hb dX9_takeNumber_4 (tgt := 28) (by decide) (fun hc => ?_) (fun hc => ?_)
  · have Hf := c_i_f Hf hc
    exact hJ28 S Hf _ _ _ hP hS (lv_sub hl [0, 1, 2] rfl)
  have Hf := c_i_t Hf hc
  refine lv_aload_n hx hb dX9_takeNumber_7 rfl (lv_at hl 0 rfl) ?_
  obtain ⟨q8, hq8, Hf⟩ := c_n_some Hf
  refine fg_10_4 hx hb hts hown hK hP hk_a0 lkf_X9_13 hq8 dX9_takeNumber_8 ?_
  refine lv_aload_n hx hb dX9_takeNumber_11 rfl (lv_at hl 0 rfl) ?_
  refine fg_10_7 hx hb hts hown hK hP hk_a0 lkf_X9_164 dX9_takeNumber_12 ?_
  obtain ⟨hk_q8, Hf⟩ := c_g_some Hf
  obtain ⟨hi15, Hf⟩ := c_g_some Hf
  refine r_iald hx hb hK hP hk_q8 hi15 dX9_takeNumber_15 ?_
  refine lv_iconst (v := 2) hx hb dX9_takeNumber_16 (by decide) ?_
  refine lv_icmp_eq hx hb dX9_takeNumber_17 (tgt := 28) (by decide) (fun hc => ?_) (fun hc => ?_)
  · have Hf := c_i_t Hf hc
    exact hJ28 S Hf _ _ _ hP hS (lv_sub hl [0, 1, 2] rfl)
  have Hf := c_i_f Hf hc
  refine lv_aload_n hx hb dX9_takeNumber_20 rfl (lv_at hl 0 rfl) ?_
  refine lv_iconst (v := 1) hx hb dX9_takeNumber_21 (by decide) ?_
  obtain ⟨r22, T22, hq22, Hf⟩ := c_c_some Hf
  refine r_cV (n := 1) (As := [.int 1]) (rest := []) ⟨hx, hb, hml, hown, hts⟩ (s_X9_wrong l X hq22) lkm_X9_173 (by decide +kernel) rfl (by decide) dX9_takeNumber_22 rfl rfl ⟨Nat.le_of_ble_eq_true rfl, Nat.le_of_ble_eq_true rfl⟩ hk_a0 rfl hl.1 (Nat.le_of_ble_eq_true rfl) ⟨Nat.le_of_ble_eq_true rfl, Nat.le_of_ble_eq_true rfl⟩ hK hRO hA hP hS (fun H locs hP hS => ?_)
  refine W.eq (g2 := F0 m 25 ls []) rfl ?_
  refine lv_goto hx hb dX9_takeNumber_25 (tgt := 70) (by decide) ?_
  exact hJ70 T22 Hf _ _ _ hP hS (lv_sub hl [0] rfl)

def f_X9_emit (S : st_T) (a0 : Nat) (x1 : Int32) (x2 : Int32) : Option (Unit × st_T) :=
  (c_g (st_K S a0 = 11) (c_n (st_fr S 1016 a0) (fun (q1 : Nat) => (c_g (st_K S q1 = 20) (c_g (c_in (7040 + (st_fi S 1018 a0)) (st_ln S q1)) (c_l (st_wi S q1 ((7040 + (st_fi S 1018 a0)) : Int32).toNatClampNeg x1) (fun (S_13 : st_T) => (c_n (st_fr S_13 1017 a0) (fun (q15 : Nat) => (c_g (st_K S_13 q15 = 20) (c_g (c_in (7040 + (st_fi S_13 1018 a0)) (st_ln S_13 q15)) (c_l (st_wi S_13 q15 ((7040 + (st_fi S_13 1018 a0)) : Int32).toNatClampNeg x2) (fun (S_27 : st_T) => (c_l (st_pi S_27 1018 a0 ((st_fi S_27 1018 a0) + 1)) (fun (S_35 : st_T) => (some ((), S_35)))))))))))))))))
set_option maxRecDepth 100000 in
set_option maxHeartbeats 4000000 in
theorem s_X9_emit (l : Launch) (X : st_I) {S SE : st_T} {a0 : Nat} {x1 : Int32} {x2 : Int32} {rr : Unit} (Hf : f_X9_emit S a0 x1 x2 = some (rr, SE)) : Met l yX9_emit (Cond.code yX9_emit cX9_emit 3 (none) :: lw_g) { frames := 0, cells := 0, slots := 0, locals := 0 } (st_P X S [.ref a0, .int x1, .int x2]) (st_Q X (st_A S) none SE) 0 0 (st_A S) := by
  refine st_ofW (by decide) (Nat.le_of_ble_eq_true rfl) ?_
  intro p e s m args below meth c hx hb hr hml hlocks hnm hts hown hK hRO hA hP hS ls hl
  have hown : s.vm.findClass RX9 = some m.cls := hown
  have hl : lv_has ls 3 [(0, .ref a0), (1, .int x1), (2, .int x2)] := hl
  unfold f_X9_emit at Hf
  refine lv_aload_n hx hb dX9_emit_0 rfl (lv_at hl 0 rfl) ?_
  obtain ⟨hk_a0, Hf⟩ := c_g_some Hf
  obtain ⟨q1, hq1, Hf⟩ := c_n_some Hf
  refine fg_10_16 hx hb hts hown hK hP hk_a0 lkf_X9_70 hq1 dX9_emit_1 ?_
  refine lv_sipush (v := 7040) hx hb dX9_emit_4 (by decide) ?_
  refine lv_aload_n hx hb dX9_emit_7 rfl (lv_at hl 0 rfl) ?_
  refine fg_10_18 hx hb hts hown hK hP hk_a0 lkf_X9_183 dX9_emit_8 ?_
  refine lv_iadd hx hb dX9_emit_11 ?_
  refine lv_iload_n hx hb dX9_emit_12 rfl (lv_at hl 1 rfl) ?_
  obtain ⟨hk_q1, Hf⟩ := c_g_some Hf
  obtain ⟨hi13, Hf⟩ := c_g_some Hf
  refine r_iast hx hb hK hP hS hk_q1 hi13 dX9_emit_13 (fun H locs hP hS => ?_)
  obtain ⟨S_13, eS_13, Hf⟩ := c_l_ex Hf
  have hP : st_HP X (st_A S) S_13 H := by rw [eS_13]; exact hP
  refine lv_aload_n hx hb dX9_emit_14 rfl (lv_at hl 0 rfl) ?_
  have hk_a0 : st_K S_13 a0 = 11 := by rw [kp_wi eS_13]; exact hk_a0
  obtain ⟨q15, hq15, Hf⟩ := c_n_some Hf
  refine fg_10_17 hx hb hts hown hK hP hk_a0 lkf_X9_73 hq15 dX9_emit_15 ?_
  refine lv_sipush (v := 7040) hx hb dX9_emit_18 (by decide) ?_
  refine lv_aload_n hx hb dX9_emit_21 rfl (lv_at hl 0 rfl) ?_
  refine fg_10_18 hx hb hts hown hK hP hk_a0 lkf_X9_183 dX9_emit_22 ?_
  refine lv_iadd hx hb dX9_emit_25 ?_
  refine lv_iload_n hx hb dX9_emit_26 rfl (lv_at hl 2 rfl) ?_
  obtain ⟨hk_q15, Hf⟩ := c_g_some Hf
  obtain ⟨hi27, Hf⟩ := c_g_some Hf
  refine r_iast hx hb hK hP hS hk_q15 hi27 dX9_emit_27 (fun H locs hP hS => ?_)
  obtain ⟨S_27, eS_27, Hf⟩ := c_l_ex Hf
  have hP : st_HP X (st_A S) S_27 H := by rw [eS_27]; exact hP
  refine lv_aload_n hx hb dX9_emit_28 rfl (lv_at hl 0 rfl) ?_
  refine lv_dup hx hb dX9_emit_29 rfl ?_
  have hk_a0 : st_K S_27 a0 = 11 := by rw [kp_wi eS_27]; exact hk_a0
  refine fg_10_18 hx hb hts hown hK hP hk_a0 lkf_X9_183 dX9_emit_30 ?_
  refine lv_iconst (v := 1) hx hb dX9_emit_33 (by decide) ?_
  refine lv_iadd hx hb dX9_emit_34 ?_
  refine fp_10_18 hx hb hts hown hK hP hS hk_a0 lkf_X9_183 dX9_emit_35 (fun H locs hP hS => ?_)
  obtain ⟨S_35, eS_35, Hf⟩ := c_l_ex Hf
  have hP : st_HP X (st_A S) S_35 H := by rw [eS_35]; exact hP
  cases Hf
  exact r_vret hx hb hr rfl hlocks dX9_emit_38 (Nat.le_of_ble_eq_true rfl) (Nat.le_of_ble_eq_true rfl) hP hS

def f_X9_opens (S : st_T) (a0 : Nat) : Option (Unit × st_T) :=
  (c_g (st_K S a0 = 11) (c_n (st_fr S 1020 a0) (fun (q1 : Nat) => (c_g (st_K S q1 = 20) (c_g (c_in (st_fi S 1019 a0) (st_ln S q1)) (c_l (st_wi S q1 ((st_fi S 1019 a0) : Int32).toNatClampNeg 0) (fun (S_9 : st_T) => (c_n (st_fr S_9 1021 a0) (fun (q11 : Nat) => (c_g (st_K S_9 q11 = 20) (c_g (c_in (st_fi S_9 1019 a0) (st_ln S_9 q11)) (c_l (st_wi S_9 q11 ((st_fi S_9 1019 a0) : Int32).toNatClampNeg 0) (fun (S_19 : st_T) => (c_n (st_fr S_19 1022 a0) (fun (q21 : Nat) => (c_g (st_K S_19 q21 = 20) (c_g (c_in (st_fi S_19 1019 a0) (st_ln S_19 q21)) (c_l (st_wi S_19 q21 ((st_fi S_19 1019 a0) : Int32).toNatClampNeg 0) (fun (S_29 : st_T) => (some ((), S_29)))))))))))))))))))))
set_option maxRecDepth 100000 in
set_option maxHeartbeats 4000000 in
theorem s_X9_opens (l : Launch) (X : st_I) {S SE : st_T} {a0 : Nat} {rr : Unit} (Hf : f_X9_opens S a0 = some (rr, SE)) : Met l yX9_opens (Cond.code yX9_opens cX9_opens 1 (none) :: lw_g) { frames := 0, cells := 0, slots := 0, locals := 0 } (st_P X S [.ref a0]) (st_Q X (st_A S) none SE) 0 0 (st_A S) := by
  refine st_ofW (by decide) (Nat.le_of_ble_eq_true rfl) ?_
  intro p e s m args below meth c hx hb hr hml hlocks hnm hts hown hK hRO hA hP hS ls hl
  have hown : s.vm.findClass RX9 = some m.cls := hown
  have hl : lv_has ls 1 [(0, .ref a0)] := hl
  unfold f_X9_opens at Hf
  refine lv_aload_n hx hb dX9_opens_0 rfl (lv_at hl 0 rfl) ?_
  obtain ⟨hk_a0, Hf⟩ := c_g_some Hf
  obtain ⟨q1, hq1, Hf⟩ := c_n_some Hf
  refine fg_10_20 hx hb hts hown hK hP hk_a0 lkf_X9_76 hq1 dX9_opens_1 ?_
  refine lv_aload_n hx hb dX9_opens_4 rfl (lv_at hl 0 rfl) ?_
  refine fg_10_19 hx hb hts hown hK hP hk_a0 lkf_X9_208 dX9_opens_5 ?_
  refine lv_iconst (v := 0) hx hb dX9_opens_8 (by decide) ?_
  obtain ⟨hk_q1, Hf⟩ := c_g_some Hf
  obtain ⟨hi9, Hf⟩ := c_g_some Hf
  refine r_iast hx hb hK hP hS hk_q1 hi9 dX9_opens_9 (fun H locs hP hS => ?_)
  obtain ⟨S_9, eS_9, Hf⟩ := c_l_ex Hf
  have hP : st_HP X (st_A S) S_9 H := by rw [eS_9]; exact hP
  refine lv_aload_n hx hb dX9_opens_10 rfl (lv_at hl 0 rfl) ?_
  have hk_a0 : st_K S_9 a0 = 11 := by rw [kp_wi eS_9]; exact hk_a0
  obtain ⟨q11, hq11, Hf⟩ := c_n_some Hf
  refine fg_10_21 hx hb hts hown hK hP hk_a0 lkf_X9_79 hq11 dX9_opens_11 ?_
  refine lv_aload_n hx hb dX9_opens_14 rfl (lv_at hl 0 rfl) ?_
  refine fg_10_19 hx hb hts hown hK hP hk_a0 lkf_X9_208 dX9_opens_15 ?_
  refine lv_iconst (v := 0) hx hb dX9_opens_18 (by decide) ?_
  obtain ⟨hk_q11, Hf⟩ := c_g_some Hf
  obtain ⟨hi19, Hf⟩ := c_g_some Hf
  refine r_iast hx hb hK hP hS hk_q11 hi19 dX9_opens_19 (fun H locs hP hS => ?_)
  obtain ⟨S_19, eS_19, Hf⟩ := c_l_ex Hf
  have hP : st_HP X (st_A S) S_19 H := by rw [eS_19]; exact hP
  refine lv_aload_n hx hb dX9_opens_20 rfl (lv_at hl 0 rfl) ?_
  have hk_a0 : st_K S_19 a0 = 11 := by rw [kp_wi eS_19]; exact hk_a0
  obtain ⟨q21, hq21, Hf⟩ := c_n_some Hf
  refine fg_10_22 hx hb hts hown hK hP hk_a0 lkf_X9_82 hq21 dX9_opens_21 ?_
  refine lv_aload_n hx hb dX9_opens_24 rfl (lv_at hl 0 rfl) ?_
  refine fg_10_19 hx hb hts hown hK hP hk_a0 lkf_X9_208 dX9_opens_25 ?_
  refine lv_iconst (v := 0) hx hb dX9_opens_28 (by decide) ?_
  obtain ⟨hk_q21, Hf⟩ := c_g_some Hf
  obtain ⟨hi29, Hf⟩ := c_g_some Hf
  refine r_iast hx hb hK hP hS hk_q21 hi29 dX9_opens_29 (fun H locs hP hS => ?_)
  obtain ⟨S_29, eS_29, Hf⟩ := c_l_ex Hf
  have hP : st_HP X (st_A S) S_29 H := by rw [eS_29]; exact hP
  cases Hf
  exact r_vret hx hb hr rfl hlocks dX9_opens_30 (Nat.le_of_ble_eq_true rfl) (Nat.le_of_ble_eq_true rfl) hP hS

def b_X9_partWord_2 (a0 : Nat) (rec2 : st_T × Int32 → Option (Int32 × st_T)) (q : st_T × Int32) : Option (Int32 × st_T) :=
  (fun (S2 : st_T) (y1_2 : Int32) =>
  (c_i (10 ≤ y1_2) (some ((-1), S2)) (c_g (st_K S2 a0 = 11) (c_c (f_X9_isWord S2 a0 (4 + y1_2)) (fun (r12 : Int32) (T12 : st_T) => (c_i (r12 = 0) (rec2 (T12, (y1_2 + 1))) (some (y1_2, T12)))))))) q.1 q.2
def f_X9_partWord (S : st_T) (a0 : Nat) : Option (Int32 × st_T) :=
  (c_w (b_X9_partWord_2 a0) c_N (S, 0))
set_option maxRecDepth 100000 in
set_option maxHeartbeats 4000000 in
theorem s_X9_partWord (l : Launch) (X : st_I) {S SE : st_T} {a0 : Nat} {rr : Int32} (Hf : f_X9_partWord S a0 = some (rr, SE)) : Met l yX9_partWord (Cond.code yX9_partWord cX9_partWord 2 (some .int) :: lw_g) { frames := 1, cells := 0, slots := 0, locals := 21 } (st_P X S [.ref a0]) (st_Q X (st_A S) (some (.int rr)) SE) 0 0 (st_A S) := by
  refine st_ofW (by decide) (Nat.le_of_ble_eq_true rfl) ?_
  intro p e s m args below meth c hx hb hr hml hlocks hnm hts hown hK hRO hA hP hS ls hl
  have hown : s.vm.findClass RX9 = some m.cls := hown
  have hl : lv_has ls 2 [(0, .ref a0)] := hl
  unfold f_X9_partWord at Hf
  refine lv_iconst (v := 0) hx hb dX9_partWord_0 (by decide) ?_
  refine lv_istore_n (lv' := [(1, .int 0), (0, .ref a0)]) hx hb dX9_partWord_1 rfl hl (by decide) rfl (fun ls hl => ?_)
  refine (c_w_ind (P := fun (q : st_T × Int32) => ∀ (H : Heap) (locs : List Loc) (ls : Array Slot), st_HP X (st_A S) q.1 H → va_S (st_A S) s.heap H locs → lv_has ls 2 [(0, .ref a0), (1, .int q.2)] → W p l e { frames := 1, cells := 0, slots := 0, locals := 21 } s m args below meth c H locs 0 0 (MQ below (st_Q X (st_A S) (some (.int rr)) SE) args s 0 0 (st_A S)) (F0 m 2 ls [])) ?_ _ _ Hf) _ _ _ hP hS (lv_sub hl [1, 0] rfl)
  intro rec2 hrec2 q Hf H locs ls hP hS hl
  obtain ⟨S2, y1_2⟩ := q
  unfold b_X9_partWord_2 at Hf
  try dsimp only at Hf
  try dsimp only at hP
  try dsimp only at hl
  try dsimp only
  refine lv_iload_n hx hb dX9_partWord_2 rfl (lv_at hl 1 rfl) ?_
  refine lv_bipush (v := 10) hx hb dX9_partWord_3 (by decide) ?_
  refine lv_icmp_ge hx hb dX9_partWord_5 (tgt := 26) (by decide) (fun hc => ?_) (fun hc => ?_)
  · have Hf := c_i_t Hf hc
    refine lv_iconst (v := (-1)) hx hb dX9_partWord_26 (by decide) ?_
    cases Hf
    exact r_iret hx hb hr rfl hlocks dX9_partWord_27 (Nat.le_of_ble_eq_true rfl) (Nat.le_of_ble_eq_true rfl) hP hS
  have Hf := c_i_f Hf hc
  refine lv_aload_n hx hb dX9_partWord_8 rfl (lv_at hl 0 rfl) ?_
  refine lv_iconst (v := 4) hx hb dX9_partWord_9 (by decide) ?_
  refine lv_iload_n hx hb dX9_partWord_10 rfl (lv_at hl 1 rfl) ?_
  refine lv_iadd hx hb dX9_partWord_11 ?_
  obtain ⟨hk_a0, Hf⟩ := c_g_some Hf
  obtain ⟨r12, T12, hq12, Hf⟩ := c_c_some Hf
  refine r_cV (n := 1) (As := [.int (4 + y1_2)]) (rest := []) ⟨hx, hb, hml, hown, hts⟩ (s_X9_isWord l X hq12) lkm_X9_177 (by decide +kernel) rfl (by decide) dX9_partWord_12 rfl rfl ⟨Nat.le_of_ble_eq_true rfl, Nat.le_of_ble_eq_true rfl⟩ hk_a0 rfl hl.1 (Nat.le_of_ble_eq_true rfl) ⟨Nat.le_of_ble_eq_true rfl, Nat.le_of_ble_eq_true rfl⟩ hK hRO hA hP hS (fun H locs hP hS => ?_)
  refine W.eq (g2 := F0 m 15 ls [.int r12]) rfl ?_
  refine lv_if_eq hx hb dX9_partWord_15 (tgt := 20) (by decide) (fun hc => ?_) (fun hc => ?_)
  · have Hf := c_i_t Hf hc
    refine lv_iinc (v := (y1_2 + 1)) (lv' := [(1, .int (y1_2 + 1)), (0, .ref a0)]) hx hb dX9_partWord_20 hl (k := 1) rfl rfl (by decide) rfl (fun ls hl => ?_)
    refine lv_goto hx hb dX9_partWord_23 (tgt := 2) (by decide) ?_
    exact hrec2 (T12, (y1_2 + 1)) Hf _ _ _ hP hS (lv_sub hl [1, 0] rfl)
  have Hf := c_i_f Hf hc
  refine lv_iload_n hx hb dX9_partWord_18 rfl (lv_at hl 1 rfl) ?_
  cases Hf
  exact r_iret hx hb hr rfl hlocks dX9_partWord_19 (Nat.le_of_ble_eq_true rfl) (Nat.le_of_ble_eq_true rfl) hP hS

def j_X9_part_164 (a0 : Nat) (u0_144 : Int32) (S164 : st_T) (u0_164 : Int32) : Option (Int32 × st_T) :=
  (c_g (st_K S164 a0 = 11) (c_c (f_X9_emit S164 a0 u0_144 u0_164) (fun (r164 : Unit) (T164 : st_T) => (c_g (st_K T164 a0 = 11) (c_l (st_pi T164 1007 a0 ((st_fi T164 1007 a0) + 1)) (fun (S_174 : st_T) => (some (0, S_174))))))))
def j_X9_part_144 (a0 : Nat) (r1 : Int32) (S144 : st_T) (u0_144 : Int32) : Option (Int32 × st_T) :=
  (c_i (0 ≤ r1) (j_X9_part_164 a0 u0_144 S144 (r1 - 3)) (c_g (st_K S144 a0 = 11) (c_n (st_fr S144 1006 a0) (fun (q149 : Nat) => (c_g (st_K S144 q149 = 21) (c_g (c_in (st_fi S144 1007 a0) (st_ln S144 q149)) (j_X9_part_164 a0 u0_144 S144 (((st_rl S144 q149 ((st_fi S144 1007 a0) : Int32).toNatClampNeg) : Int64).toInt32))))))))
def j_X9_part_134 (a0 : Nat) (r1 : Int32) (S134 : st_T) : Option (Int32 × st_T) :=
  (c_i (0 ≤ r1) (j_X9_part_144 a0 r1 S134 2) (j_X9_part_144 a0 r1 S134 1))
def j_X9_part_59 (a0 : Nat) (r1 : Int32) (S59 : st_T) : Option (Int32 × st_T) :=
  (c_g (st_K S59 a0 = 11) (c_i ((st_fi S59 1008 a0) ≤ 0) (c_c (f_X9_hasSign S59 a0 40) (fun (r71 : Int32) (T71 : st_T) => (c_i (r71 = 0) (c_i (r1 < 0) (j_X9_part_134 a0 r1 T71) (c_i (3 ≤ r1) (j_X9_part_134 a0 r1 T71) (c_g (st_K T71 a0 = 11) (c_l (st_pi T71 1007 a0 ((st_fi T71 1007 a0) + 1)) (fun (S_109 : st_T) => (c_c (f_X9_takeNumber S_109 a0 1 200) (fun (r125 : Int32) (T125 : st_T) => (c_g (st_K T125 a0 = 11) (c_c (f_X9_emit T125 a0 8 ((256 * r1) + r125)) (fun (r129 : Unit) (T129 : st_T) => (some (0, T129)))))))))))) (c_g (st_K T71 a0 = 11) (c_l (st_pi T71 1019 a0 ((st_fi T71 1019 a0) + 1)) (fun (S_84 : st_T) => (c_c (f_X9_opens S_84 a0) (fun (r88 : Unit) (T88 : st_T) => (some (1, T88)))))))))) (some (0, S59))))
def j_X9_part_46 (a0 : Nat) (r1 : Int32) (S46 : st_T) : Option (Int32 × st_T) :=
  (c_g (st_K S46 a0 = 11) (c_i ((st_fi S46 1019 a0) = 5) (c_c (f_X9_wrong S46 a0 5) (fun (r56 : Unit) (T56 : st_T) => (j_X9_part_59 a0 r1 T56))) (j_X9_part_59 a0 r1 S46)))
def f_X9_part (S : st_T) (a0 : Nat) : Option (Int32 × st_T) :=
  (c_g (st_K S a0 = 11) (c_c (f_X9_partWord S a0) (fun (r1 : Int32) (T1 : st_T) => (c_g (st_K T1 a0 = 11) (c_i ((st_fi T1 1008 a0) = 0) (c_n (st_fr T1 1004 a0) (fun (q13 : Nat) => (c_g (st_K T1 q13 = 20) (c_g (c_in (st_fi T1 1007 a0) (st_ln T1 q13)) (c_i ((st_ri T1 q13 ((st_fi T1 1007 a0) : Int32).toNatClampNeg) = 2) (j_X9_part_46 a0 r1 T1) (c_c (f_X9_isSign T1 a0 40) (fun (r28 : Int32) (T28 : st_T) => (c_i (r28 = 0) (c_i (0 ≤ r1) (j_X9_part_46 a0 r1 T28) (c_g (st_K T28 a0 = 11) (c_c (f_X9_wrong T28 a0 1) (fun (r40 : Unit) (T40 : st_T) => (j_X9_part_59 a0 r1 T40))))) (j_X9_part_46 a0 r1 T28))))))))) (j_X9_part_46 a0 r1 T1))))))
set_option maxRecDepth 100000 in
set_option maxHeartbeats 4000000 in
theorem s_X9_part (l : Launch) (X : st_I) {S SE : st_T} {a0 : Nat} {rr : Int32} (Hf : f_X9_part S a0 = some (rr, SE)) : Met l yX9_part (Cond.code yX9_part cX9_part 2 (some .boolean) :: lw_g) { frames := 2, cells := 0, slots := 0, locals := 43 } (st_P X S [.ref a0]) (st_Q X (st_A S) (some (.int rr)) SE) 0 0 (st_A S) := by
  refine st_ofW (by decide) (Nat.le_of_ble_eq_true rfl) ?_
  intro p e s m args below meth c hx hb hr hml hlocks hnm hts hown hK hRO hA hP hS ls hl
  have hown : s.vm.findClass RX9 = some m.cls := hown
  have hl : lv_has ls 2 [(0, .ref a0)] := hl
  unfold f_X9_part at Hf
  refine lv_aload_n hx hb dX9_part_0 rfl (lv_at hl 0 rfl) ?_
  obtain ⟨hk_a0, Hf⟩ := c_g_some Hf
  obtain ⟨r1, T1, hq1, Hf⟩ := c_c_some Hf
  refine r_cV (n := 0) (As := []) (rest := []) ⟨hx, hb, hml, hown, hts⟩ (s_X9_partWord l X hq1) lkm_X9_225 (by decide +kernel) rfl (by decide) dX9_part_1 rfl rfl ⟨Nat.le_of_ble_eq_true rfl, Nat.le_of_ble_eq_true rfl⟩ hk_a0 rfl hl.1 (Nat.le_of_ble_eq_true rfl) ⟨Nat.le_of_ble_eq_true rfl, Nat.le_of_ble_eq_true rfl⟩ hK hRO hA hP hS (fun H locs hP hS => ?_)
  refine W.eq (g2 := F0 m 4 ls [.int r1]) rfl ?_
  refine lv_istore_n (lv' := [(1, .int r1), (0, .ref a0)]) hx hb dX9_part_4 rfl hl (by decide) rfl (fun ls hl => ?_)
  refine lv_aload_n hx hb dX9_part_5 rfl (lv_at hl 1 rfl) ?_
  obtain ⟨hk_a0, Hf⟩ := c_g_some Hf
  refine fg_10_8 hx hb hts hown hK hP hk_a0 lkf_X9_167 dX9_part_6 ?_
  have hJ59 : ∀ (S59 : st_T), j_X9_part_59 a0 r1 S59 = some (rr, SE) → ∀ (H : Heap) (locs : List Loc) (ls : Array Slot), st_HP X (st_A S) S59 H → va_S (st_A S) s.heap H locs → lv_has ls 2 [(0, .ref a0), (1, .int r1)] → W p l e { frames := 2, cells := 0, slots := 0, locals := 43 } s m args below meth c H locs 0 0 (MQ below (st_Q X (st_A S) (some (.int rr)) SE) args s 0 0 (st_A S)) (F0 m 59 ls []) := by
    intro S59 Hf H locs ls hP hS hl
    unfold j_X9_part_59 at Hf
    refine lv_aload_n hx hb dX9_part_59 rfl (lv_at hl 0 rfl) ?_
    obtain ⟨hk_a0, Hf⟩ := c_g_some Hf
    refine fg_10_8 hx hb hts hown hK hP hk_a0 lkf_X9_167 dX9_part_60 ?_
    refine lv_if_le hx hb dX9_part_63 (tgt := 68) (by decide) (fun hc => ?_) (fun hc => ?_)
    · have Hf := c_i_t Hf hc
      refine lv_aload_n hx hb dX9_part_68 rfl (lv_at hl 0 rfl) ?_
      refine lv_bipush (v := 40) hx hb dX9_part_69 (by decide) ?_
      obtain ⟨r71, T71, hq71, Hf⟩ := c_c_some Hf
      refine r_cV (n := 1) (As := [.int 40]) (rest := []) ⟨hx, hb, hml, hown, hts⟩ (s_X9_hasSign l X hq71) lkm_X9_229 (by decide +kernel) rfl (by decide) dX9_part_71 rfl rfl ⟨Nat.le_of_ble_eq_true rfl, Nat.le_of_ble_eq_true rfl⟩ hk_a0 rfl hl.1 (Nat.le_of_ble_eq_true rfl) ⟨Nat.le_of_ble_eq_true rfl, Nat.le_of_ble_eq_true rfl⟩ hK hRO hA hP hS (fun H locs hP hS => ?_)
      refine W.eq (g2 := F0 m 74 ls [.int r71]) rfl ?_
      refine lv_if_eq hx hb dX9_part_74 (tgt := 93) (by decide) (fun hc => ?_) (fun hc => ?_)
      · have Hf := c_i_t Hf hc
        refine lv_iload_n hx hb dX9_part_93 rfl (lv_at hl 1 rfl) ?_
        have hJ134 : ∀ (S134 : st_T), j_X9_part_134 a0 r1 S134 = some (rr, SE) → ∀ (H : Heap) (locs : List Loc) (ls : Array Slot), st_HP X (st_A S) S134 H → va_S (st_A S) s.heap H locs → lv_has ls 2 [(0, .ref a0), (1, .int r1)] → W p l e { frames := 2, cells := 0, slots := 0, locals := 43 } s m args below meth c H locs 0 0 (MQ below (st_Q X (st_A S) (some (.int rr)) SE) args s 0 0 (st_A S)) (F0 m 134 ls []) := by
          intro S134 Hf H locs ls hP hS hl
          unfold j_X9_part_134 at Hf
          refine lv_aload_n hx hb dX9_part_134 rfl (lv_at hl 0 rfl) ?_
          refine lv_iload_n hx hb dX9_part_135 rfl (lv_at hl 1 rfl) ?_
          have hJ144 : ∀ (S144 : st_T) (u0_144 : Int32), j_X9_part_144 a0 r1 S144 u0_144 = some (rr, SE) → ∀ (H : Heap) (locs : List Loc) (ls : Array Slot), st_HP X (st_A S) S144 H → va_S (st_A S) s.heap H locs → lv_has ls 2 [(0, .ref a0), (1, .int r1)] → W p l e { frames := 2, cells := 0, slots := 0, locals := 43 } s m args below meth c H locs 0 0 (MQ below (st_Q X (st_A S) (some (.int rr)) SE) args s 0 0 (st_A S)) (F0 m 144 ls [.int u0_144, .ref a0]) := by
            intro S144 u0_144 Hf H locs ls hP hS hl
            unfold j_X9_part_144 at Hf
            refine lv_iload_n hx hb dX9_part_144 rfl (lv_at hl 1 rfl) ?_
            have hJ164 : ∀ (S164 : st_T) (u0_164 : Int32), j_X9_part_164 a0 u0_144 S164 u0_164 = some (rr, SE) → ∀ (H : Heap) (locs : List Loc) (ls : Array Slot), st_HP X (st_A S) S164 H → va_S (st_A S) s.heap H locs → lv_has ls 2 [(0, .ref a0)] → W p l e { frames := 2, cells := 0, slots := 0, locals := 43 } s m args below meth c H locs 0 0 (MQ below (st_Q X (st_A S) (some (.int rr)) SE) args s 0 0 (st_A S)) (F0 m 164 ls [.int u0_164, .int u0_144, .ref a0]) := by
              intro S164 u0_164 Hf H locs ls hP hS hl
              unfold j_X9_part_164 at Hf
              obtain ⟨hk_a0, Hf⟩ := c_g_some Hf
              obtain ⟨r164, T164, hq164, Hf⟩ := c_c_some Hf
              refine r_cV (n := 2) (As := [.int u0_144, .int u0_164]) (rest := []) ⟨hx, hb, hml, hown, hts⟩ (s_X9_emit l X hq164) lkm_X9_221 (by decide +kernel) rfl (by decide) dX9_part_164 rfl rfl ⟨Nat.le_of_ble_eq_true rfl, Nat.le_of_ble_eq_true rfl⟩ hk_a0 rfl hl.1 (Nat.le_of_ble_eq_true rfl) ⟨Nat.le_of_ble_eq_true rfl, Nat.le_of_ble_eq_true rfl⟩ hK hRO hA hP hS (fun H locs hP hS => ?_)
              refine W.eq (g2 := F0 m 167 ls []) rfl ?_
              refine lv_aload_n hx hb dX9_part_167 rfl (lv_at hl 0 rfl) ?_
              refine lv_dup hx hb dX9_part_168 rfl ?_
              obtain ⟨hk_a0, Hf⟩ := c_g_some Hf
              refine fg_10_7 hx hb hts hown hK hP hk_a0 lkf_X9_164 dX9_part_169 ?_
              refine lv_iconst (v := 1) hx hb dX9_part_172 (by decide) ?_
              refine lv_iadd hx hb dX9_part_173 ?_
              refine fp_10_7 hx hb hts hown hK hP hS hk_a0 lkf_X9_164 dX9_part_174 (fun H locs hP hS => ?_)
              obtain ⟨S_174, eS_174, Hf⟩ := c_l_ex Hf
              have hP : st_HP X (st_A S) S_174 H := by rw [eS_174]; exact hP
              refine lv_iconst (v := 0) hx hb dX9_part_177 (by decide) ?_
              cases Hf
              exact r_zret hx hb hr rfl (Or.inl rfl) hlocks dX9_part_178 (Nat.le_of_ble_eq_true rfl) (Nat.le_of_ble_eq_true rfl) hP hS
            refine lv_if_ge hx hb dX9_part_145 (tgt := 161) (by decide) (fun hc => ?_) (fun hc => ?_)
            · have Hf := c_i_t Hf hc
              refine lv_iload_n hx hb dX9_part_161 rfl (lv_at hl 1 rfl) ?_
              refine lv_iconst (v := 3) hx hb dX9_part_162 (by decide) ?_
              refine lv_isub hx hb dX9_part_163 ?_
              exact hJ164 S144 (r1 - 3) Hf _ _ _ hP hS (lv_sub hl [0] rfl)
            have Hf := c_i_f Hf hc
            refine lv_aload_n hx hb dX9_part_148 rfl (lv_at hl 0 rfl) ?_
            obtain ⟨hk_a0, Hf⟩ := c_g_some Hf
            obtain ⟨q149, hq149, Hf⟩ := c_n_some Hf
            refine fg_10_6 hx hb hts hown hK hP hk_a0 lkf_X9_19 hq149 dX9_part_149 ?_
            refine lv_aload_n hx hb dX9_part_152 rfl (lv_at hl 0 rfl) ?_
            refine fg_10_7 hx hb hts hown hK hP hk_a0 lkf_X9_164 dX9_part_153 ?_
            obtain ⟨hk_q149, Hf⟩ := c_g_some Hf
            obtain ⟨hi156, Hf⟩ := c_g_some Hf
            refine r_lald hx hb hK hP hk_q149 hi156 dX9_part_156 ?_
            refine lv_l2i (v := ((st_rl S144 q149 ((st_fi S144 1007 a0) : Int32).toNatClampNeg) : Int64).toInt32) hx hb dX9_part_157 rfl ?_
            refine lv_goto hx hb dX9_part_158 (tgt := 164) (by decide) ?_
            exact hJ164 S144 (((st_rl S144 q149 ((st_fi S144 1007 a0) : Int32).toNatClampNeg) : Int64).toInt32) Hf _ _ _ hP hS (lv_sub hl [0] rfl)
          refine lv_if_ge hx hb dX9_part_136 (tgt := 143) (by decide) (fun hc => ?_) (fun hc => ?_)
          · have Hf := c_i_t Hf hc
            refine lv_iconst (v := 2) hx hb dX9_part_143 (by decide) ?_
            exact hJ144 S134 2 Hf _ _ _ hP hS (lv_sub hl [0, 1] rfl)
          have Hf := c_i_f Hf hc
          refine lv_iconst (v := 1) hx hb dX9_part_139 (by decide) ?_
          refine lv_goto hx hb dX9_part_140 (tgt := 144) (by decide) ?_
          exact hJ144 S134 1 Hf _ _ _ hP hS (lv_sub hl [0, 1] rfl)
        refine lv_if_lt hx hb dX9_part_94 (tgt := 134) (by decide) (fun hc => ?_) (fun hc => ?_)
        · have Hf := c_i_t Hf hc
          exact hJ134 T71 Hf _ _ _ hP hS (lv_sub hl [0, 1] rfl)
        have Hf := c_i_f Hf hc
        refine lv_iload_n hx hb dX9_part_97 rfl (lv_at hl 1 rfl) ?_
        refine lv_iconst (v := 3) hx hb dX9_part_98 (by decide) ?_
        refine lv_icmp_ge hx hb dX9_part_99 (tgt := 134) (by decide) (fun hc => ?_) (fun hc => ?_)
        · have Hf := c_i_t Hf hc
          exact hJ134 T71 Hf _ _ _ hP hS (lv_sub hl [0, 1] rfl)
        have Hf := c_i_f Hf hc
        refine lv_aload_n hx hb dX9_part_102 rfl (lv_at hl 0 rfl) ?_
        refine lv_dup hx hb dX9_part_103 rfl ?_
        obtain ⟨hk_a0, Hf⟩ := c_g_some Hf
        refine fg_10_7 hx hb hts hown hK hP hk_a0 lkf_X9_164 dX9_part_104 ?_
        refine lv_iconst (v := 1) hx hb dX9_part_107 (by decide) ?_
        refine lv_iadd hx hb dX9_part_108 ?_
        refine fp_10_7 hx hb hts hown hK hP hS hk_a0 lkf_X9_164 dX9_part_109 (fun H locs hP hS => ?_)
        obtain ⟨S_109, eS_109, Hf⟩ := c_l_ex Hf
        have hP : st_HP X (st_A S) S_109 H := by rw [eS_109]; exact hP
        refine lv_aload_n hx hb dX9_part_112 rfl (lv_at hl 0 rfl) ?_
        refine lv_bipush (v := 8) hx hb dX9_part_113 (by decide) ?_
        refine lv_sipush (v := 256) hx hb dX9_part_115 (by decide) ?_
        refine lv_iload_n hx hb dX9_part_118 rfl (lv_at hl 1 rfl) ?_
        refine lv_imul hx hb dX9_part_119 ?_
        refine lv_aload_n hx hb dX9_part_120 rfl (lv_at hl 0 rfl) ?_
        refine lv_iconst (v := 1) hx hb dX9_part_121 (by decide) ?_
        refine lv_sipush (v := 200) hx hb dX9_part_122 (by decide) ?_
        have hk_a0 : st_K S_109 a0 = 11 := by rw [kp_pi eS_109]; exact hk_a0
        obtain ⟨r125, T125, hq125, Hf⟩ := c_c_some Hf
        refine r_cV (n := 2) (As := [.int 1, .int 200]) (rest := [.int (256 * r1), .int 8, .ref a0]) ⟨hx, hb, hml, hown, hts⟩ (s_X9_takeNumber l X hq125) lkm_X9_195 (by decide +kernel) rfl (by decide) dX9_part_125 rfl rfl ⟨Nat.le_of_ble_eq_true rfl, Nat.le_of_ble_eq_true rfl⟩ hk_a0 rfl hl.1 (Nat.le_of_ble_eq_true rfl) ⟨Nat.le_of_ble_eq_true rfl, Nat.le_of_ble_eq_true rfl⟩ hK hRO hA hP hS (fun H locs hP hS => ?_)
        refine W.eq (g2 := F0 m 128 ls [.int r125, .int (256 * r1), .int 8, .ref a0]) rfl ?_
        refine lv_iadd hx hb dX9_part_128 ?_
        obtain ⟨hk_a0, Hf⟩ := c_g_some Hf
        obtain ⟨r129, T129, hq129, Hf⟩ := c_c_some Hf
        refine r_cV (n := 2) (As := [.int 8, .int ((256 * r1) + r125)]) (rest := []) ⟨hx, hb, hml, hown, hts⟩ (s_X9_emit l X hq129) lkm_X9_221 (by decide +kernel) rfl (by decide) dX9_part_129 rfl rfl ⟨Nat.le_of_ble_eq_true rfl, Nat.le_of_ble_eq_true rfl⟩ hk_a0 rfl hl.1 (Nat.le_of_ble_eq_true rfl) ⟨Nat.le_of_ble_eq_true rfl, Nat.le_of_ble_eq_true rfl⟩ hK hRO hA hP hS (fun H locs hP hS => ?_)
        refine W.eq (g2 := F0 m 132 ls []) rfl ?_
        refine lv_iconst (v := 0) hx hb dX9_part_132 (by decide) ?_
        cases Hf
        exact r_zret hx hb hr rfl (Or.inl rfl) hlocks dX9_part_133 (Nat.le_of_ble_eq_true rfl) (Nat.le_of_ble_eq_true rfl) hP hS
      have Hf := c_i_f Hf hc
      refine lv_aload_n hx hb dX9_part_77 rfl (lv_at hl 0 rfl) ?_
      refine lv_dup hx hb dX9_part_78 rfl ?_
      obtain ⟨hk_a0, Hf⟩ := c_g_some Hf
      refine fg_10_19 hx hb hts hown hK hP hk_a0 lkf_X9_208 dX9_part_79 ?_
      refine lv_iconst (v := 1) hx hb dX9_part_82 (by decide) ?_
      refine lv_iadd hx hb dX9_part_83 ?_
      refine fp_10_19 hx hb hts hown hK hP hS hk_a0 lkf_X9_208 dX9_part_84 (fun H locs hP hS => ?_)
      obtain ⟨S_84, eS_84, Hf⟩ := c_l_ex Hf
      have hP : st_HP X (st_A S) S_84 H := by rw [eS_84]; exact hP
      refine lv_aload_n hx hb dX9_part_87 rfl (lv_at hl 0 rfl) ?_
      have hk_a0 : st_K S_84 a0 = 11 := by rw [kp_pi eS_84]; exact hk_a0
      obtain ⟨r88, T88, hq88, Hf⟩ := c_c_some Hf
      refine r_cV (n := 0) (As := []) (rest := []) ⟨hx, hb, hml, hown, hts⟩ (s_X9_opens l X hq88) lkm_X9_211 (by decide +kernel) rfl (by decide) dX9_part_88 rfl rfl ⟨Nat.le_of_ble_eq_true rfl, Nat.le_of_ble_eq_true rfl⟩ hk_a0 rfl hl.1 (Nat.le_of_ble_eq_true rfl) ⟨Nat.le_of_ble_eq_true rfl, Nat.le_of_ble_eq_true rfl⟩ hK hRO hA hP hS (fun H locs hP hS => ?_)
      refine W.eq (g2 := F0 m 91 ls []) rfl ?_
      refine lv_iconst (v := 1) hx hb dX9_part_91 (by decide) ?_
      cases Hf
      exact r_zret hx hb hr rfl (Or.inr rfl) hlocks dX9_part_92 (Nat.le_of_ble_eq_true rfl) (Nat.le_of_ble_eq_true rfl) hP hS
    have Hf := c_i_f Hf hc
    refine lv_iconst (v := 0) hx hb dX9_part_66 (by decide) ?_
    cases Hf
    exact r_zret hx hb hr rfl (Or.inl rfl) hlocks dX9_part_67 (Nat.le_of_ble_eq_true rfl) (Nat.le_of_ble_eq_true rfl) hP hS
  have hJ46 : ∀ (S46 : st_T), j_X9_part_46 a0 r1 S46 = some (rr, SE) → ∀ (H : Heap) (locs : List Loc) (ls : Array Slot), st_HP X (st_A S) S46 H → va_S (st_A S) s.heap H locs → lv_has ls 2 [(0, .ref a0), (1, .int r1)] → W p l e { frames := 2, cells := 0, slots := 0, locals := 43 } s m args below meth c H locs 0 0 (MQ below (st_Q X (st_A S) (some (.int rr)) SE) args s 0 0 (st_A S)) (F0 m 46 ls []) := by
    intro S46 Hf H locs ls hP hS hl
    unfold j_X9_part_46 at Hf
    refine lv_aload_n hx hb dX9_part_46 rfl (lv_at hl 0 rfl) ?_
    obtain ⟨hk_a0, Hf⟩ := c_g_some Hf
    refine fg_10_19 hx hb hts hown hK hP hk_a0 lkf_X9_208 dX9_part_47 ?_
    refine lv_iconst (v := 5) hx hb dX9_part_50 (by decide) ?_
    refine lv_icmp_ne hx hb dX9_part_51 (tgt := 59) (by decide) (fun hc => ?_) (fun hc => ?_)
    · have Hf := c_i_f Hf hc
      exact hJ59 S46 Hf _ _ _ hP hS (lv_sub hl [0, 1] rfl)
    have Hf := c_i_t Hf hc
    refine lv_aload_n hx hb dX9_part_54 rfl (lv_at hl 0 rfl) ?_
    refine lv_iconst (v := 5) hx hb dX9_part_55 (by decide) ?_
    obtain ⟨r56, T56, hq56, Hf⟩ := c_c_some Hf
    refine r_cV (n := 1) (As := [.int 5]) (rest := []) ⟨hx, hb, hml, hown, hts⟩ (s_X9_wrong l X hq56) lkm_X9_173 (by decide +kernel) rfl (by decide) dX9_part_56 rfl rfl ⟨Nat.le_of_ble_eq_true rfl, Nat.le_of_ble_eq_true rfl⟩ hk_a0 rfl hl.1 (Nat.le_of_ble_eq_true rfl) ⟨Nat.le_of_ble_eq_true rfl, Nat.le_of_ble_eq_true rfl⟩ hK hRO hA hP hS (fun H locs hP hS => ?_)
    refine W.eq (g2 := F0 m 59 ls []) rfl ?_
    exact hJ59 T56 Hf _ _ _ hP hS (lv_sub hl [0, 1] rfl)
  refine lv_if_ne hx hb dX9_part_9 (tgt := 46) (by decide) (fun hc => ?_) (fun hc => ?_)
  · have Hf := c_i_f Hf hc
    exact hJ46 T1 Hf _ _ _ hP hS (lv_sub hl [1, 0] rfl)
  have Hf := c_i_t Hf hc
  refine lv_aload_n hx hb dX9_part_12 rfl (lv_at hl 1 rfl) ?_
  obtain ⟨q13, hq13, Hf⟩ := c_n_some Hf
  refine fg_10_4 hx hb hts hown hK hP hk_a0 lkf_X9_13 hq13 dX9_part_13 ?_
  refine lv_aload_n hx hb dX9_part_16 rfl (lv_at hl 1 rfl) ?_
  refine fg_10_7 hx hb hts hown hK hP hk_a0 lkf_X9_164 dX9_part_17 ?_
  obtain ⟨hk_q13, Hf⟩ := c_g_some Hf
  obtain ⟨hi20, Hf⟩ := c_g_some Hf
  refine r_iald hx hb hK hP hk_q13 hi20 dX9_part_20 ?_
  refine lv_iconst (v := 2) hx hb dX9_part_21 (by decide) ?_
  refine lv_icmp_eq hx hb dX9_part_22 (tgt := 46) (by decide) (fun hc => ?_) (fun hc => ?_)
  · have Hf := c_i_t Hf hc
    exact hJ46 T1 Hf _ _ _ hP hS (lv_sub hl [1, 0] rfl)
  have Hf := c_i_f Hf hc
  refine lv_aload_n hx hb dX9_part_25 rfl (lv_at hl 1 rfl) ?_
  refine lv_bipush (v := 40) hx hb dX9_part_26 (by decide) ?_
  obtain ⟨r28, T28, hq28, Hf⟩ := c_c_some Hf
  refine r_cV (n := 1) (As := [.int 40]) (rest := []) ⟨hx, hb, hml, hown, hts⟩ (s_X9_isSign l X hq28) lkm_X9_170 (by decide +kernel) rfl (by decide) dX9_part_28 rfl rfl ⟨Nat.le_of_ble_eq_true rfl, Nat.le_of_ble_eq_true rfl⟩ hk_a0 rfl hl.1 (Nat.le_of_ble_eq_true rfl) ⟨Nat.le_of_ble_eq_true rfl, Nat.le_of_ble_eq_true rfl⟩ hK hRO hA hP hS (fun H locs hP hS => ?_)
  refine W.eq (g2 := F0 m 31 ls [.int r28]) rfl ?_
  refine lv_if_ne hx hb dX9_part_31 (tgt := 46) (by decide) (fun hc => ?_) (fun hc => ?_)
  · have Hf := c_i_f Hf hc
    exact hJ46 T28 Hf _ _ _ hP hS (lv_sub hl [1, 0] rfl)
  have Hf := c_i_t Hf hc
  refine lv_iload_n hx hb dX9_part_34 rfl (lv_at hl 0 rfl) ?_
  refine lv_if_ge hx hb dX9_part_35 (tgt := 46) (by decide) (fun hc => ?_) (fun hc => ?_)
  · have Hf := c_i_t Hf hc
    exact hJ46 T28 Hf _ _ _ hP hS (lv_sub hl [1, 0] rfl)
  have Hf := c_i_f Hf hc
  refine lv_aload_n hx hb dX9_part_38 rfl (lv_at hl 1 rfl) ?_
  refine lv_iconst (v := 1) hx hb dX9_part_39 (by decide) ?_
  obtain ⟨hk_a0, Hf⟩ := c_g_some Hf
  obtain ⟨r40, T40, hq40, Hf⟩ := c_c_some Hf
  refine r_cV (n := 1) (As := [.int 1]) (rest := []) ⟨hx, hb, hml, hown, hts⟩ (s_X9_wrong l X hq40) lkm_X9_173 (by decide +kernel) rfl (by decide) dX9_part_40 rfl rfl ⟨Nat.le_of_ble_eq_true rfl, Nat.le_of_ble_eq_true rfl⟩ hk_a0 rfl hl.1 (Nat.le_of_ble_eq_true rfl) ⟨Nat.le_of_ble_eq_true rfl, Nat.le_of_ble_eq_true rfl⟩ hK hRO hA hP hS (fun H locs hP hS => ?_)
  refine W.eq (g2 := F0 m 43 ls []) rfl ?_
  refine lv_goto hx hb dX9_part_43 (tgt := 59) (by decide) ?_
  exact hJ59 T40 Hf _ _ _ hP hS (lv_sub hl [1, 0] rfl)

def j_X9_goesOnBehind_83 (a0 : Nat) (S61 : st_T) (q62 : Nat) (S83 : st_T) (u0_83 : Int32) : Option (Int32 × st_T) :=
  (c_g (st_K S83 q62 = 20) (c_g (c_in (st_fi S61 1019 a0) (st_ln S83 q62)) (c_l (st_wi S83 q62 ((st_fi S61 1019 a0) : Int32).toNatClampNeg u0_83) (fun (S_83 : st_T) => (c_g (st_K S_83 a0 = 11) (c_l (st_pi S_83 1007 a0 ((st_fi S_83 1007 a0) + 1)) (fun (S_91 : st_T) => (some (1, S_91)))))))))
def j_X9_goesOnBehind_61 (a0 : Nat) (S61 : st_T) : Option (Int32 × st_T) :=
  (c_g (st_K S61 a0 = 11) (c_n (st_fr S61 1020 a0) (fun (q62 : Nat) => (c_c (f_X9_isSign S61 a0 43) (fun (r72 : Int32) (T72 : st_T) => (c_i (r72 = 0) (j_X9_goesOnBehind_83 a0 S61 q62 T72 4) (j_X9_goesOnBehind_83 a0 S61 q62 T72 3)))))))
def j_X9_goesOnBehind_218 (a0 : Nat) (rec0 : st_T → Option (Int32 × st_T)) (S218 : st_T) : Option (Int32 × st_T) :=
  (c_g (st_K S218 a0 = 11) (c_c (f_X9_isWord S218 a0 3) (fun (r220 : Int32) (T220 : st_T) => (c_i (r220 = 0) (c_g (st_K T220 a0 = 11) (c_i ((st_fi T220 1019 a0) = 0) (some (0, T220)) (c_c (f_X9_takeSign T220 a0 41) (fun (r261 : Unit) (T261 : st_T) => (c_g (st_K T261 a0 = 11) (c_l (st_pi T261 1019 a0 ((st_fi T261 1019 a0) - 1)) (fun (S_271 : st_T) => (rec0 (S_271))))))))) (c_g (st_K T220 a0 = 11) (c_n (st_fr T220 1022 a0) (fun (q227 : Nat) => (c_g (st_K T220 q227 = 20) (c_g (c_in (st_fi T220 1019 a0) (st_ln T220 q227)) (c_l (st_wi T220 q227 ((st_fi T220 1019 a0) : Int32).toNatClampNeg 7) (fun (S_236 : st_T) => (c_l (st_pi S_236 1007 a0 ((st_fi S_236 1007 a0) + 1)) (fun (S_244 : st_T) => (some (1, S_244)))))))))))))))
def j_X9_goesOnBehind_189 (a0 : Nat) (rec0 : st_T → Option (Int32 × st_T)) (S189 : st_T) : Option (Int32 × st_T) :=
  (c_g (st_K S189 a0 = 11) (c_n (st_fr S189 1022 a0) (fun (q190 : Nat) => (c_g (st_K S189 q190 = 20) (c_g (c_in (st_fi S189 1019 a0) (st_ln S189 q190)) (c_i ((st_ri S189 q190 ((st_fi S189 1019 a0) : Int32).toNatClampNeg) = 0) (j_X9_goesOnBehind_218 a0 rec0 S189) (c_c (f_X9_emit S189 a0 7 0) (fun (r205 : Unit) (T205 : st_T) => (c_g (st_K T205 a0 = 11) (c_n (st_fr T205 1022 a0) (fun (q209 : Nat) => (c_g (st_K T205 q209 = 20) (c_g (c_in (st_fi T205 1019 a0) (st_ln T205 q209)) (c_l (st_wi T205 q209 ((st_fi T205 1019 a0) : Int32).toNatClampNeg 0) (fun (S_217 : st_T) => (j_X9_goesOnBehind_218 a0 rec0 S_217))))))))))))))))
def j_X9_goesOnBehind_176 (a0 : Nat) (S153 : st_T) (q154 : Nat) (S176 : st_T) (u0_176 : Int32) : Option (Int32 × st_T) :=
  (c_g (st_K S176 q154 = 20) (c_g (c_in (st_fi S153 1019 a0) (st_ln S176 q154)) (c_l (st_wi S176 q154 ((st_fi S153 1019 a0) : Int32).toNatClampNeg u0_176) (fun (S_176 : st_T) => (c_g (st_K S_176 a0 = 11) (c_l (st_pi S_176 1007 a0 ((st_fi S_176 1007 a0) + 1)) (fun (S_184 : st_T) => (some (1, S_184)))))))))
def j_X9_goesOnBehind_153 (a0 : Nat) (S153 : st_T) : Option (Int32 × st_T) :=
  (c_g (st_K S153 a0 = 11) (c_n (st_fr S153 1021 a0) (fun (q154 : Nat) => (c_c (f_X9_isSign S153 a0 60) (fun (r164 : Int32) (T164 : st_T) => (c_i (r164 = 0) (j_X9_goesOnBehind_176 a0 S153 q154 T164 6) (j_X9_goesOnBehind_176 a0 S153 q154 T164 5)))))))
def j_X9_goesOnBehind_43 (a0 : Nat) (rec0 : st_T → Option (Int32 × st_T)) (S43 : st_T) : Option (Int32 × st_T) :=
  (c_g (st_K S43 a0 = 11) (c_c (f_X9_isSign S43 a0 43) (fun (r46 : Int32) (T46 : st_T) => (c_i (r46 = 0) (c_g (st_K T46 a0 = 11) (c_c (f_X9_isSign T46 a0 45) (fun (r55 : Int32) (T55 : st_T) => (c_i (r55 = 0) (c_g (st_K T55 a0 = 11) (c_n (st_fr T55 1021 a0) (fun (q97 : Nat) => (c_g (st_K T55 q97 = 20) (c_g (c_in (st_fi T55 1019 a0) (st_ln T55 q97)) (c_i ((st_ri T55 q97 ((st_fi T55 1019 a0) : Int32).toNatClampNeg) = 0) (c_c (f_X9_isSign T55 a0 60) (fun (r138 : Int32) (T138 : st_T) => (c_i (r138 = 0) (c_g (st_K T138 a0 = 11) (c_c (f_X9_isSign T138 a0 61) (fun (r147 : Int32) (T147 : st_T) => (c_i (r147 = 0) (j_X9_goesOnBehind_189 a0 rec0 T147) (j_X9_goesOnBehind_153 a0 T147))))) (j_X9_goesOnBehind_153 a0 T138)))) (c_g (c_in (st_fi T55 1019 a0) (st_ln T55 q97)) (c_c (f_X9_emit T55 a0 (st_ri T55 q97 ((st_fi T55 1019 a0) : Int32).toNatClampNeg) 0) (fun (r119 : Unit) (T119 : st_T) => (c_g (st_K T119 a0 = 11) (c_n (st_fr T119 1021 a0) (fun (q123 : Nat) => (c_g (st_K T119 q123 = 20) (c_g (c_in (st_fi T119 1019 a0) (st_ln T119 q123)) (c_l (st_wi T119 q123 ((st_fi T119 1019 a0) : Int32).toNatClampNeg 0) (fun (S_131 : st_T) => (j_X9_goesOnBehind_189 a0 rec0 S_131))))))))))))))))) (j_X9_goesOnBehind_61 a0 T55))))) (j_X9_goesOnBehind_61 a0 T46)))))
def b_X9_goesOnBehind_0 (a0 : Nat) (rec0 : st_T → Option (Int32 × st_T)) (q : st_T) : Option (Int32 × st_T) :=
  (fun (S0 : st_T) =>
  (c_g (st_K S0 a0 = 11) (c_i ((st_fi S0 1008 a0) = 0) (c_n (st_fr S0 1020 a0) (fun (q8 : Nat) => (c_g (st_K S0 q8 = 20) (c_g (c_in (st_fi S0 1019 a0) (st_ln S0 q8)) (c_i ((st_ri S0 q8 ((st_fi S0 1019 a0) : Int32).toNatClampNeg) = 0) (j_X9_goesOnBehind_43 a0 rec0 S0) (c_g (c_in (st_fi S0 1019 a0) (st_ln S0 q8)) (c_c (f_X9_emit S0 a0 (st_ri S0 q8 ((st_fi S0 1019 a0) : Int32).toNatClampNeg) 0) (fun (r30 : Unit) (T30 : st_T) => (c_g (st_K T30 a0 = 11) (c_n (st_fr T30 1020 a0) (fun (q34 : Nat) => (c_g (st_K T30 q34 = 20) (c_g (c_in (st_fi T30 1019 a0) (st_ln T30 q34)) (c_l (st_wi T30 q34 ((st_fi T30 1019 a0) : Int32).toNatClampNeg 0) (fun (S_42 : st_T) => (j_X9_goesOnBehind_43 a0 rec0 S_42)))))))))))))))) (some (0, S0))))) q
def f_X9_goesOnBehind (S : st_T) (a0 : Nat) : Option (Int32 × st_T) :=
  (c_w (b_X9_goesOnBehind_0 a0) c_N S)
set_option maxRecDepth 100000 in
set_option maxHeartbeats 4000000 in
theorem s_X9_goesOnBehind (l : Launch) (X : st_I) {S SE : st_T} {a0 : Nat} {rr : Int32} (Hf : f_X9_goesOnBehind S a0 = some (rr, SE)) : Met l yX9_goesOnBehind (Cond.code yX9_goesOnBehind cX9_goesOnBehind 1 (some .boolean) :: lw_g) { frames := 2, cells := 0, slots := 0, locals := 42 } (st_P X S [.ref a0]) (st_Q X (st_A S) (some (.int rr)) SE) 0 0 (st_A S) := by
  refine st_ofW (by decide) (Nat.le_of_ble_eq_true rfl) ?_
  intro p e s m args below meth c hx hb hr hml hlocks hnm hts hown hK hRO hA hP hS ls hl
  have hown : s.vm.findClass RX9 = some m.cls := hown
  have hl : lv_has ls 1 [(0, .ref a0)] := hl
  unfold f_X9_goesOnBehind at Hf
  refine (c_w_ind (P := fun (q : st_T) => ∀ (H : Heap) (locs : List Loc) (ls : Array Slot), st_HP X (st_A S) q H → va_S (st_A S) s.heap H locs → lv_has ls 1 [(0, .ref a0)] → W p l e { frames := 2, cells := 0, slots := 0, locals := 42 } s m args below meth c H locs 0 0 (MQ below (st_Q X (st_A S) (some (.int rr)) SE) args s 0 0 (st_A S)) (F0 m 0 ls [])) ?_ _ _ Hf) _ _ _ hP hS (lv_sub hl [0] rfl)
  intro rec0 hrec0 q Hf H locs ls hP hS hl
  obtain ⟨S0, rfl⟩ : ∃ z, z = q := ⟨q, rfl⟩
  unfold b_X9_goesOnBehind_0 at Hf
  try dsimp only at Hf
  try dsimp only at hP
  try dsimp only at hl
  try dsimp only
  refine lv_aload_n hx hb dX9_goesOnBehind_0 rfl (lv_at hl 0 rfl) ?_
  obtain ⟨hk_a0, Hf⟩ := c_g_some Hf
  refine fg_10_8 hx hb hts hown hK hP hk_a0 lkf_X9_167 dX9_goesOnBehind_1 ?_
  refine lv_if_ne hx hb dX9_goesOnBehind_4 (tgt := 277) (by decide) (fun hc => ?_) (fun hc => ?_)
  · have Hf := c_i_f Hf hc
    refine lv_iconst (v := 0) hx hb dX9_goesOnBehind_277 (by decide) ?_
    cases Hf
    exact r_zret hx hb hr rfl (Or.inl rfl) hlocks dX9_goesOnBehind_278 (Nat.le_of_ble_eq_true rfl) (Nat.le_of_ble_eq_true rfl) hP hS
  have Hf := c_i_t Hf hc
  refine lv_aload_n hx hb dX9_goesOnBehind_7 rfl (lv_at hl 0 rfl) ?_
  obtain ⟨q8, hq8, Hf⟩ := c_n_some Hf
  refine fg_10_20 hx hb hts hown hK hP hk_a0 lkf_X9_76 hq8 dX9_goesOnBehind_8 ?_
  refine lv_aload_n hx hb dX9_goesOnBehind_11 rfl (lv_at hl 0 rfl) ?_
  refine fg_10_19 hx hb hts hown hK hP hk_a0 lkf_X9_208 dX9_goesOnBehind_12 ?_
  obtain ⟨hk_q8, Hf⟩ := c_g_some Hf
  obtain ⟨hi15, Hf⟩ := c_g_some Hf
  refine r_iald hx hb hK hP hk_q8 hi15 dX9_goesOnBehind_15 ?_
  have hJ43 : ∀ (S43 : st_T), j_X9_goesOnBehind_43 a0 rec0 S43 = some (rr, SE) → ∀ (H : Heap) (locs : List Loc) (ls : Array Slot), st_HP X (st_A S) S43 H → va_S (st_A S) s.heap H locs → lv_has ls 1 [(0, .ref a0)] → W p l e { frames := 2, cells := 0, slots := 0, locals := 42 } s m args below meth c H locs 0 0 (MQ below (st_Q X (st_A S) (some (.int rr)) SE) args s 0 0 (st_A S)) (F0 m 43 ls []) := by
    intro S43 Hf H locs ls hP hS hl
    unfold j_X9_goesOnBehind_43 at Hf
    refine lv_aload_n hx hb dX9_goesOnBehind_43 rfl (lv_at hl 0 rfl) ?_
    refine lv_bipush (v := 43) hx hb dX9_goesOnBehind_44 (by decide) ?_
    obtain ⟨hk_a0, Hf⟩ := c_g_some Hf
    obtain ⟨r46, T46, hq46, Hf⟩ := c_c_some Hf
    refine r_cV (n := 1) (As := [.int 43]) (rest := []) ⟨hx, hb, hml, hown, hts⟩ (s_X9_isSign l X hq46) lkm_X9_170 (by decide +kernel) rfl (by decide) dX9_goesOnBehind_46 rfl rfl ⟨Nat.le_of_ble_eq_true rfl, Nat.le_of_ble_eq_true rfl⟩ hk_a0 rfl hl.1 (Nat.le_of_ble_eq_true rfl) ⟨Nat.le_of_ble_eq_true rfl, Nat.le_of_ble_eq_true rfl⟩ hK hRO hA hP hS (fun H locs hP hS => ?_)
    refine W.eq (g2 := F0 m 49 ls [.int r46]) rfl ?_
    have hJ61 : ∀ (S61 : st_T), j_X9_goesOnBehind_61 a0 S61 = some (rr, SE) → ∀ (H : Heap) (locs : List Loc) (ls : Array Slot), st_HP X (st_A S) S61 H → va_S (st_A S) s.heap H locs → lv_has ls 1 [(0, .ref a0)] → W p l e { frames := 2, cells := 0, slots := 0, locals := 42 } s m args below meth c H locs 0 0 (MQ below (st_Q X (st_A S) (some (.int rr)) SE) args s 0 0 (st_A S)) (F0 m 61 ls []) := by
      intro S61 Hf H locs ls hP hS hl
      unfold j_X9_goesOnBehind_61 at Hf
      refine lv_aload_n hx hb dX9_goesOnBehind_61 rfl (lv_at hl 0 rfl) ?_
      obtain ⟨hk_a0, Hf⟩ := c_g_some Hf
      obtain ⟨q62, hq62, Hf⟩ := c_n_some Hf
      refine fg_10_20 hx hb hts hown hK hP hk_a0 lkf_X9_76 hq62 dX9_goesOnBehind_62 ?_
      refine lv_aload_n hx hb dX9_goesOnBehind_65 rfl (lv_at hl 0 rfl) ?_
      refine fg_10_19 hx hb hts hown hK hP hk_a0 lkf_X9_208 dX9_goesOnBehind_66 ?_
      refine lv_aload_n hx hb dX9_goesOnBehind_69 rfl (lv_at hl 0 rfl) ?_
      refine lv_bipush (v := 43) hx hb dX9_goesOnBehind_70 (by decide) ?_
      obtain ⟨r72, T72, hq72, Hf⟩ := c_c_some Hf
      refine r_cV (n := 1) (As := [.int 43]) (rest := [.int (st_fi S61 1019 a0), .ref q62]) ⟨hx, hb, hml, hown, hts⟩ (s_X9_isSign l X hq72) lkm_X9_170 (by decide +kernel) rfl (by decide) dX9_goesOnBehind_72 rfl rfl ⟨Nat.le_of_ble_eq_true rfl, Nat.le_of_ble_eq_true rfl⟩ hk_a0 rfl hl.1 (Nat.le_of_ble_eq_true rfl) ⟨Nat.le_of_ble_eq_true rfl, Nat.le_of_ble_eq_true rfl⟩ hK hRO hA hP hS (fun H locs hP hS => ?_)
      refine W.eq (g2 := F0 m 75 ls [.int r72, .int (st_fi S61 1019 a0), .ref q62]) rfl ?_
      have hJ83 : ∀ (S83 : st_T) (u0_83 : Int32), j_X9_goesOnBehind_83 a0 S61 q62 S83 u0_83 = some (rr, SE) → ∀ (H : Heap) (locs : List Loc) (ls : Array Slot), st_HP X (st_A S) S83 H → va_S (st_A S) s.heap H locs → lv_has ls 1 [(0, .ref a0)] → W p l e { frames := 2, cells := 0, slots := 0, locals := 42 } s m args below meth c H locs 0 0 (MQ below (st_Q X (st_A S) (some (.int rr)) SE) args s 0 0 (st_A S)) (F0 m 83 ls [.int u0_83, .int (st_fi S61 1019 a0), .ref q62]) := by
        intro S83 u0_83 Hf H locs ls hP hS hl
        unfold j_X9_goesOnBehind_83 at Hf
        obtain ⟨hk_q62, Hf⟩ := c_g_some Hf
        obtain ⟨hi83, Hf⟩ := c_g_some Hf
        refine r_iast hx hb hK hP hS hk_q62 hi83 dX9_goesOnBehind_83 (fun H locs hP hS => ?_)
        obtain ⟨S_83, eS_83, Hf⟩ := c_l_ex Hf
        have hP : st_HP X (st_A S) S_83 H := by rw [eS_83]; exact hP
        refine lv_aload_n hx hb dX9_goesOnBehind_84 rfl (lv_at hl 0 rfl) ?_
        refine lv_dup hx hb dX9_goesOnBehind_85 rfl ?_
        obtain ⟨hk_a0, Hf⟩ := c_g_some Hf
        refine fg_10_7 hx hb hts hown hK hP hk_a0 lkf_X9_164 dX9_goesOnBehind_86 ?_
        refine lv_iconst (v := 1) hx hb dX9_goesOnBehind_89 (by decide) ?_
        refine lv_iadd hx hb dX9_goesOnBehind_90 ?_
        refine fp_10_7 hx hb hts hown hK hP hS hk_a0 lkf_X9_164 dX9_goesOnBehind_91 (fun H locs hP hS => ?_)
        obtain ⟨S_91, eS_91, Hf⟩ := c_l_ex Hf
        have hP : st_HP X (st_A S) S_91 H := by rw [eS_91]; exact hP
        refine lv_iconst (v := 1) hx hb dX9_goesOnBehind_94 (by decide) ?_
        cases Hf
        exact r_zret hx hb hr rfl (Or.inr rfl) hlocks dX9_goesOnBehind_95 (Nat.le_of_ble_eq_true rfl) (Nat.le_of_ble_eq_true rfl) hP hS
      refine lv_if_eq hx hb dX9_goesOnBehind_75 (tgt := 82) (by decide) (fun hc => ?_) (fun hc => ?_)
      · have Hf := c_i_t Hf hc
        refine lv_iconst (v := 4) hx hb dX9_goesOnBehind_82 (by decide) ?_
        exact hJ83 T72 4 Hf _ _ _ hP hS (lv_sub hl [0] rfl)
      have Hf := c_i_f Hf hc
      refine lv_iconst (v := 3) hx hb dX9_goesOnBehind_78 (by decide) ?_
      refine lv_goto hx hb dX9_goesOnBehind_79 (tgt := 83) (by decide) ?_
      exact hJ83 T72 3 Hf _ _ _ hP hS (lv_sub hl [0] rfl)
    refine lv_if_ne hx hb dX9_goesOnBehind_49 (tgt := 61) (by decide) (fun hc => ?_) (fun hc => ?_)
    · have Hf := c_i_f Hf hc
      exact hJ61 T46 Hf _ _ _ hP hS (lv_sub hl [0] rfl)
    have Hf := c_i_t Hf hc
    refine lv_aload_n hx hb dX9_goesOnBehind_52 rfl (lv_at hl 0 rfl) ?_
    refine lv_bipush (v := 45) hx hb dX9_goesOnBehind_53 (by decide) ?_
    obtain ⟨hk_a0, Hf⟩ := c_g_some Hf
    obtain ⟨r55, T55, hq55, Hf⟩ := c_c_some Hf
    refine r_cV (n := 1) (As := [.int 45]) (rest := []) ⟨hx, hb, hml, hown, hts⟩ (s_X9_isSign l X hq55) lkm_X9_170 (by decide +kernel) rfl (by decide) dX9_goesOnBehind_55 rfl rfl ⟨Nat.le_of_ble_eq_true rfl, Nat.le_of_ble_eq_true rfl⟩ hk_a0 rfl hl.1 (Nat.le_of_ble_eq_true rfl) ⟨Nat.le_of_ble_eq_true rfl, Nat.le_of_ble_eq_true rfl⟩ hK hRO hA hP hS (fun H locs hP hS => ?_)
    refine W.eq (g2 := F0 m 58 ls [.int r55]) rfl ?_
    refine lv_if_eq hx hb dX9_goesOnBehind_58 (tgt := 96) (by decide) (fun hc => ?_) (fun hc => ?_)
    · have Hf := c_i_t Hf hc
      refine lv_aload_n hx hb dX9_goesOnBehind_96 rfl (lv_at hl 0 rfl) ?_
      obtain ⟨hk_a0, Hf⟩ := c_g_some Hf
      obtain ⟨q97, hq97, Hf⟩ := c_n_some Hf
      refine fg_10_21 hx hb hts hown hK hP hk_a0 lkf_X9_79 hq97 dX9_goesOnBehind_97 ?_
      refine lv_aload_n hx hb dX9_goesOnBehind_100 rfl (lv_at hl 0 rfl) ?_
      refine fg_10_19 hx hb hts hown hK hP hk_a0 lkf_X9_208 dX9_goesOnBehind_101 ?_
      obtain ⟨hk_q97, Hf⟩ := c_g_some Hf
      obtain ⟨hi104, Hf⟩ := c_g_some Hf
      refine r_iald hx hb hK hP hk_q97 hi104 dX9_goesOnBehind_104 ?_
      have hJ189 : ∀ (S189 : st_T), j_X9_goesOnBehind_189 a0 rec0 S189 = some (rr, SE) → ∀ (H : Heap) (locs : List Loc) (ls : Array Slot), st_HP X (st_A S) S189 H → va_S (st_A S) s.heap H locs → lv_has ls 1 [(0, .ref a0)] → W p l e { frames := 2, cells := 0, slots := 0, locals := 42 } s m args below meth c H locs 0 0 (MQ below (st_Q X (st_A S) (some (.int rr)) SE) args s 0 0 (st_A S)) (F0 m 189 ls []) := by
        intro S189 Hf H locs ls hP hS hl
        unfold j_X9_goesOnBehind_189 at Hf
        refine lv_aload_n hx hb dX9_goesOnBehind_189 rfl (lv_at hl 0 rfl) ?_
        obtain ⟨hk_a0, Hf⟩ := c_g_some Hf
        obtain ⟨q190, hq190, Hf⟩ := c_n_some Hf
        refine fg_10_22 hx hb hts hown hK hP hk_a0 lkf_X9_82 hq190 dX9_goesOnBehind_190 ?_
        refine lv_aload_n hx hb dX9_goesOnBehind_193 rfl (lv_at hl 0 rfl) ?_
        refine fg_10_19 hx hb hts hown hK hP hk_a0 lkf_X9_208 dX9_goesOnBehind_194 ?_
        obtain ⟨hk_q190, Hf⟩ := c_g_some Hf
        obtain ⟨hi197, Hf⟩ := c_g_some Hf
        refine r_iald hx hb hK hP hk_q190 hi197 dX9_goesOnBehind_197 ?_
        have hJ218 : ∀ (S218 : st_T), j_X9_goesOnBehind_218 a0 rec0 S218 = some (rr, SE) → ∀ (H : Heap) (locs : List Loc) (ls : Array Slot), st_HP X (st_A S) S218 H → va_S (st_A S) s.heap H locs → lv_has ls 1 [(0, .ref a0)] → W p l e { frames := 2, cells := 0, slots := 0, locals := 42 } s m args below meth c H locs 0 0 (MQ below (st_Q X (st_A S) (some (.int rr)) SE) args s 0 0 (st_A S)) (F0 m 218 ls []) := by
          intro S218 Hf H locs ls hP hS hl
          unfold j_X9_goesOnBehind_218 at Hf
          refine lv_aload_n hx hb dX9_goesOnBehind_218 rfl (lv_at hl 0 rfl) ?_
          refine lv_iconst (v := 3) hx hb dX9_goesOnBehind_219 (by decide) ?_
          obtain ⟨hk_a0, Hf⟩ := c_g_some Hf
          obtain ⟨r220, T220, hq220, Hf⟩ := c_c_some Hf
          refine r_cV (n := 1) (As := [.int 3]) (rest := []) ⟨hx, hb, hml, hown, hts⟩ (s_X9_isWord l X hq220) lkm_X9_177 (by decide +kernel) rfl (by decide) dX9_goesOnBehind_220 rfl rfl ⟨Nat.le_of_ble_eq_true rfl, Nat.le_of_ble_eq_true rfl⟩ hk_a0 rfl hl.1 (Nat.le_of_ble_eq_true rfl) ⟨Nat.le_of_ble_eq_true rfl, Nat.le_of_ble_eq_true rfl⟩ hK hRO hA hP hS (fun H locs hP hS => ?_)
          refine W.eq (g2 := F0 m 223 ls [.int r220]) rfl ?_
          refine lv_if_eq hx hb dX9_goesOnBehind_223 (tgt := 249) (by decide) (fun hc => ?_) (fun hc => ?_)
          · have Hf := c_i_t Hf hc
            refine lv_aload_n hx hb dX9_goesOnBehind_249 rfl (lv_at hl 0 rfl) ?_
            obtain ⟨hk_a0, Hf⟩ := c_g_some Hf
            refine fg_10_19 hx hb hts hown hK hP hk_a0 lkf_X9_208 dX9_goesOnBehind_250 ?_
            refine lv_if_ne hx hb dX9_goesOnBehind_253 (tgt := 258) (by decide) (fun hc => ?_) (fun hc => ?_)
            · have Hf := c_i_f Hf hc
              refine lv_aload_n hx hb dX9_goesOnBehind_258 rfl (lv_at hl 0 rfl) ?_
              refine lv_bipush (v := 41) hx hb dX9_goesOnBehind_259 (by decide) ?_
              obtain ⟨r261, T261, hq261, Hf⟩ := c_c_some Hf
              refine r_cV (n := 1) (As := [.int 41]) (rest := []) ⟨hx, hb, hml, hown, hts⟩ (s_X9_takeSign l X hq261) lkm_X9_199 (by decide +kernel) rfl (by decide) dX9_goesOnBehind_261 rfl rfl ⟨Nat.le_of_ble_eq_true rfl, Nat.le_of_ble_eq_true rfl⟩ hk_a0 rfl hl.1 (Nat.le_of_ble_eq_true rfl) ⟨Nat.le_of_ble_eq_true rfl, Nat.le_of_ble_eq_true rfl⟩ hK hRO hA hP hS (fun H locs hP hS => ?_)
              refine W.eq (g2 := F0 m 264 ls []) rfl ?_
              refine lv_aload_n hx hb dX9_goesOnBehind_264 rfl (lv_at hl 0 rfl) ?_
              refine lv_dup hx hb dX9_goesOnBehind_265 rfl ?_
              obtain ⟨hk_a0, Hf⟩ := c_g_some Hf
              refine fg_10_19 hx hb hts hown hK hP hk_a0 lkf_X9_208 dX9_goesOnBehind_266 ?_
              refine lv_iconst (v := 1) hx hb dX9_goesOnBehind_269 (by decide) ?_
              refine lv_isub hx hb dX9_goesOnBehind_270 ?_
              refine fp_10_19 hx hb hts hown hK hP hS hk_a0 lkf_X9_208 dX9_goesOnBehind_271 (fun H locs hP hS => ?_)
              obtain ⟨S_271, eS_271, Hf⟩ := c_l_ex Hf
              have hP : st_HP X (st_A S) S_271 H := by rw [eS_271]; exact hP
              refine lv_goto hx hb dX9_goesOnBehind_274 (tgt := 0) (by decide) ?_
              exact hrec0 (S_271) Hf _ _ _ hP hS (lv_sub hl [0] rfl)
            have Hf := c_i_t Hf hc
            refine lv_iconst (v := 0) hx hb dX9_goesOnBehind_256 (by decide) ?_
            cases Hf
            exact r_zret hx hb hr rfl (Or.inl rfl) hlocks dX9_goesOnBehind_257 (Nat.le_of_ble_eq_true rfl) (Nat.le_of_ble_eq_true rfl) hP hS
          have Hf := c_i_f Hf hc
          refine lv_aload_n hx hb dX9_goesOnBehind_226 rfl (lv_at hl 0 rfl) ?_
          obtain ⟨hk_a0, Hf⟩ := c_g_some Hf
          obtain ⟨q227, hq227, Hf⟩ := c_n_some Hf
          refine fg_10_22 hx hb hts hown hK hP hk_a0 lkf_X9_82 hq227 dX9_goesOnBehind_227 ?_
          refine lv_aload_n hx hb dX9_goesOnBehind_230 rfl (lv_at hl 0 rfl) ?_
          refine fg_10_19 hx hb hts hown hK hP hk_a0 lkf_X9_208 dX9_goesOnBehind_231 ?_
          refine lv_bipush (v := 7) hx hb dX9_goesOnBehind_234 (by decide) ?_
          obtain ⟨hk_q227, Hf⟩ := c_g_some Hf
          obtain ⟨hi236, Hf⟩ := c_g_some Hf
          refine r_iast hx hb hK hP hS hk_q227 hi236 dX9_goesOnBehind_236 (fun H locs hP hS => ?_)
          obtain ⟨S_236, eS_236, Hf⟩ := c_l_ex Hf
          have hP : st_HP X (st_A S) S_236 H := by rw [eS_236]; exact hP
          refine lv_aload_n hx hb dX9_goesOnBehind_237 rfl (lv_at hl 0 rfl) ?_
          refine lv_dup hx hb dX9_goesOnBehind_238 rfl ?_
          have hk_a0 : st_K S_236 a0 = 11 := by rw [kp_wi eS_236]; exact hk_a0
          refine fg_10_7 hx hb hts hown hK hP hk_a0 lkf_X9_164 dX9_goesOnBehind_239 ?_
          refine lv_iconst (v := 1) hx hb dX9_goesOnBehind_242 (by decide) ?_
          refine lv_iadd hx hb dX9_goesOnBehind_243 ?_
          refine fp_10_7 hx hb hts hown hK hP hS hk_a0 lkf_X9_164 dX9_goesOnBehind_244 (fun H locs hP hS => ?_)
          obtain ⟨S_244, eS_244, Hf⟩ := c_l_ex Hf
          have hP : st_HP X (st_A S) S_244 H := by rw [eS_244]; exact hP
          refine lv_iconst (v := 1) hx hb dX9_goesOnBehind_247 (by decide) ?_
          cases Hf
          exact r_zret hx hb hr rfl (Or.inr rfl) hlocks dX9_goesOnBehind_248 (Nat.le_of_ble_eq_true rfl) (Nat.le_of_ble_eq_true rfl) hP hS
        refine lv_if_eq hx hb dX9_goesOnBehind_198 (tgt := 218) (by decide) (fun hc => ?_) (fun hc => ?_)
        · have Hf := c_i_t Hf hc
          exact hJ218 S189 Hf _ _ _ hP hS (lv_sub hl [0] rfl)
        have Hf := c_i_f Hf hc
        refine lv_aload_n hx hb dX9_goesOnBehind_201 rfl (lv_at hl 0 rfl) ?_
        refine lv_bipush (v := 7) hx hb dX9_goesOnBehind_202 (by decide) ?_
        refine lv_iconst (v := 0) hx hb dX9_goesOnBehind_204 (by decide) ?_
        obtain ⟨r205, T205, hq205, Hf⟩ := c_c_some Hf
        refine r_cV (n := 2) (As := [.int 7, .int 0]) (rest := []) ⟨hx, hb, hml, hown, hts⟩ (s_X9_emit l X hq205) lkm_X9_221 (by decide +kernel) rfl (by decide) dX9_goesOnBehind_205 rfl rfl ⟨Nat.le_of_ble_eq_true rfl, Nat.le_of_ble_eq_true rfl⟩ hk_a0 rfl hl.1 (Nat.le_of_ble_eq_true rfl) ⟨Nat.le_of_ble_eq_true rfl, Nat.le_of_ble_eq_true rfl⟩ hK hRO hA hP hS (fun H locs hP hS => ?_)
        refine W.eq (g2 := F0 m 208 ls []) rfl ?_
        refine lv_aload_n hx hb dX9_goesOnBehind_208 rfl (lv_at hl 0 rfl) ?_
        obtain ⟨hk_a0, Hf⟩ := c_g_some Hf
        obtain ⟨q209, hq209, Hf⟩ := c_n_some Hf
        refine fg_10_22 hx hb hts hown hK hP hk_a0 lkf_X9_82 hq209 dX9_goesOnBehind_209 ?_
        refine lv_aload_n hx hb dX9_goesOnBehind_212 rfl (lv_at hl 0 rfl) ?_
        refine fg_10_19 hx hb hts hown hK hP hk_a0 lkf_X9_208 dX9_goesOnBehind_213 ?_
        refine lv_iconst (v := 0) hx hb dX9_goesOnBehind_216 (by decide) ?_
        obtain ⟨hk_q209, Hf⟩ := c_g_some Hf
        obtain ⟨hi217, Hf⟩ := c_g_some Hf
        refine r_iast hx hb hK hP hS hk_q209 hi217 dX9_goesOnBehind_217 (fun H locs hP hS => ?_)
        obtain ⟨S_217, eS_217, Hf⟩ := c_l_ex Hf
        have hP : st_HP X (st_A S) S_217 H := by rw [eS_217]; exact hP
        exact hJ218 S_217 Hf _ _ _ hP hS (lv_sub hl [0] rfl)
      refine lv_if_eq hx hb dX9_goesOnBehind_105 (tgt := 135) (by decide) (fun hc => ?_) (fun hc => ?_)
      · have Hf := c_i_t Hf hc
        refine lv_aload_n hx hb dX9_goesOnBehind_135 rfl (lv_at hl 0 rfl) ?_
        refine lv_bipush (v := 60) hx hb dX9_goesOnBehind_136 (by decide) ?_
        obtain ⟨r138, T138, hq138, Hf⟩ := c_c_some Hf
        refine r_cV (n := 1) (As := [.int 60]) (rest := []) ⟨hx, hb, hml, hown, hts⟩ (s_X9_isSign l X hq138) lkm_X9_170 (by decide +kernel) rfl (by decide) dX9_goesOnBehind_138 rfl rfl ⟨Nat.le_of_ble_eq_true rfl, Nat.le_of_ble_eq_true rfl⟩ hk_a0 rfl hl.1 (Nat.le_of_ble_eq_true rfl) ⟨Nat.le_of_ble_eq_true rfl, Nat.le_of_ble_eq_true rfl⟩ hK hRO hA hP hS (fun H locs hP hS => ?_)
        refine W.eq (g2 := F0 m 141 ls [.int r138]) rfl ?_
        have hJ153 : ∀ (S153 : st_T), j_X9_goesOnBehind_153 a0 S153 = some (rr, SE) → ∀ (H : Heap) (locs : List Loc) (ls : Array Slot), st_HP X (st_A S) S153 H → va_S (st_A S) s.heap H locs → lv_has ls 1 [(0, .ref a0)] → W p l e { frames := 2, cells := 0, slots := 0, locals := 42 } s m args below meth c H locs 0 0 (MQ below (st_Q X (st_A S) (some (.int rr)) SE) args s 0 0 (st_A S)) (F0 m 153 ls []) := by
          intro S153 Hf H locs ls hP hS hl
          unfold j_X9_goesOnBehind_153 at Hf
          refine lv_aload_n hx hb dX9_goesOnBehind_153 rfl (lv_at hl 0 rfl) ?_
          obtain ⟨hk_a0, Hf⟩ := c_g_some Hf
          obtain ⟨q154, hq154, Hf⟩ := c_n_some Hf
          refine fg_10_21 hx hb hts hown hK hP hk_a0 lkf_X9_79 hq154 dX9_goesOnBehind_154 ?_
          refine lv_aload_n hx hb dX9_goesOnBehind_157 rfl (lv_at hl 0 rfl) ?_
          refine fg_10_19 hx hb hts hown hK hP hk_a0 lkf_X9_208 dX9_goesOnBehind_158 ?_
          refine lv_aload_n hx hb dX9_goesOnBehind_161 rfl (lv_at hl 0 rfl) ?_
          refine lv_bipush (v := 60) hx hb dX9_goesOnBehind_162 (by decide) ?_
          obtain ⟨r164, T164, hq164, Hf⟩ := c_c_some Hf
          refine r_cV (n := 1) (As := [.int 60]) (rest := [.int (st_fi S153 1019 a0), .ref q154]) ⟨hx, hb, hml, hown, hts⟩ (s_X9_isSign l X hq164) lkm_X9_170 (by decide +kernel) rfl (by decide) dX9_goesOnBehind_164 rfl rfl ⟨Nat.le_of_ble_eq_true rfl, Nat.le_of_ble_eq_true rfl⟩ hk_a0 rfl hl.1 (Nat.le_of_ble_eq_true rfl) ⟨Nat.le_of_ble_eq_true rfl, Nat.le_of_ble_eq_true rfl⟩ hK hRO hA hP hS (fun H locs hP hS => ?_)
          refine W.eq (g2 := F0 m 167 ls [.int r164, .int (st_fi S153 1019 a0), .ref q154]) rfl ?_
          have hJ176 : ∀ (S176 : st_T) (u0_176 : Int32), j_X9_goesOnBehind_176 a0 S153 q154 S176 u0_176 = some (rr, SE) → ∀ (H : Heap) (locs : List Loc) (ls : Array Slot), st_HP X (st_A S) S176 H → va_S (st_A S) s.heap H locs → lv_has ls 1 [(0, .ref a0)] → W p l e { frames := 2, cells := 0, slots := 0, locals := 42 } s m args below meth c H locs 0 0 (MQ below (st_Q X (st_A S) (some (.int rr)) SE) args s 0 0 (st_A S)) (F0 m 176 ls [.int u0_176, .int (st_fi S153 1019 a0), .ref q154]) := by
            intro S176 u0_176 Hf H locs ls hP hS hl
            unfold j_X9_goesOnBehind_176 at Hf
            obtain ⟨hk_q154, Hf⟩ := c_g_some Hf
            obtain ⟨hi176, Hf⟩ := c_g_some Hf
            refine r_iast hx hb hK hP hS hk_q154 hi176 dX9_goesOnBehind_176 (fun H locs hP hS => ?_)
            obtain ⟨S_176, eS_176, Hf⟩ := c_l_ex Hf
            have hP : st_HP X (st_A S) S_176 H := by rw [eS_176]; exact hP
            refine lv_aload_n hx hb dX9_goesOnBehind_177 rfl (lv_at hl 0 rfl) ?_
            refine lv_dup hx hb dX9_goesOnBehind_178 rfl ?_
            obtain ⟨hk_a0, Hf⟩ := c_g_some Hf
            refine fg_10_7 hx hb hts hown hK hP hk_a0 lkf_X9_164 dX9_goesOnBehind_179 ?_
            refine lv_iconst (v := 1) hx hb dX9_goesOnBehind_182 (by decide) ?_
            refine lv_iadd hx hb dX9_goesOnBehind_183 ?_
            refine fp_10_7 hx hb hts hown hK hP hS hk_a0 lkf_X9_164 dX9_goesOnBehind_184 (fun H locs hP hS => ?_)
            obtain ⟨S_184, eS_184, Hf⟩ := c_l_ex Hf
            have hP : st_HP X (st_A S) S_184 H := by rw [eS_184]; exact hP
            refine lv_iconst (v := 1) hx hb dX9_goesOnBehind_187 (by decide) ?_
            cases Hf
            exact r_zret hx hb hr rfl (Or.inr rfl) hlocks dX9_goesOnBehind_188 (Nat.le_of_ble_eq_true rfl) (Nat.le_of_ble_eq_true rfl) hP hS
          refine lv_if_eq hx hb dX9_goesOnBehind_167 (tgt := 174) (by decide) (fun hc => ?_) (fun hc => ?_)
          · have Hf := c_i_t Hf hc
            refine lv_bipush (v := 6) hx hb dX9_goesOnBehind_174 (by decide) ?_
            exact hJ176 T164 6 Hf _ _ _ hP hS (lv_sub hl [0] rfl)
          have Hf := c_i_f Hf hc
          refine lv_iconst (v := 5) hx hb dX9_goesOnBehind_170 (by decide) ?_
          refine lv_goto hx hb dX9_goesOnBehind_171 (tgt := 176) (by decide) ?_
          exact hJ176 T164 5 Hf _ _ _ hP hS (lv_sub hl [0] rfl)
        refine lv_if_ne hx hb dX9_goesOnBehind_141 (tgt := 153) (by decide) (fun hc => ?_) (fun hc => ?_)
        · have Hf := c_i_f Hf hc
          exact hJ153 T138 Hf _ _ _ hP hS (lv_sub hl [0] rfl)
        have Hf := c_i_t Hf hc
        refine lv_aload_n hx hb dX9_goesOnBehind_144 rfl (lv_at hl 0 rfl) ?_
        refine lv_bipush (v := 61) hx hb dX9_goesOnBehind_145 (by decide) ?_
        obtain ⟨hk_a0, Hf⟩ := c_g_some Hf
        obtain ⟨r147, T147, hq147, Hf⟩ := c_c_some Hf
        refine r_cV (n := 1) (As := [.int 61]) (rest := []) ⟨hx, hb, hml, hown, hts⟩ (s_X9_isSign l X hq147) lkm_X9_170 (by decide +kernel) rfl (by decide) dX9_goesOnBehind_147 rfl rfl ⟨Nat.le_of_ble_eq_true rfl, Nat.le_of_ble_eq_true rfl⟩ hk_a0 rfl hl.1 (Nat.le_of_ble_eq_true rfl) ⟨Nat.le_of_ble_eq_true rfl, Nat.le_of_ble_eq_true rfl⟩ hK hRO hA hP hS (fun H locs hP hS => ?_)
        refine W.eq (g2 := F0 m 150 ls [.int r147]) rfl ?_
        refine lv_if_eq hx hb dX9_goesOnBehind_150 (tgt := 189) (by decide) (fun hc => ?_) (fun hc => ?_)
        · have Hf := c_i_t Hf hc
          exact hJ189 T147 Hf _ _ _ hP hS (lv_sub hl [0] rfl)
        have Hf := c_i_f Hf hc
        exact hJ153 T147 Hf _ _ _ hP hS (lv_sub hl [0] rfl)
      have Hf := c_i_f Hf hc
      refine lv_aload_n hx hb dX9_goesOnBehind_108 rfl (lv_at hl 0 rfl) ?_
      refine lv_aload_n hx hb dX9_goesOnBehind_109 rfl (lv_at hl 0 rfl) ?_
      refine fg_10_21 hx hb hts hown hK hP hk_a0 lkf_X9_79 hq97 dX9_goesOnBehind_110 ?_
      refine lv_aload_n hx hb dX9_goesOnBehind_113 rfl (lv_at hl 0 rfl) ?_
      refine fg_10_19 hx hb hts hown hK hP hk_a0 lkf_X9_208 dX9_goesOnBehind_114 ?_
      obtain ⟨hi117, Hf⟩ := c_g_some Hf
      refine r_iald hx hb hK hP hk_q97 hi117 dX9_goesOnBehind_117 ?_
      refine lv_iconst (v := 0) hx hb dX9_goesOnBehind_118 (by decide) ?_
      obtain ⟨r119, T119, hq119, Hf⟩ := c_c_some Hf
      refine r_cV (n := 2) (As := [.int (st_ri T55 q97 ((st_fi T55 1019 a0) : Int32).toNatClampNeg), .int 0]) (rest := []) ⟨hx, hb, hml, hown, hts⟩ (s_X9_emit l X hq119) lkm_X9_221 (by decide +kernel) rfl (by decide) dX9_goesOnBehind_119 rfl rfl ⟨Nat.le_of_ble_eq_true rfl, Nat.le_of_ble_eq_true rfl⟩ hk_a0 rfl hl.1 (Nat.le_of_ble_eq_true rfl) ⟨Nat.le_of_ble_eq_true rfl, Nat.le_of_ble_eq_true rfl⟩ hK hRO hA hP hS (fun H locs hP hS => ?_)
      refine W.eq (g2 := F0 m 122 ls []) rfl ?_
      refine lv_aload_n hx hb dX9_goesOnBehind_122 rfl (lv_at hl 0 rfl) ?_
      obtain ⟨hk_a0, Hf⟩ := c_g_some Hf
      obtain ⟨q123, hq123, Hf⟩ := c_n_some Hf
      refine fg_10_21 hx hb hts hown hK hP hk_a0 lkf_X9_79 hq123 dX9_goesOnBehind_123 ?_
      refine lv_aload_n hx hb dX9_goesOnBehind_126 rfl (lv_at hl 0 rfl) ?_
      refine fg_10_19 hx hb hts hown hK hP hk_a0 lkf_X9_208 dX9_goesOnBehind_127 ?_
      refine lv_iconst (v := 0) hx hb dX9_goesOnBehind_130 (by decide) ?_
      obtain ⟨hk_q123, Hf⟩ := c_g_some Hf
      obtain ⟨hi131, Hf⟩ := c_g_some Hf
      refine r_iast hx hb hK hP hS hk_q123 hi131 dX9_goesOnBehind_131 (fun H locs hP hS => ?_)
      obtain ⟨S_131, eS_131, Hf⟩ := c_l_ex Hf
      have hP : st_HP X (st_A S) S_131 H := by rw [eS_131]; exact hP
      refine lv_goto hx hb dX9_goesOnBehind_132 (tgt := 189) (by decide) ?_
      exact hJ189 S_131 Hf _ _ _ hP hS (lv_sub hl [0] rfl)
    have Hf := c_i_f Hf hc
    exact hJ61 T55 Hf _ _ _ hP hS (lv_sub hl [0] rfl)
  refine lv_if_eq hx hb dX9_goesOnBehind_16 (tgt := 43) (by decide) (fun hc => ?_) (fun hc => ?_)
  · have Hf := c_i_t Hf hc
    exact hJ43 S0 Hf _ _ _ hP hS (lv_sub hl [0] rfl)
  have Hf := c_i_f Hf hc
  refine lv_aload_n hx hb dX9_goesOnBehind_19 rfl (lv_at hl 0 rfl) ?_
  refine lv_aload_n hx hb dX9_goesOnBehind_20 rfl (lv_at hl 0 rfl) ?_
  refine fg_10_20 hx hb hts hown hK hP hk_a0 lkf_X9_76 hq8 dX9_goesOnBehind_21 ?_
  refine lv_aload_n hx hb dX9_goesOnBehind_24 rfl (lv_at hl 0 rfl) ?_
  refine fg_10_19 hx hb hts hown hK hP hk_a0 lkf_X9_208 dX9_goesOnBehind_25 ?_
  obtain ⟨hi28, Hf⟩ := c_g_some Hf
  refine r_iald hx hb hK hP hk_q8 hi28 dX9_goesOnBehind_28 ?_
  refine lv_iconst (v := 0) hx hb dX9_goesOnBehind_29 (by decide) ?_
  obtain ⟨r30, T30, hq30, Hf⟩ := c_c_some Hf
  refine r_cV (n := 2) (As := [.int (st_ri S0 q8 ((st_fi S0 1019 a0) : Int32).toNatClampNeg), .int 0]) (rest := []) ⟨hx, hb, hml, hown, hts⟩ (s_X9_emit l X hq30) lkm_X9_221 (by decide +kernel) rfl (by decide) dX9_goesOnBehind_30 rfl rfl ⟨Nat.le_of_ble_eq_true rfl, Nat.le_of_ble_eq_true rfl⟩ hk_a0 rfl hl.1 (Nat.le_of_ble_eq_true rfl) ⟨Nat.le_of_ble_eq_true rfl, Nat.le_of_ble_eq_true rfl⟩ hK hRO hA hP hS (fun H locs hP hS => ?_)
  refine W.eq (g2 := F0 m 33 ls []) rfl ?_
  refine lv_aload_n hx hb dX9_goesOnBehind_33 rfl (lv_at hl 0 rfl) ?_
  obtain ⟨hk_a0, Hf⟩ := c_g_some Hf
  obtain ⟨q34, hq34, Hf⟩ := c_n_some Hf
  refine fg_10_20 hx hb hts hown hK hP hk_a0 lkf_X9_76 hq34 dX9_goesOnBehind_34 ?_
  refine lv_aload_n hx hb dX9_goesOnBehind_37 rfl (lv_at hl 0 rfl) ?_
  refine fg_10_19 hx hb hts hown hK hP hk_a0 lkf_X9_208 dX9_goesOnBehind_38 ?_
  refine lv_iconst (v := 0) hx hb dX9_goesOnBehind_41 (by decide) ?_
  obtain ⟨hk_q34, Hf⟩ := c_g_some Hf
  obtain ⟨hi42, Hf⟩ := c_g_some Hf
  refine r_iast hx hb hK hP hS hk_q34 hi42 dX9_goesOnBehind_42 (fun H locs hP hS => ?_)
  obtain ⟨S_42, eS_42, Hf⟩ := c_l_ex Hf
  have hP : st_HP X (st_A S) S_42 H := by rw [eS_42]; exact hP
  exact hJ43 S_42 Hf _ _ _ hP hS (lv_sub hl [0] rfl)
