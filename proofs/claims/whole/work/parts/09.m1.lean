def f_X9_isLetter (S : st_T) (x0 : Int32) : Option (Int32 × st_T) :=
  (c_i (x0 < 97) (some (0, S)) (c_i (122 < x0) (some (0, S)) (some (1, S))))
set_option maxRecDepth 100000 in
set_option maxHeartbeats 4000000 in
theorem s_X9_isLetter (l : Launch) (X : st_I) {S SE : st_T} {x0 : Int32} {rr : Int32} (Hf : f_X9_isLetter S x0 = some (rr, SE)) : Met l yX9_isLetter (Cond.code yX9_isLetter cX9_isLetter 1 (some .boolean) :: lw_g) { frames := 0, cells := 0, slots := 0, locals := 0 } (st_P X S [.int x0]) (st_Q X (st_A S) (some (.int rr)) SE) 0 0 (st_A S) := by
  refine st_ofW (by decide) (Nat.le_of_ble_eq_true rfl) ?_
  intro p e s m args below meth c hx hb hr hml hlocks hnm hts hown hK hRO hA hP hS ls hl
  have hown : s.vm.findClass RX9 = some m.cls := hown
  have hl : lv_has ls 1 [(0, .int x0)] := hl
  unfold f_X9_isLetter at Hf
  refine lv_iload_n hx hb dX9_isLetter_0 rfl (lv_at hl 0 rfl) ?_
  refine lv_bipush (v := 97) hx hb dX9_isLetter_1 (by decide) ?_
  refine lv_icmp_lt hx hb dX9_isLetter_3 (tgt := 16) (by decide) (fun hc => ?_) (fun hc => ?_)
  · have Hf := c_i_t Hf hc
    refine lv_iconst (v := 0) hx hb dX9_isLetter_16 (by decide) ?_
    cases Hf
    exact r_zret hx hb hr rfl (Or.inl rfl) hlocks dX9_isLetter_17 (Nat.le_of_ble_eq_true rfl) (Nat.le_of_ble_eq_true rfl) hP hS
  have Hf := c_i_f Hf hc
  refine lv_iload_n hx hb dX9_isLetter_6 rfl (lv_at hl 0 rfl) ?_
  refine lv_bipush (v := 122) hx hb dX9_isLetter_7 (by decide) ?_
  refine lv_icmp_gt hx hb dX9_isLetter_9 (tgt := 16) (by decide) (fun hc => ?_) (fun hc => ?_)
  · have Hf := c_i_t Hf hc
    refine lv_iconst (v := 0) hx hb dX9_isLetter_16 (by decide) ?_
    cases Hf
    exact r_zret hx hb hr rfl (Or.inl rfl) hlocks dX9_isLetter_17 (Nat.le_of_ble_eq_true rfl) (Nat.le_of_ble_eq_true rfl) hP hS
  have Hf := c_i_f Hf hc
  refine lv_iconst (v := 1) hx hb dX9_isLetter_12 (by decide) ?_
  refine lv_goto hx hb dX9_isLetter_13 (tgt := 17) (by decide) ?_
  cases Hf
  exact r_zret hx hb hr rfl (Or.inr rfl) hlocks dX9_isLetter_17 (Nat.le_of_ble_eq_true rfl) (Nat.le_of_ble_eq_true rfl) hP hS

def f_X9_isDigit (S : st_T) (x0 : Int32) : Option (Int32 × st_T) :=
  (c_i (x0 < 48) (some (0, S)) (c_i (57 < x0) (some (0, S)) (some (1, S))))
set_option maxRecDepth 100000 in
set_option maxHeartbeats 4000000 in
theorem s_X9_isDigit (l : Launch) (X : st_I) {S SE : st_T} {x0 : Int32} {rr : Int32} (Hf : f_X9_isDigit S x0 = some (rr, SE)) : Met l yX9_isDigit (Cond.code yX9_isDigit cX9_isDigit 1 (some .boolean) :: lw_g) { frames := 0, cells := 0, slots := 0, locals := 0 } (st_P X S [.int x0]) (st_Q X (st_A S) (some (.int rr)) SE) 0 0 (st_A S) := by
  refine st_ofW (by decide) (Nat.le_of_ble_eq_true rfl) ?_
  intro p e s m args below meth c hx hb hr hml hlocks hnm hts hown hK hRO hA hP hS ls hl
  have hown : s.vm.findClass RX9 = some m.cls := hown
  have hl : lv_has ls 1 [(0, .int x0)] := hl
  unfold f_X9_isDigit at Hf
  refine lv_iload_n hx hb dX9_isDigit_0 rfl (lv_at hl 0 rfl) ?_
  refine lv_bipush (v := 48) hx hb dX9_isDigit_1 (by decide) ?_
  refine lv_icmp_lt hx hb dX9_isDigit_3 (tgt := 16) (by decide) (fun hc => ?_) (fun hc => ?_)
  · have Hf := c_i_t Hf hc
    refine lv_iconst (v := 0) hx hb dX9_isDigit_16 (by decide) ?_
    cases Hf
    exact r_zret hx hb hr rfl (Or.inl rfl) hlocks dX9_isDigit_17 (Nat.le_of_ble_eq_true rfl) (Nat.le_of_ble_eq_true rfl) hP hS
  have Hf := c_i_f Hf hc
  refine lv_iload_n hx hb dX9_isDigit_6 rfl (lv_at hl 0 rfl) ?_
  refine lv_bipush (v := 57) hx hb dX9_isDigit_7 (by decide) ?_
  refine lv_icmp_gt hx hb dX9_isDigit_9 (tgt := 16) (by decide) (fun hc => ?_) (fun hc => ?_)
  · have Hf := c_i_t Hf hc
    refine lv_iconst (v := 0) hx hb dX9_isDigit_16 (by decide) ?_
    cases Hf
    exact r_zret hx hb hr rfl (Or.inl rfl) hlocks dX9_isDigit_17 (Nat.le_of_ble_eq_true rfl) (Nat.le_of_ble_eq_true rfl) hP hS
  have Hf := c_i_f Hf hc
  refine lv_iconst (v := 1) hx hb dX9_isDigit_12 (by decide) ?_
  refine lv_goto hx hb dX9_isDigit_13 (tgt := 17) (by decide) ?_
  cases Hf
  exact r_zret hx hb hr rfl (Or.inr rfl) hlocks dX9_isDigit_17 (Nat.le_of_ble_eq_true rfl) (Nat.le_of_ble_eq_true rfl) hP hS

def f_X9_rank (S : st_T) (x0 : Int32) : Option (Int32 × st_T) :=
  (c_c (f_X9_isLetter S x0) (fun (r1 : Int32) (T1 : st_T) => (c_i (r1 = 0) (some ((x0 - 21), T1)) (some ((x0 - 96), T1)))))
set_option maxRecDepth 100000 in
set_option maxHeartbeats 4000000 in
theorem s_X9_rank (l : Launch) (X : st_I) {S SE : st_T} {x0 : Int32} {rr : Int32} (Hf : f_X9_rank S x0 = some (rr, SE)) : Met l yX9_rank (Cond.code yX9_rank cX9_rank 1 (some .int) :: lw_g) { frames := 1, cells := 0, slots := 0, locals := 20 } (st_P X S [.int x0]) (st_Q X (st_A S) (some (.int rr)) SE) 0 0 (st_A S) := by
  refine st_ofW (by decide) (Nat.le_of_ble_eq_true rfl) ?_
  intro p e s m args below meth c hx hb hr hml hlocks hnm hts hown hK hRO hA hP hS ls hl
  have hown : s.vm.findClass RX9 = some m.cls := hown
  have hl : lv_has ls 1 [(0, .int x0)] := hl
  unfold f_X9_rank at Hf
  refine lv_iload_n hx hb dX9_rank_0 rfl (lv_at hl 0 rfl) ?_
  obtain ⟨r1, T1, hq1, Hf⟩ := c_c_some Hf
  refine r_cS (n := 1) (As := [.int x0]) (rest := []) ⟨hx, hb, hml, hown, hts⟩ (s_X9_isLetter l X hq1) lkm_X9_141 (by decide +kernel) dX9_rank_1 rfl rfl ⟨Nat.le_of_ble_eq_true rfl, Nat.le_of_ble_eq_true rfl⟩ rfl hl.1 (Nat.le_of_ble_eq_true rfl) ⟨Nat.le_of_ble_eq_true rfl, Nat.le_of_ble_eq_true rfl⟩ hK hRO hA hP hS (fun H locs hP hS => ?_)
  refine W.eq (g2 := F0 m 4 ls [.int r1]) rfl ?_
  refine lv_if_eq hx hb dX9_rank_4 (tgt := 14) (by decide) (fun hc => ?_) (fun hc => ?_)
  · have Hf := c_i_t Hf hc
    refine lv_iload_n hx hb dX9_rank_14 rfl (lv_at hl 0 rfl) ?_
    refine lv_bipush (v := 21) hx hb dX9_rank_15 (by decide) ?_
    refine lv_isub hx hb dX9_rank_17 ?_
    cases Hf
    exact r_iret hx hb hr rfl hlocks dX9_rank_18 (Nat.le_of_ble_eq_true rfl) (Nat.le_of_ble_eq_true rfl) hP hS
  have Hf := c_i_f Hf hc
  refine lv_iload_n hx hb dX9_rank_7 rfl (lv_at hl 0 rfl) ?_
  refine lv_bipush (v := 96) hx hb dX9_rank_8 (by decide) ?_
  refine lv_isub hx hb dX9_rank_10 ?_
  refine lv_goto hx hb dX9_rank_11 (tgt := 18) (by decide) ?_
  cases Hf
  exact r_iret hx hb hr rfl hlocks dX9_rank_18 (Nat.le_of_ble_eq_true rfl) (Nat.le_of_ble_eq_true rfl) hP hS

def j_X9_isSignOf_42 (S42 : st_T) : Option (Int32 × st_T) :=
  (some (1, S42))
def f_X9_isSignOf (S : st_T) (x0 : Int32) : Option (Int32 × st_T) :=
  (c_i (x0 = 40) (j_X9_isSignOf_42 S) (c_i (x0 = 41) (j_X9_isSignOf_42 S) (c_i (x0 = 59) (j_X9_isSignOf_42 S) (c_i (x0 = 61) (j_X9_isSignOf_42 S) (c_i (x0 = 60) (j_X9_isSignOf_42 S) (c_i (x0 = 43) (j_X9_isSignOf_42 S) (c_i (x0 = 45) (j_X9_isSignOf_42 S) (some (0, S)))))))))
set_option maxRecDepth 100000 in
set_option maxHeartbeats 4000000 in
theorem s_X9_isSignOf (l : Launch) (X : st_I) {S SE : st_T} {x0 : Int32} {rr : Int32} (Hf : f_X9_isSignOf S x0 = some (rr, SE)) : Met l yX9_isSignOf (Cond.code yX9_isSignOf cX9_isSignOf 1 (some .boolean) :: lw_g) { frames := 0, cells := 0, slots := 0, locals := 0 } (st_P X S [.int x0]) (st_Q X (st_A S) (some (.int rr)) SE) 0 0 (st_A S) := by
  refine st_ofW (by decide) (Nat.le_of_ble_eq_true rfl) ?_
  intro p e s m args below meth c hx hb hr hml hlocks hnm hts hown hK hRO hA hP hS ls hl
  have hown : s.vm.findClass RX9 = some m.cls := hown
  have hl : lv_has ls 1 [(0, .int x0)] := hl
  unfold f_X9_isSignOf at Hf
  refine lv_iload_n hx hb dX9_isSignOf_0 rfl (lv_at hl 0 rfl) ?_
  refine lv_bipush (v := 40) hx hb dX9_isSignOf_1 (by decide) ?_
  have hJ42 : ∀ (S42 : st_T), j_X9_isSignOf_42 S42 = some (rr, SE) → ∀ (H : Heap) (locs : List Loc) (ls : Array Slot), st_HP X (st_A S) S42 H → va_S (st_A S) s.heap H locs → lv_has ls 1 [] → W p l e { frames := 0, cells := 0, slots := 0, locals := 0 } s m args below meth c H locs 0 0 (MQ below (st_Q X (st_A S) (some (.int rr)) SE) args s 0 0 (st_A S)) (F0 m 42 ls []) := by
    intro S42 Hf H locs ls hP hS hl
    unfold j_X9_isSignOf_42 at Hf
    refine lv_iconst (v := 1) hx hb dX9_isSignOf_42 (by decide) ?_
    refine lv_goto hx hb dX9_isSignOf_43 (tgt := 47) (by decide) ?_
    cases Hf
    exact r_zret hx hb hr rfl (Or.inr rfl) hlocks dX9_isSignOf_47 (Nat.le_of_ble_eq_true rfl) (Nat.le_of_ble_eq_true rfl) hP hS
  refine lv_icmp_eq hx hb dX9_isSignOf_3 (tgt := 42) (by decide) (fun hc => ?_) (fun hc => ?_)
  · have Hf := c_i_t Hf hc
    exact hJ42 S Hf _ _ _ hP hS (lv_sub hl [] rfl)
  have Hf := c_i_f Hf hc
  refine lv_iload_n hx hb dX9_isSignOf_6 rfl (lv_at hl 0 rfl) ?_
  refine lv_bipush (v := 41) hx hb dX9_isSignOf_7 (by decide) ?_
  refine lv_icmp_eq hx hb dX9_isSignOf_9 (tgt := 42) (by decide) (fun hc => ?_) (fun hc => ?_)
  · have Hf := c_i_t Hf hc
    exact hJ42 S Hf _ _ _ hP hS (lv_sub hl [] rfl)
  have Hf := c_i_f Hf hc
  refine lv_iload_n hx hb dX9_isSignOf_12 rfl (lv_at hl 0 rfl) ?_
  refine lv_bipush (v := 59) hx hb dX9_isSignOf_13 (by decide) ?_
  refine lv_icmp_eq hx hb dX9_isSignOf_15 (tgt := 42) (by decide) (fun hc => ?_) (fun hc => ?_)
  · have Hf := c_i_t Hf hc
    exact hJ42 S Hf _ _ _ hP hS (lv_sub hl [] rfl)
  have Hf := c_i_f Hf hc
  refine lv_iload_n hx hb dX9_isSignOf_18 rfl (lv_at hl 0 rfl) ?_
  refine lv_bipush (v := 61) hx hb dX9_isSignOf_19 (by decide) ?_
  refine lv_icmp_eq hx hb dX9_isSignOf_21 (tgt := 42) (by decide) (fun hc => ?_) (fun hc => ?_)
  · have Hf := c_i_t Hf hc
    exact hJ42 S Hf _ _ _ hP hS (lv_sub hl [] rfl)
  have Hf := c_i_f Hf hc
  refine lv_iload_n hx hb dX9_isSignOf_24 rfl (lv_at hl 0 rfl) ?_
  refine lv_bipush (v := 60) hx hb dX9_isSignOf_25 (by decide) ?_
  refine lv_icmp_eq hx hb dX9_isSignOf_27 (tgt := 42) (by decide) (fun hc => ?_) (fun hc => ?_)
  · have Hf := c_i_t Hf hc
    exact hJ42 S Hf _ _ _ hP hS (lv_sub hl [] rfl)
  have Hf := c_i_f Hf hc
  refine lv_iload_n hx hb dX9_isSignOf_30 rfl (lv_at hl 0 rfl) ?_
  refine lv_bipush (v := 43) hx hb dX9_isSignOf_31 (by decide) ?_
  refine lv_icmp_eq hx hb dX9_isSignOf_33 (tgt := 42) (by decide) (fun hc => ?_) (fun hc => ?_)
  · have Hf := c_i_t Hf hc
    exact hJ42 S Hf _ _ _ hP hS (lv_sub hl [] rfl)
  have Hf := c_i_f Hf hc
  refine lv_iload_n hx hb dX9_isSignOf_36 rfl (lv_at hl 0 rfl) ?_
  refine lv_bipush (v := 45) hx hb dX9_isSignOf_37 (by decide) ?_
  refine lv_icmp_ne hx hb dX9_isSignOf_39 (tgt := 46) (by decide) (fun hc => ?_) (fun hc => ?_)
  · have Hf := c_i_f Hf hc
    refine lv_iconst (v := 0) hx hb dX9_isSignOf_46 (by decide) ?_
    cases Hf
    exact r_zret hx hb hr rfl (Or.inl rfl) hlocks dX9_isSignOf_47 (Nat.le_of_ble_eq_true rfl) (Nat.le_of_ble_eq_true rfl) hP hS
  have Hf := c_i_t Hf hc
  exact hJ42 S Hf _ _ _ hP hS (lv_sub hl [] rfl)

def f_X9_thrown (S : st_T) (a0 : Nat) : Option (Int32 × st_T) :=
  (c_g (st_K S a0 = 11) (some ((st_fi S 1000 a0), S)))
set_option maxRecDepth 100000 in
set_option maxHeartbeats 4000000 in
theorem s_X9_thrown (l : Launch) (X : st_I) {S SE : st_T} {a0 : Nat} {rr : Int32} (Hf : f_X9_thrown S a0 = some (rr, SE)) : Met l yX9_thrown (Cond.code yX9_thrown cX9_thrown 1 (some .int) :: lw_g) { frames := 0, cells := 0, slots := 0, locals := 0 } (st_P X S [.ref a0]) (st_Q X (st_A S) (some (.int rr)) SE) 0 0 (st_A S) := by
  refine st_ofW (by decide) (Nat.le_of_ble_eq_true rfl) ?_
  intro p e s m args below meth c hx hb hr hml hlocks hnm hts hown hK hRO hA hP hS ls hl
  have hown : s.vm.findClass RX9 = some m.cls := hown
  have hl : lv_has ls 1 [(0, .ref a0)] := hl
  unfold f_X9_thrown at Hf
  refine lv_aload_n hx hb dX9_thrown_0 rfl (lv_at hl 0 rfl) ?_
  obtain ⟨hk_a0, Hf⟩ := c_g_some Hf
  refine fg_10_0 hx hb hts hown hK hP hk_a0 lkf_X9_131 dX9_thrown_1 ?_
  cases Hf
  exact r_iret hx hb hr rfl hlocks dX9_thrown_4 (Nat.le_of_ble_eq_true rfl) (Nat.le_of_ble_eq_true rfl) hP hS

def f_X9_wrong (S : st_T) (a0 : Nat) (x1 : Int32) : Option (Unit × st_T) :=
  (c_g (st_K S a0 = 11) (c_i ((st_fi S 1008 a0) = 0) (c_n (st_fr S 1005 a0) (fun (q12 : Nat) => (c_g (st_K S q12 = 20) (c_g (c_in (st_fi S 1007 a0) (st_ln S q12)) (c_l (st_pi S 1008 a0 (x1 + (16 * (st_ri S q12 ((st_fi S 1007 a0) : Int32).toNatClampNeg)))) (fun (S_22 : st_T) => (some ((), S_22)))))))) (some ((), S))))
set_option maxRecDepth 100000 in
set_option maxHeartbeats 4000000 in
theorem s_X9_wrong (l : Launch) (X : st_I) {S SE : st_T} {a0 : Nat} {x1 : Int32} {rr : Unit} (Hf : f_X9_wrong S a0 x1 = some (rr, SE)) : Met l yX9_wrong (Cond.code yX9_wrong cX9_wrong 2 (none) :: lw_g) { frames := 0, cells := 0, slots := 0, locals := 0 } (st_P X S [.ref a0, .int x1]) (st_Q X (st_A S) none SE) 0 0 (st_A S) := by
  refine st_ofW (by decide) (Nat.le_of_ble_eq_true rfl) ?_
  intro p e s m args below meth c hx hb hr hml hlocks hnm hts hown hK hRO hA hP hS ls hl
  have hown : s.vm.findClass RX9 = some m.cls := hown
  have hl : lv_has ls 2 [(0, .ref a0), (1, .int x1)] := hl
  unfold f_X9_wrong at Hf
  refine lv_aload_n hx hb dX9_wrong_0 rfl (lv_at hl 0 rfl) ?_
  obtain ⟨hk_a0, Hf⟩ := c_g_some Hf
  refine fg_10_8 hx hb hts hown hK hP hk_a0 lkf_X9_167 dX9_wrong_1 ?_
  refine lv_if_ne hx hb dX9_wrong_4 (tgt := 25) (by decide) (fun hc => ?_) (fun hc => ?_)
  · have Hf := c_i_f Hf hc
    cases Hf
    exact r_vret hx hb hr rfl hlocks dX9_wrong_25 (Nat.le_of_ble_eq_true rfl) (Nat.le_of_ble_eq_true rfl) hP hS
  have Hf := c_i_t Hf hc
  refine lv_aload_n hx hb dX9_wrong_7 rfl (lv_at hl 0 rfl) ?_
  refine lv_iload_n hx hb dX9_wrong_8 rfl (lv_at hl 1 rfl) ?_
  refine lv_bipush (v := 16) hx hb dX9_wrong_9 (by decide) ?_
  refine lv_aload_n hx hb dX9_wrong_11 rfl (lv_at hl 0 rfl) ?_
  obtain ⟨q12, hq12, Hf⟩ := c_n_some Hf
  refine fg_10_5 hx hb hts hown hK hP hk_a0 lkf_X9_16 hq12 dX9_wrong_12 ?_
  refine lv_aload_n hx hb dX9_wrong_15 rfl (lv_at hl 0 rfl) ?_
  refine fg_10_7 hx hb hts hown hK hP hk_a0 lkf_X9_164 dX9_wrong_16 ?_
  obtain ⟨hk_q12, Hf⟩ := c_g_some Hf
  obtain ⟨hi19, Hf⟩ := c_g_some Hf
  refine r_iald hx hb hK hP hk_q12 hi19 dX9_wrong_19 ?_
  refine lv_imul hx hb dX9_wrong_20 ?_
  refine lv_iadd hx hb dX9_wrong_21 ?_
  refine fp_10_8 hx hb hts hown hK hP hS hk_a0 lkf_X9_167 dX9_wrong_22 (fun H locs hP hS => ?_)
  have Hf := c_l_some Hf
  cases Hf
  exact r_vret hx hb hr rfl hlocks dX9_wrong_25 (Nat.le_of_ble_eq_true rfl) (Nat.le_of_ble_eq_true rfl) hP hS

def f_X9_isSign (S : st_T) (a0 : Nat) (x1 : Int32) : Option (Int32 × st_T) :=
  (c_g (st_K S a0 = 11) (c_i ((st_fi S 1008 a0) = 0) (c_n (st_fr S 1004 a0) (fun (q8 : Nat) => (c_g (st_K S q8 = 20) (c_g (c_in (st_fi S 1007 a0) (st_ln S q8)) (c_i ((st_ri S q8 ((st_fi S 1007 a0) : Int32).toNatClampNeg) = 3) (c_n (st_fr S 1006 a0) (fun (q21 : Nat) => (c_g (st_K S q21 = 21) (c_g (c_in (st_fi S 1007 a0) (st_ln S q21)) (c_i ((lg_cmp (st_rl S q21 ((st_fi S 1007 a0) : Int32).toNatClampNeg) ((x1 : Int32).toInt64)) = 0) (some (1, S)) (some (0, S))))))) (some (0, S))))))) (some (0, S))))
set_option maxRecDepth 100000 in
set_option maxHeartbeats 4000000 in
theorem s_X9_isSign (l : Launch) (X : st_I) {S SE : st_T} {a0 : Nat} {x1 : Int32} {rr : Int32} (Hf : f_X9_isSign S a0 x1 = some (rr, SE)) : Met l yX9_isSign (Cond.code yX9_isSign cX9_isSign 2 (some .boolean) :: lw_g) { frames := 0, cells := 0, slots := 0, locals := 0 } (st_P X S [.ref a0, .int x1]) (st_Q X (st_A S) (some (.int rr)) SE) 0 0 (st_A S) := by
  refine st_ofW (by decide) (Nat.le_of_ble_eq_true rfl) ?_
  intro p e s m args below meth c hx hb hr hml hlocks hnm hts hown hK hRO hA hP hS ls hl
  have hown : s.vm.findClass RX9 = some m.cls := hown
  have hl : lv_has ls 2 [(0, .ref a0), (1, .int x1)] := hl
  unfold f_X9_isSign at Hf
  refine lv_aload_n hx hb dX9_isSign_0 rfl (lv_at hl 0 rfl) ?_
  obtain ⟨hk_a0, Hf⟩ := c_g_some Hf
  refine fg_10_8 hx hb hts hown hK hP hk_a0 lkf_X9_167 dX9_isSign_1 ?_
  refine lv_if_ne hx hb dX9_isSign_4 (tgt := 39) (by decide) (fun hc => ?_) (fun hc => ?_)
  · have Hf := c_i_f Hf hc
    refine lv_iconst (v := 0) hx hb dX9_isSign_39 (by decide) ?_
    cases Hf
    exact r_zret hx hb hr rfl (Or.inl rfl) hlocks dX9_isSign_40 (Nat.le_of_ble_eq_true rfl) (Nat.le_of_ble_eq_true rfl) hP hS
  have Hf := c_i_t Hf hc
  refine lv_aload_n hx hb dX9_isSign_7 rfl (lv_at hl 0 rfl) ?_
  obtain ⟨q8, hq8, Hf⟩ := c_n_some Hf
  refine fg_10_4 hx hb hts hown hK hP hk_a0 lkf_X9_13 hq8 dX9_isSign_8 ?_
  refine lv_aload_n hx hb dX9_isSign_11 rfl (lv_at hl 0 rfl) ?_
  refine fg_10_7 hx hb hts hown hK hP hk_a0 lkf_X9_164 dX9_isSign_12 ?_
  obtain ⟨hk_q8, Hf⟩ := c_g_some Hf
  obtain ⟨hi15, Hf⟩ := c_g_some Hf
  refine r_iald hx hb hK hP hk_q8 hi15 dX9_isSign_15 ?_
  refine lv_iconst (v := 3) hx hb dX9_isSign_16 (by decide) ?_
  refine lv_icmp_ne hx hb dX9_isSign_17 (tgt := 39) (by decide) (fun hc => ?_) (fun hc => ?_)
  · have Hf := c_i_f Hf hc
    refine lv_iconst (v := 0) hx hb dX9_isSign_39 (by decide) ?_
    cases Hf
    exact r_zret hx hb hr rfl (Or.inl rfl) hlocks dX9_isSign_40 (Nat.le_of_ble_eq_true rfl) (Nat.le_of_ble_eq_true rfl) hP hS
  have Hf := c_i_t Hf hc
  refine lv_aload_n hx hb dX9_isSign_20 rfl (lv_at hl 0 rfl) ?_
  obtain ⟨q21, hq21, Hf⟩ := c_n_some Hf
  refine fg_10_6 hx hb hts hown hK hP hk_a0 lkf_X9_19 hq21 dX9_isSign_21 ?_
  refine lv_aload_n hx hb dX9_isSign_24 rfl (lv_at hl 0 rfl) ?_
  refine fg_10_7 hx hb hts hown hK hP hk_a0 lkf_X9_164 dX9_isSign_25 ?_
  obtain ⟨hk_q21, Hf⟩ := c_g_some Hf
  obtain ⟨hi28, Hf⟩ := c_g_some Hf
  refine r_lald hx hb hK hP hk_q21 hi28 dX9_isSign_28 ?_
  refine lv_iload_n hx hb dX9_isSign_29 rfl (lv_at hl 1 rfl) ?_
  refine lv_i2l (v := (x1 : Int32).toInt64) hx hb dX9_isSign_30 rfl ?_
  refine W.lcmp hx hb dX9_isSign_31 ?_
  refine lv_if_ne hx hb dX9_isSign_32 (tgt := 39) (by decide) (fun hc => ?_) (fun hc => ?_)
  · have Hf := c_i_f Hf hc
    refine lv_iconst (v := 0) hx hb dX9_isSign_39 (by decide) ?_
    cases Hf
    exact r_zret hx hb hr rfl (Or.inl rfl) hlocks dX9_isSign_40 (Nat.le_of_ble_eq_true rfl) (Nat.le_of_ble_eq_true rfl) hP hS
  have Hf := c_i_t Hf hc
  refine lv_iconst (v := 1) hx hb dX9_isSign_35 (by decide) ?_
  refine lv_goto hx hb dX9_isSign_36 (tgt := 40) (by decide) ?_
  cases Hf
  exact r_zret hx hb hr rfl (Or.inr rfl) hlocks dX9_isSign_40 (Nat.le_of_ble_eq_true rfl) (Nat.le_of_ble_eq_true rfl) hP hS

def f_X9_isWord (S : st_T) (a0 : Nat) (x1 : Int32) : Option (Int32 × st_T) :=
  (c_g (st_K S a0 = 11) (c_i ((st_fi S 1008 a0) = 0) (c_n (st_fr S 1004 a0) (fun (q8 : Nat) => (c_g (st_K S q8 = 20) (c_g (c_in (st_fi S 1007 a0) (st_ln S q8)) (c_i ((st_ri S q8 ((st_fi S 1007 a0) : Int32).toNatClampNeg) = 1) (c_n (st_fr S 1006 a0) (fun (q21 : Nat) => (c_g (st_K S q21 = 21) (c_g (c_in (st_fi S 1007 a0) (st_ln S q21)) (c_n (st_fr S 1009 a0) (fun (q30 : Nat) => (c_g (st_K S q30 = 21) (c_g (c_in x1 (st_ln S q30)) (c_i ((lg_cmp (st_rl S q21 ((st_fi S 1007 a0) : Int32).toNatClampNeg) (st_rl S q30 (x1 : Int32).toNatClampNeg)) = 0) (some (1, S)) (some (0, S))))))))))) (some (0, S))))))) (some (0, S))))
set_option maxRecDepth 100000 in
set_option maxHeartbeats 4000000 in
theorem s_X9_isWord (l : Launch) (X : st_I) {S SE : st_T} {a0 : Nat} {x1 : Int32} {rr : Int32} (Hf : f_X9_isWord S a0 x1 = some (rr, SE)) : Met l yX9_isWord (Cond.code yX9_isWord cX9_isWord 2 (some .boolean) :: lw_g) { frames := 0, cells := 0, slots := 0, locals := 0 } (st_P X S [.ref a0, .int x1]) (st_Q X (st_A S) (some (.int rr)) SE) 0 0 (st_A S) := by
  refine st_ofW (by decide) (Nat.le_of_ble_eq_true rfl) ?_
  intro p e s m args below meth c hx hb hr hml hlocks hnm hts hown hK hRO hA hP hS ls hl
  have hown : s.vm.findClass RX9 = some m.cls := hown
  have hl : lv_has ls 2 [(0, .ref a0), (1, .int x1)] := hl
  unfold f_X9_isWord at Hf
  refine lv_aload_n hx hb dX9_isWord_0 rfl (lv_at hl 0 rfl) ?_
  obtain ⟨hk_a0, Hf⟩ := c_g_some Hf
  refine fg_10_8 hx hb hts hown hK hP hk_a0 lkf_X9_167 dX9_isWord_1 ?_
  refine lv_if_ne hx hb dX9_isWord_4 (tgt := 43) (by decide) (fun hc => ?_) (fun hc => ?_)
  · have Hf := c_i_f Hf hc
    refine lv_iconst (v := 0) hx hb dX9_isWord_43 (by decide) ?_
    cases Hf
    exact r_zret hx hb hr rfl (Or.inl rfl) hlocks dX9_isWord_44 (Nat.le_of_ble_eq_true rfl) (Nat.le_of_ble_eq_true rfl) hP hS
  have Hf := c_i_t Hf hc
  refine lv_aload_n hx hb dX9_isWord_7 rfl (lv_at hl 0 rfl) ?_
  obtain ⟨q8, hq8, Hf⟩ := c_n_some Hf
  refine fg_10_4 hx hb hts hown hK hP hk_a0 lkf_X9_13 hq8 dX9_isWord_8 ?_
  refine lv_aload_n hx hb dX9_isWord_11 rfl (lv_at hl 0 rfl) ?_
  refine fg_10_7 hx hb hts hown hK hP hk_a0 lkf_X9_164 dX9_isWord_12 ?_
  obtain ⟨hk_q8, Hf⟩ := c_g_some Hf
  obtain ⟨hi15, Hf⟩ := c_g_some Hf
  refine r_iald hx hb hK hP hk_q8 hi15 dX9_isWord_15 ?_
  refine lv_iconst (v := 1) hx hb dX9_isWord_16 (by decide) ?_
  refine lv_icmp_ne hx hb dX9_isWord_17 (tgt := 43) (by decide) (fun hc => ?_) (fun hc => ?_)
  · have Hf := c_i_f Hf hc
    refine lv_iconst (v := 0) hx hb dX9_isWord_43 (by decide) ?_
    cases Hf
    exact r_zret hx hb hr rfl (Or.inl rfl) hlocks dX9_isWord_44 (Nat.le_of_ble_eq_true rfl) (Nat.le_of_ble_eq_true rfl) hP hS
  have Hf := c_i_t Hf hc
  refine lv_aload_n hx hb dX9_isWord_20 rfl (lv_at hl 0 rfl) ?_
  obtain ⟨q21, hq21, Hf⟩ := c_n_some Hf
  refine fg_10_6 hx hb hts hown hK hP hk_a0 lkf_X9_19 hq21 dX9_isWord_21 ?_
  refine lv_aload_n hx hb dX9_isWord_24 rfl (lv_at hl 0 rfl) ?_
  refine fg_10_7 hx hb hts hown hK hP hk_a0 lkf_X9_164 dX9_isWord_25 ?_
  obtain ⟨hk_q21, Hf⟩ := c_g_some Hf
  obtain ⟨hi28, Hf⟩ := c_g_some Hf
  refine r_lald hx hb hK hP hk_q21 hi28 dX9_isWord_28 ?_
  refine lv_aload_n hx hb dX9_isWord_29 rfl (lv_at hl 0 rfl) ?_
  obtain ⟨q30, hq30, Hf⟩ := c_n_some Hf
  refine fg_10_9 hx hb hts hown hK hP hk_a0 lkf_X9_51 hq30 dX9_isWord_30 ?_
  refine lv_iload_n hx hb dX9_isWord_33 rfl (lv_at hl 1 rfl) ?_
  obtain ⟨hk_q30, Hf⟩ := c_g_some Hf
  obtain ⟨hi34, Hf⟩ := c_g_some Hf
  refine r_lald hx hb hK hP hk_q30 hi34 dX9_isWord_34 ?_
  refine W.lcmp hx hb dX9_isWord_35 ?_
  refine lv_if_ne hx hb dX9_isWord_36 (tgt := 43) (by decide) (fun hc => ?_) (fun hc => ?_)
  · have Hf := c_i_f Hf hc
    refine lv_iconst (v := 0) hx hb dX9_isWord_43 (by decide) ?_
    cases Hf
    exact r_zret hx hb hr rfl (Or.inl rfl) hlocks dX9_isWord_44 (Nat.le_of_ble_eq_true rfl) (Nat.le_of_ble_eq_true rfl) hP hS
  have Hf := c_i_t Hf hc
  refine lv_iconst (v := 1) hx hb dX9_isWord_39 (by decide) ?_
  refine lv_goto hx hb dX9_isWord_40 (tgt := 44) (by decide) ?_
  cases Hf
  exact r_zret hx hb hr rfl (Or.inr rfl) hlocks dX9_isWord_44 (Nat.le_of_ble_eq_true rfl) (Nat.le_of_ble_eq_true rfl) hP hS

def f_X9_takeSign (S : st_T) (a0 : Nat) (x1 : Int32) : Option (Unit × st_T) :=
  (c_g (st_K S a0 = 11) (c_c (f_X9_isSign S a0 x1) (fun (r2 : Int32) (T2 : st_T) => (c_i (r2 = 0) (c_g (st_K T2 a0 = 11) (c_c (f_X9_wrong T2 a0 1) (fun (r23 : Unit) (T23 : st_T) => (some ((), T23))))) (c_g (st_K T2 a0 = 11) (c_l (st_pi T2 1007 a0 ((st_fi T2 1007 a0) + 1)) (fun (S_15 : st_T) => (some ((), S_15)))))))))
set_option maxRecDepth 100000 in
set_option maxHeartbeats 4000000 in
theorem s_X9_takeSign (l : Launch) (X : st_I) {S SE : st_T} {a0 : Nat} {x1 : Int32} {rr : Unit} (Hf : f_X9_takeSign S a0 x1 = some (rr, SE)) : Met l yX9_takeSign (Cond.code yX9_takeSign cX9_takeSign 2 (none) :: lw_g) { frames := 1, cells := 0, slots := 0, locals := 21 } (st_P X S [.ref a0, .int x1]) (st_Q X (st_A S) none SE) 0 0 (st_A S) := by
  refine st_ofW (by decide) (Nat.le_of_ble_eq_true rfl) ?_
  intro p e s m args below meth c hx hb hr hml hlocks hnm hts hown hK hRO hA hP hS ls hl
  have hown : s.vm.findClass RX9 = some m.cls := hown
  have hl : lv_has ls 2 [(0, .ref a0), (1, .int x1)] := hl
  unfold f_X9_takeSign at Hf
  refine lv_aload_n hx hb dX9_takeSign_0 rfl (lv_at hl 0 rfl) ?_
  refine lv_iload_n hx hb dX9_takeSign_1 rfl (lv_at hl 1 rfl) ?_
  obtain ⟨hk_a0, Hf⟩ := c_g_some Hf
  obtain ⟨r2, T2, hq2, Hf⟩ := c_c_some Hf
  refine r_cV (n := 1) (As := [.int x1]) (rest := []) ⟨hx, hb, hml, hown, hts⟩ (s_X9_isSign l X hq2) lkm_X9_170 (by decide +kernel) rfl (by decide) dX9_takeSign_2 rfl rfl ⟨Nat.le_of_ble_eq_true rfl, Nat.le_of_ble_eq_true rfl⟩ hk_a0 rfl hl.1 (Nat.le_of_ble_eq_true rfl) ⟨Nat.le_of_ble_eq_true rfl, Nat.le_of_ble_eq_true rfl⟩ hK hRO hA hP hS (fun H locs hP hS => ?_)
  refine W.eq (g2 := F0 m 5 ls [.int r2]) rfl ?_
  refine lv_if_eq hx hb dX9_takeSign_5 (tgt := 21) (by decide) (fun hc => ?_) (fun hc => ?_)
  · have Hf := c_i_t Hf hc
    refine lv_aload_n hx hb dX9_takeSign_21 rfl (lv_at hl 0 rfl) ?_
    refine lv_iconst (v := 1) hx hb dX9_takeSign_22 (by decide) ?_
    obtain ⟨hk_a0, Hf⟩ := c_g_some Hf
    obtain ⟨r23, T23, hq23, Hf⟩ := c_c_some Hf
    refine r_cV (n := 1) (As := [.int 1]) (rest := []) ⟨hx, hb, hml, hown, hts⟩ (s_X9_wrong l X hq23) lkm_X9_173 (by decide +kernel) rfl (by decide) dX9_takeSign_23 rfl rfl ⟨Nat.le_of_ble_eq_true rfl, Nat.le_of_ble_eq_true rfl⟩ hk_a0 rfl hl.1 (Nat.le_of_ble_eq_true rfl) ⟨Nat.le_of_ble_eq_true rfl, Nat.le_of_ble_eq_true rfl⟩ hK hRO hA hP hS (fun H locs hP hS => ?_)
    refine W.eq (g2 := F0 m 26 ls []) rfl ?_
    cases Hf
    exact r_vret hx hb hr rfl hlocks dX9_takeSign_26 (Nat.le_of_ble_eq_true rfl) (Nat.le_of_ble_eq_true rfl) hP hS
  have Hf := c_i_f Hf hc
  refine lv_aload_n hx hb dX9_takeSign_8 rfl (lv_at hl 0 rfl) ?_
  refine lv_dup hx hb dX9_takeSign_9 rfl ?_
  obtain ⟨hk_a0, Hf⟩ := c_g_some Hf
  refine fg_10_7 hx hb hts hown hK hP hk_a0 lkf_X9_164 dX9_takeSign_10 ?_
  refine lv_iconst (v := 1) hx hb dX9_takeSign_13 (by decide) ?_
  refine lv_iadd hx hb dX9_takeSign_14 ?_
  refine fp_10_7 hx hb hts hown hK hP hS hk_a0 lkf_X9_164 dX9_takeSign_15 (fun H locs hP hS => ?_)
  have Hf := c_l_some Hf
  refine lv_goto hx hb dX9_takeSign_18 (tgt := 26) (by decide) ?_
  cases Hf
  exact r_vret hx hb hr rfl hlocks dX9_takeSign_26 (Nat.le_of_ble_eq_true rfl) (Nat.le_of_ble_eq_true rfl) hP hS

def j_X9_hasSign_20 (a0 : Nat) (r2 : Int32) (T2 : st_T) (S20 : st_T) (u0_20 : Int32) : Option (Int32 × st_T) :=
  (c_g (st_K S20 a0 = 11) (c_l (st_pi S20 1007 a0 ((st_fi T2 1007 a0) + u0_20)) (fun (S_21 : st_T) => (c_g (r2 = 0 ∨ r2 = 1) (some (r2, S_21))))))
def f_X9_hasSign (S : st_T) (a0 : Nat) (x1 : Int32) : Option (Int32 × st_T) :=
  (c_g (st_K S a0 = 11) (c_c (f_X9_isSign S a0 x1) (fun (r2 : Int32) (T2 : st_T) => (c_g (st_K T2 a0 = 11) (c_i (r2 = 0) (j_X9_hasSign_20 a0 r2 T2 T2 0) (j_X9_hasSign_20 a0 r2 T2 T2 1))))))
set_option maxRecDepth 100000 in
set_option maxHeartbeats 4000000 in
theorem s_X9_hasSign (l : Launch) (X : st_I) {S SE : st_T} {a0 : Nat} {x1 : Int32} {rr : Int32} (Hf : f_X9_hasSign S a0 x1 = some (rr, SE)) : Met l yX9_hasSign (Cond.code yX9_hasSign cX9_hasSign 3 (some .boolean) :: lw_g) { frames := 1, cells := 0, slots := 0, locals := 21 } (st_P X S [.ref a0, .int x1]) (st_Q X (st_A S) (some (.int rr)) SE) 0 0 (st_A S) := by
  refine st_ofW (by decide) (Nat.le_of_ble_eq_true rfl) ?_
  intro p e s m args below meth c hx hb hr hml hlocks hnm hts hown hK hRO hA hP hS ls hl
  have hown : s.vm.findClass RX9 = some m.cls := hown
  have hl : lv_has ls 3 [(0, .ref a0), (1, .int x1)] := hl
  unfold f_X9_hasSign at Hf
  refine lv_aload_n hx hb dX9_hasSign_0 rfl (lv_at hl 0 rfl) ?_
  refine lv_iload_n hx hb dX9_hasSign_1 rfl (lv_at hl 1 rfl) ?_
  obtain ⟨hk_a0, Hf⟩ := c_g_some Hf
  obtain ⟨r2, T2, hq2, Hf⟩ := c_c_some Hf
  refine r_cV (n := 1) (As := [.int x1]) (rest := []) ⟨hx, hb, hml, hown, hts⟩ (s_X9_isSign l X hq2) lkm_X9_170 (by decide +kernel) rfl (by decide) dX9_hasSign_2 rfl rfl ⟨Nat.le_of_ble_eq_true rfl, Nat.le_of_ble_eq_true rfl⟩ hk_a0 rfl hl.1 (Nat.le_of_ble_eq_true rfl) ⟨Nat.le_of_ble_eq_true rfl, Nat.le_of_ble_eq_true rfl⟩ hK hRO hA hP hS (fun H locs hP hS => ?_)
  refine W.eq (g2 := F0 m 5 ls [.int r2]) rfl ?_
  refine lv_istore_n (lv' := [(2, .int r2), (0, .ref a0), (1, .int x1)]) hx hb dX9_hasSign_5 rfl hl (by decide) rfl (fun ls hl => ?_)
  refine lv_aload_n hx hb dX9_hasSign_6 rfl (lv_at hl 1 rfl) ?_
  refine lv_dup hx hb dX9_hasSign_7 rfl ?_
  obtain ⟨hk_a0, Hf⟩ := c_g_some Hf
  refine fg_10_7 hx hb hts hown hK hP hk_a0 lkf_X9_164 dX9_hasSign_8 ?_
  refine lv_iload_n hx hb dX9_hasSign_11 rfl (lv_at hl 0 rfl) ?_
  have hJ20 : ∀ (S20 : st_T) (u0_20 : Int32), j_X9_hasSign_20 a0 r2 T2 S20 u0_20 = some (rr, SE) → ∀ (H : Heap) (locs : List Loc) (ls : Array Slot), st_HP X (st_A S) S20 H → va_S (st_A S) s.heap H locs → lv_has ls 3 [(2, .int r2)] → W p l e { frames := 1, cells := 0, slots := 0, locals := 21 } s m args below meth c H locs 0 0 (MQ below (st_Q X (st_A S) (some (.int rr)) SE) args s 0 0 (st_A S)) (F0 m 20 ls [.int u0_20, .int (st_fi T2 1007 a0), .ref a0]) := by
    intro S20 u0_20 Hf H locs ls hP hS hl
    unfold j_X9_hasSign_20 at Hf
    refine lv_iadd hx hb dX9_hasSign_20 ?_
    obtain ⟨hk_a0, Hf⟩ := c_g_some Hf
    refine fp_10_7 hx hb hts hown hK hP hS hk_a0 lkf_X9_164 dX9_hasSign_21 (fun H locs hP hS => ?_)
    have Hf := c_l_some Hf
    refine lv_iload_n hx hb dX9_hasSign_24 rfl (lv_at hl 0 rfl) ?_
    obtain ⟨hz, Hf⟩ := c_g_some Hf
    cases Hf
    exact r_zret hx hb hr rfl hz hlocks dX9_hasSign_25 (Nat.le_of_ble_eq_true rfl) (Nat.le_of_ble_eq_true rfl) hP hS
  refine lv_if_eq hx hb dX9_hasSign_12 (tgt := 19) (by decide) (fun hc => ?_) (fun hc => ?_)
  · have Hf := c_i_t Hf hc
    refine lv_iconst (v := 0) hx hb dX9_hasSign_19 (by decide) ?_
    exact hJ20 T2 0 Hf _ _ _ hP hS (lv_sub hl [0] rfl)
  have Hf := c_i_f Hf hc
  refine lv_iconst (v := 1) hx hb dX9_hasSign_15 (by decide) ?_
  refine lv_goto hx hb dX9_hasSign_16 (tgt := 20) (by decide) ?_
  exact hJ20 T2 1 Hf _ _ _ hP hS (lv_sub hl [0] rfl)
