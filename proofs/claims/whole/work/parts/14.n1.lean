set_option maxRecDepth 100000 in
def f_Jxa1e45_init_da8c8 (S : st_T) (a0 : Nat) : Option (Unit × st_T) :=
  (some ((), S))
set_option maxRecDepth 100000 in
set_option maxHeartbeats 4000000 in
theorem s_Jxa1e45_init_da8c8 (l : Launch) (X : st_I) {S SE : st_T} {a0 : Nat} {rr : Unit} (Hf : f_Jxa1e45_init_da8c8 S a0 = some (rr, SE)) : Met l yJxa1e45_init_da8c8 (Cond.code yJxa1e45_init_da8c8 cJxa1e45_init_da8c8 1 (none) :: lw_g) { frames := 1, cells := 0, slots := 0, locals := 24 } (st_P X S [.ref a0]) (st_Q X (st_A S) none SE) 0 0 (st_A S) := by
  refine st_ofW (by decide) (Nat.le_of_ble_eq_true rfl) ?_
  intro p e s m args below meth c hx hb hr hml hlocks hnm hts hown hK hRO hA hP hS ls hl
  have hown : s.vm.findClass RJxa1e45 = some m.cls := hown
  have hl : lv_has ls 1 [(0, .ref a0)] := hl
  unfold f_Jxa1e45_init_da8c8 at Hf
  refine lv_aload_n hx hb dJxa1e45_init_da8c8_0 rfl (lv_at hl 0 rfl) ?_
  refine W.objInit hx hb hown (hts _ (lg_1 122 rfl rfl)) (hts _ (lg_1 98 rfl rfl)) (hts _ (lg_1 99 rfl rfl)) rfl (by rw [hml]; exact hl.1) rfl dJxa1e45_init_da8c8_1 (Nat.le_of_ble_eq_true rfl) (Nat.le_of_ble_eq_true rfl) ?_
  refine W.eq (g2 := F0 m 4 ls []) rfl ?_
  cases Hf
  exact r_vret hx hb hr rfl hlocks dJxa1e45_init_da8c8_4 (Nat.le_of_ble_eq_true rfl) (Nat.le_of_ble_eq_true rfl) hP hS

set_option maxRecDepth 100000 in
def f_Jxc12de_init_da8c8 (S : st_T) (a0 : Nat) : Option (Unit × st_T) :=
  (c_c (f_Jxa1e45_init_da8c8 S a0) (fun (r1 : Unit) (T1 : st_T) => (c_g (st_K T1 a0 = 1) (c_l (st_pi T1 0 a0 0) (fun (S_6 : st_T) => (some ((), S_6)))))))
set_option maxRecDepth 100000 in
set_option maxHeartbeats 4000000 in
theorem s_Jxc12de_init_da8c8 (l : Launch) (X : st_I) {S SE : st_T} {a0 : Nat} {rr : Unit} (Hf : f_Jxc12de_init_da8c8 S a0 = some (rr, SE)) : Met l yJxc12de_init_da8c8 (Cond.code yJxc12de_init_da8c8 cJxc12de_init_da8c8 1 (none) :: lw_g) { frames := 2, cells := 0, slots := 0, locals := 44 } (st_P X S [.ref a0]) (st_Q X (st_A S) none SE) 0 0 (st_A S) := by
  refine st_ofW (by decide) (Nat.le_of_ble_eq_true rfl) ?_
  intro p e s m args below meth c hx hb hr hml hlocks hnm hts hown hK hRO hA hP hS ls hl
  have hown : s.vm.findClass RJxc12de = some m.cls := hown
  have hl : lv_has ls 1 [(0, .ref a0)] := hl
  unfold f_Jxc12de_init_da8c8 at Hf
  refine lv_aload_n hx hb dJxc12de_init_da8c8_0 rfl (lv_at hl 0 rfl) ?_
  obtain ⟨r1, T1, hq1, Hf⟩ := c_c_some Hf
  refine r_cI (n := 0) (As := []) (rest := []) ⟨hx, hb, hml, hown, hts⟩ (s_Jxa1e45_init_da8c8 l X hq1) (lg_ps _ [119, 120, 67, 121] rfl (by decide +kernel)) (by decide +kernel) dJxc12de_init_da8c8_1 rfl rfl ⟨(Nat.le_of_ble_eq_true rfl), (Nat.le_of_ble_eq_true rfl)⟩ rfl hl.1 (Nat.le_of_ble_eq_true rfl) ⟨(Nat.le_of_ble_eq_true rfl), (Nat.le_of_ble_eq_true rfl)⟩ hK hRO hA hP hS (fun H locs hP hS => ?_)
  refine W.eq (g2 := F0 m 4 ls []) rfl ?_
  refine lv_aload_n hx hb dJxc12de_init_da8c8_4 rfl (lv_at hl 0 rfl) ?_
  refine lv_iconst (v := 0) hx hb dJxc12de_init_da8c8_5 (by decide) ?_
  obtain ⟨hk_a0, Hf⟩ := c_g_some Hf
  refine fpA_0_0 hx hb hts hown hK hP hS hk_a0 lkf_Jxc12de_7 dJxc12de_init_da8c8_6 (fun H locs hP hS => ?_)
  obtain ⟨S_6, eS_6, Hf⟩ := c_l_ex Hf
  have hP : st_HP X (st_A S) S_6 H := by rw [eS_6]; exact hP
  cases Hf
  exact r_vret hx hb hr rfl hlocks dJxc12de_init_da8c8_9 (Nat.le_of_ble_eq_true rfl) (Nat.le_of_ble_eq_true rfl) hP hS

set_option maxRecDepth 100000 in
def f_Jx4a65c_init_da8c8 (S : st_T) (a0 : Nat) : Option (Unit × st_T) :=
  (c_c (f_Jxc12de_init_da8c8 S a0) (fun (r1 : Unit) (T1 : st_T) => (c_g (st_K T1 a0 = 1) (c_l (st_pr T1 1 a0 (some (st_sa T1 100))) (fun (S_8 : st_T) => (some ((), S_8)))))))
set_option maxRecDepth 100000 in
set_option maxHeartbeats 4000000 in
theorem s_Jx4a65c_init_da8c8 (l : Launch) (X : st_I) {S SE : st_T} {a0 : Nat} {rr : Unit} (Hf : f_Jx4a65c_init_da8c8 S a0 = some (rr, SE)) : Met l yJx4a65c_init_da8c8 (Cond.code yJx4a65c_init_da8c8 cJx4a65c_init_da8c8 1 (none) :: lw_g) { frames := 3, cells := 0, slots := 0, locals := 64 } (st_P X S [.ref a0]) (st_Q X (st_A S) none SE) 0 0 (st_A S) := by
  refine st_ofW (by decide) (Nat.le_of_ble_eq_true rfl) ?_
  intro p e s m args below meth c hx hb hr hml hlocks hnm hts hown hK hRO hA hP hS ls hl
  have hown : s.vm.findClass RJx4a65c = some m.cls := hown
  have hl : lv_has ls 1 [(0, .ref a0)] := hl
  unfold f_Jx4a65c_init_da8c8 at Hf
  refine lv_aload_n hx hb dJx4a65c_init_da8c8_0 rfl (lv_at hl 0 rfl) ?_
  obtain ⟨r1, T1, hq1, Hf⟩ := c_c_some Hf
  refine r_cI (n := 0) (As := []) (rest := []) ⟨hx, hb, hml, hown, hts⟩ (s_Jxc12de_init_da8c8 l X hq1) (lg_ps _ [116, 117, 68, 118] rfl (by decide +kernel)) (by decide +kernel) dJx4a65c_init_da8c8_1 rfl rfl ⟨(Nat.le_of_ble_eq_true rfl), (Nat.le_of_ble_eq_true rfl)⟩ rfl hl.1 (Nat.le_of_ble_eq_true rfl) ⟨(Nat.le_of_ble_eq_true rfl), (Nat.le_of_ble_eq_true rfl)⟩ hK hRO hA hP hS (fun H locs hP hS => ?_)
  refine W.eq (g2 := F0 m 4 ls []) rfl ?_
  refine lv_aload_n hx hb dJx4a65c_init_da8c8_4 rfl (lv_at hl 0 rfl) ?_
  refine r_getsE (ref := "") hx hb hts hRO hP hS hown lkf_Jx4a65c_39 dJx4a65c_init_da8c8_5 ?_
  obtain ⟨hk_a0, Hf⟩ := c_g_some Hf
  refine fp_0_1 hx hb hts hown hK hP hS hk_a0 lkf_Jx4a65c_9 dJx4a65c_init_da8c8_8 (fun H locs hP hS => ?_)
  obtain ⟨S_8, eS_8, Hf⟩ := c_l_ex Hf
  have hP : st_HP X (st_A S) S_8 H := by rw [eS_8]; exact hP
  cases Hf
  exact r_vret hx hb hr rfl hlocks dJx4a65c_init_da8c8_11 (Nat.le_of_ble_eq_true rfl) (Nat.le_of_ble_eq_true rfl) hP hS

set_option maxRecDepth 100000 in
def f_J8_hugeLength_7cf53 (S : st_T) (x0 : Int32) (x1 : Int32) : Option (Int32 × st_T) :=
  (c_l (x0 + x1) (fun (z2_3 : Int32) => (c_i (0 ≤ z2_3) (c_i (2147483639 < z2_3) (some (z2_3, S)) (some (2147483639, S))) none)))
set_option maxRecDepth 100000 in
set_option maxHeartbeats 4000000 in
theorem s_J8_hugeLength_7cf53 (l : Launch) (X : st_I) {S SE : st_T} {x0 : Int32} {x1 : Int32} {rr : Int32} (Hf : f_J8_hugeLength_7cf53 S x0 x1 = some (rr, SE)) : Met l yJ8_hugeLength_7cf53 (Cond.code yJ8_hugeLength_7cf53 cJ8_hugeLength_7cf53 3 (some .int) :: lw_g) { frames := 0, cells := 0, slots := 0, locals := 0 } (st_P X S [.int x0, .int x1]) (st_Q X (st_A S) (some (.int rr)) SE) 0 0 (st_A S) := by
  refine st_ofW (by decide) (Nat.le_of_ble_eq_true rfl) ?_
  intro p e s m args below meth c hx hb hr hml hlocks hnm hts hown hK hRO hA hP hS ls hl
  have hown : s.vm.findClass RJ8 = some m.cls := hown
  have hl : lv_has ls 3 [(0, .int x0), (1, .int x1)] := hl
  unfold f_J8_hugeLength_7cf53 at Hf
  refine lv_iload_n hx hb dJ8_hugeLength_7cf53_0 rfl (lv_at hl 0 rfl) ?_
  refine lv_iload_n hx hb dJ8_hugeLength_7cf53_1 rfl (lv_at hl 1 rfl) ?_
  refine lv_iadd hx hb dJ8_hugeLength_7cf53_2 ?_
  refine lv_topi (fun z2_3 ez2_3 => ?_)
  have Hf := c_l_ren Hf ez2_3
  refine lv_istore_n (lv' := [(2, .int z2_3), (0, .int x0), (1, .int x1)]) hx hb dJ8_hugeLength_7cf53_3 rfl hl (by decide) rfl (fun ls hl => ?_)
  refine lv_iload_n hx hb dJ8_hugeLength_7cf53_4 rfl (lv_at hl 0 rfl) ?_
  refine lv_if_ge hx hb dJ8_hugeLength_7cf53_5 (tgt := 49) (by decide) (fun hc => ?_) (fun hc => ?_)
  · have Hf := c_i_t Hf hc
    refine lv_iload_n hx hb dJ8_hugeLength_7cf53_49 rfl (lv_at hl 0 rfl) ?_
    refine lv_ldc hx hb hown (hts _ lkc_J8_200) dJ8_hugeLength_7cf53_50 ?_
    refine lv_icmp_gt hx hb dJ8_hugeLength_7cf53_52 (tgt := 58) (by decide) (fun hc => ?_) (fun hc => ?_)
    · have Hf := c_i_t Hf hc
      refine lv_iload_n hx hb dJ8_hugeLength_7cf53_58 rfl (lv_at hl 0 rfl) ?_
      cases Hf
      exact r_iret hx hb hr rfl hlocks dJ8_hugeLength_7cf53_59 (Nat.le_of_ble_eq_true rfl) (Nat.le_of_ble_eq_true rfl) hP hS
    have Hf := c_i_f Hf hc
    refine lv_ldc hx hb hown (hts _ lkc_J8_200) dJ8_hugeLength_7cf53_55 ?_
    cases Hf
    exact r_iret hx hb hr rfl hlocks dJ8_hugeLength_7cf53_57 (Nat.le_of_ble_eq_true rfl) (Nat.le_of_ble_eq_true rfl) hP hS
  have Hf := c_i_f Hf hc
  cases Hf

def j_J8_newLength_cabcc_21 (x0 : Int32) (x1 : Int32) (S21 : st_T) : Option (Int32 × st_T) :=
  (c_c (f_J8_hugeLength_7cf53 S21 x0 x1) (fun (r23 : Int32) (T23 : st_T) => (some (r23, T23))))
set_option maxRecDepth 100000 in
def f_J8_newLength_cabcc (S : st_T) (x0 : Int32) (x1 : Int32) (x2 : Int32) : Option (Int32 × st_T) :=
  (c_l (x0 + (if x1 < x2 then x2 else x1)) (fun (z3_7 : Int32) => (c_i (z3_7 ≤ 0) (j_J8_newLength_cabcc_21 x0 x1 S) (c_i (2147483639 < z3_7) (j_J8_newLength_cabcc_21 x0 x1 S) (some (z3_7, S))))))
set_option maxRecDepth 100000 in
set_option maxHeartbeats 4000000 in
theorem s_J8_newLength_cabcc (l : Launch) (X : st_I) {S SE : st_T} {x0 : Int32} {x1 : Int32} {x2 : Int32} {rr : Int32} (Hf : f_J8_newLength_cabcc S x0 x1 x2 = some (rr, SE)) : Met l yJ8_newLength_cabcc (Cond.code yJ8_newLength_cabcc cJ8_newLength_cabcc 4 (some .int) :: lw_g) { frames := 1, cells := 0, slots := 0, locals := 24 } (st_P X S [.int x0, .int x1, .int x2]) (st_Q X (st_A S) (some (.int rr)) SE) 0 0 (st_A S) := by
  refine st_ofW (by decide) (Nat.le_of_ble_eq_true rfl) ?_
  intro p e s m args below meth c hx hb hr hml hlocks hnm hts hown hK hRO hA hP hS ls hl
  have hown : s.vm.findClass RJ8 = some m.cls := hown
  have hl : lv_has ls 4 [(0, .int x0), (1, .int x1), (2, .int x2)] := hl
  unfold f_J8_newLength_cabcc at Hf
  refine lv_iload_n hx hb dJ8_newLength_cabcc_0 rfl (lv_at hl 0 rfl) ?_
  refine lv_iload_n hx hb dJ8_newLength_cabcc_1 rfl (lv_at hl 1 rfl) ?_
  refine lv_iload_n hx hb dJ8_newLength_cabcc_2 rfl (lv_at hl 2 rfl) ?_
  refine va_mmax hx hb (hml.trans hl.1.symm) hown (hts _ (lg_1 405 rfl rfl)) (hts _ (lg_1 406 rfl rfl)) (hts _ (lg_1 80 rfl rfl)) (hts _ (lg_1 407 rfl rfl)) (Nat.le_of_ble_eq_true rfl) (Nat.le_of_ble_eq_true rfl) (Nat.le_of_ble_eq_true rfl) (Nat.le_of_ble_eq_true rfl) dJ8_newLength_cabcc_3 ?_
  refine lv_iadd hx hb dJ8_newLength_cabcc_6 ?_
  refine lv_topi (fun z3_7 ez3_7 => ?_)
  have Hf := c_l_ren Hf ez3_7
  refine lv_istore_n (lv' := [(3, .int z3_7), (0, .int x0), (1, .int x1), (2, .int x2)]) hx hb dJ8_newLength_cabcc_7 rfl hl (by decide) rfl (fun ls hl => ?_)
  refine lv_iconst (v := 0) hx hb dJ8_newLength_cabcc_8 (by decide) ?_
  refine lv_iload_n hx hb dJ8_newLength_cabcc_9 rfl (lv_at hl 0 rfl) ?_
  have hJ21 : ∀ (S21 : st_T), j_J8_newLength_cabcc_21 x0 x1 S21 = some (rr, SE) → ∀ (H : Heap) (locs : List Loc) (ls : Array Slot), st_HP X (st_A S) S21 H → va_S (st_A S) s.heap H locs → lv_has ls 4 [(0, .int x0), (1, .int x1)] → W p l e { frames := 1, cells := 0, slots := 0, locals := 24 } s m args below meth c H locs 0 0 (MQ below (st_Q X (st_A S) (some (.int rr)) SE) args s 0 0 (st_A S)) (F0 m 21 ls []) := by
    intro S21 Hf H locs ls hP hS hl
    unfold j_J8_newLength_cabcc_21 at Hf
    refine lv_iload_n hx hb dJ8_newLength_cabcc_21 rfl (lv_at hl 0 rfl) ?_
    refine lv_iload_n hx hb dJ8_newLength_cabcc_22 rfl (lv_at hl 1 rfl) ?_
    obtain ⟨r23, T23, hq23, Hf⟩ := c_c_some Hf
    refine r_cS (n := 2) (As := [.int x0, .int x1]) (rest := []) ⟨hx, hb, hml, hown, hts⟩ (s_J8_hugeLength_7cf53 l X hq23) lkm_J8_201 (by decide +kernel) dJ8_newLength_cabcc_23 rfl rfl ⟨Nat.le_of_ble_eq_true rfl, Nat.le_of_ble_eq_true rfl⟩ rfl hl.1 (Nat.le_of_ble_eq_true rfl) ⟨Nat.le_of_ble_eq_true rfl, Nat.le_of_ble_eq_true rfl⟩ hK hRO hA hP hS (fun H locs hP hS => ?_)
    refine W.eq (g2 := F0 m 26 ls [.int r23]) rfl ?_
    cases Hf
    exact r_iret hx hb hr rfl hlocks dJ8_newLength_cabcc_26 (Nat.le_of_ble_eq_true rfl) (Nat.le_of_ble_eq_true rfl) hP hS
  refine lv_icmp_ge hx hb dJ8_newLength_cabcc_10 (tgt := 21) (by decide) (fun hc => ?_) (fun hc => ?_)
  · have Hf := c_i_t Hf hc
    exact hJ21 S Hf _ _ _ hP hS (lv_sub hl [1, 2] rfl)
  have Hf := c_i_f Hf hc
  refine lv_iload_n hx hb dJ8_newLength_cabcc_13 rfl (lv_at hl 0 rfl) ?_
  refine lv_ldc hx hb hown (hts _ lkc_J8_200) dJ8_newLength_cabcc_14 ?_
  refine lv_icmp_gt hx hb dJ8_newLength_cabcc_16 (tgt := 21) (by decide) (fun hc => ?_) (fun hc => ?_)
  · have Hf := c_i_t Hf hc
    exact hJ21 S Hf _ _ _ hP hS (lv_sub hl [1, 2] rfl)
  have Hf := c_i_f Hf hc
  refine lv_iload_n hx hb dJ8_newLength_cabcc_19 rfl (lv_at hl 0 rfl) ?_
  cases Hf
  exact r_iret hx hb hr rfl hlocks dJ8_newLength_cabcc_20 (Nat.le_of_ble_eq_true rfl) (Nat.le_of_ble_eq_true rfl) hP hS

set_option maxRecDepth 100000 in
def f_J7_copyOf_6403c (S : st_T) (x0 : Nat) (x1 : Int32) (x2 : Nat) : Option (Option Nat × st_T) :=
  (c_i (x2 = (st_sa S 101)) (c_g (¬ (x1 : Int32) < 0 ∧ (x1 : Int32).toNatClampNeg ≤ 64) (c_l (st_nx S) (fun (n7 : Nat) => (c_l (st_na S 24 (x1 : Int32).toNatClampNeg) (fun (S_7 : st_T) => (c_g ((20 ≤ st_K S_7 x0 ∧ st_K S_7 x0 < 25) ∨ st_K S_7 x0 = 30) (c_g (st_K S_7 x0 = 24) (c_g (st_K S_7 n7 = 24) (c_g (¬ (0 : Int32) < 0 ∧ ¬ (0 : Int32) < 0 ∧ ¬ ((if x1 < (nI (st_ln S_7 x0)) then x1 else (nI (st_ln S_7 x0))) : Int32) < 0 ∧ (0 : Int32).toNatClampNeg + ((if x1 < (nI (st_ln S_7 x0)) then x1 else (nI (st_ln S_7 x0))) : Int32).toNatClampNeg ≤ st_ln S_7 x0 ∧ (0 : Int32).toNatClampNeg + ((if x1 < (nI (st_ln S_7 x0)) then x1 else (nI (st_ln S_7 x0))) : Int32).toNatClampNeg ≤ st_ln S_7 n7 ∧ el_all S_7 x0 (0 : Int32).toNatClampNeg ((if x1 < (nI (st_ln S_7 x0)) then x1 else (nI (st_ln S_7 x0))) : Int32).toNatClampNeg = true) (c_l (st_xo S_7 n7 (va_cpy (st_ro S_7 x0) (st_ro S_7 n7) (0 : Int32).toNatClampNeg (0 : Int32).toNatClampNeg ((if x1 < (nI (st_ln S_7 x0)) then x1 else (nI (st_ln S_7 x0))) : Int32).toNatClampNeg)) (fun (S_35 : st_T) => (some ((some n7), S_35))))))))))))) none)
set_option maxRecDepth 100000 in
set_option maxHeartbeats 4000000 in
theorem s_J7_copyOf_6403c (l : Launch) (X : st_I) {S SE : st_T} {x0 : Nat} {x1 : Int32} {x2 : Nat} {rr : Option Nat} (Hf : f_J7_copyOf_6403c S x0 x1 x2 = some (rr, SE)) : Met l yJ7_copyOf_6403c (Cond.code yJ7_copyOf_6403c cJ7_copyOf_6403c 4 (some (.array (.object "java/lang/Object"))) :: lw_g) { frames := 1, cells := 1, slots := 64, locals := 96 } (st_P X S [.ref x0, .int x1, .ref x2]) (st_Q X (st_A S) (some (va_rf rr)) SE) 1 64 (st_A S) := by
  refine st_ofW (by decide) (Nat.le_of_ble_eq_true rfl) ?_
  intro p e s m args below meth c hx hb hr hml hlocks hnm hts hown hK hRO hA hP hS ls hl
  have hown : s.vm.findClass RJ7 = some m.cls := hown
  have hl : lv_has ls 4 [(0, .ref x0), (1, .int x1), (2, .ref x2)] := hl
  unfold f_J7_copyOf_6403c at Hf
  refine lv_aload_n hx hb dJ7_copyOf_6403c_0 rfl (lv_at hl 2 rfl) ?_
  refine r_ldcM hx hb hts hown (lg_1 434 rfl rfl) hRO hP dJ7_copyOf_6403c_1 ?_
  refine lv_acmp_ne (rx := some x2) (ry := some (st_sa S 101)) hx hb dJ7_copyOf_6403c_3 (tgt := 13) (by decide) (fun hc => ?_) (fun hc => ?_)
  · have Hf := c_i_f Hf (fun h => hc (congrArg some h))
    refine lv_aload_n hx hb dJ7_copyOf_6403c_13 rfl (lv_at hl 2 rfl) ?_
    cases Hf
  have Hf := c_i_t Hf (Option.some.inj hc)
  refine lv_iload_n hx hb dJ7_copyOf_6403c_6 rfl (lv_at hl 1 rfl) ?_
  obtain ⟨hn7, Hf⟩ := c_g_some Hf
  obtain ⟨n7, en7, Hf⟩ := c_l_ex Hf
  obtain ⟨S_7, eS_7, Hf⟩ := c_l_ex Hf
  refine r_newq (B := 64) hx hb hts hown (lg_1 436 rfl rfl) hK hRO hA hP hS hn7 (by decide) en7 eS_7 (Nat.le_of_ble_eq_true rfl) (Nat.le_of_ble_eq_true rfl) dJ7_copyOf_6403c_7 (fun H hP hS => ?_)
  refine W.eq (g2 := F0 m 10 ls [.ref n7]) rfl ?_
  refine lv_goto hx hb dJ7_copyOf_6403c_10 (tgt := 24) (by decide) ?_
  refine lv_astore_n (lv' := [(3, .ref n7), (0, .ref x0), (1, .int x1), (2, .ref x2)]) hx hb dJ7_copyOf_6403c_24 rfl hl (by decide) rfl (fun ls hl => ?_)
  refine lv_aload_n hx hb dJ7_copyOf_6403c_25 rfl (lv_at hl 1 rfl) ?_
  refine lv_iconst (v := 0) hx hb dJ7_copyOf_6403c_26 (by decide) ?_
  refine lv_aload_n hx hb dJ7_copyOf_6403c_27 rfl (lv_at hl 0 rfl) ?_
  refine lv_iconst (v := 0) hx hb dJ7_copyOf_6403c_28 (by decide) ?_
  refine lv_aload_n hx hb dJ7_copyOf_6403c_29 rfl (lv_at hl 1 rfl) ?_
  obtain ⟨hl30, Hf⟩ := c_g_some Hf
  refine r_alen2 hx hb hK hRO hP hS hl30 dJ7_copyOf_6403c_30 ?_
  refine lv_iload_n hx hb dJ7_copyOf_6403c_31 rfl (lv_at hl 2 rfl) ?_
  refine va_mmin hx hb (hml.trans hl.1.symm) hown (hts _ (lg_1 437 rfl rfl)) (hts _ (lg_1 438 rfl rfl)) (hts _ (lg_1 80 rfl rfl)) (hts _ (lg_1 439 rfl rfl)) (Nat.le_of_ble_eq_true rfl) (Nat.le_of_ble_eq_true rfl) (Nat.le_of_ble_eq_true rfl) (Nat.le_of_ble_eq_true rfl) dJ7_copyOf_6403c_32 ?_
  obtain ⟨hk_x0, Hf⟩ := c_g_some Hf
  obtain ⟨hk_n7, Hf⟩ := c_g_some Hf
  obtain ⟨hg35, Hf⟩ := c_g_some Hf
  refine r_copyq hx hb (hml.trans hl.1.symm) hown (hts _ (lg_1 440 rfl rfl)) (hts _ (lg_1 442 rfl rfl)) (hts _ (lg_1 441 rfl rfl)) (hts _ (lg_1 82 rfl rfl)) hK hRO hP hS hk_x0 hk_n7 hg35 (Nat.le_of_ble_eq_true rfl) (by decide) dJ7_copyOf_6403c_35 (fun H locs hP hS => ?_)
  obtain ⟨S_35, eS_35, Hf⟩ := c_l_ex Hf
  have hP : st_HP X (st_A S) S_35 H := by rw [eS_35]; exact hP
  refine lv_aload_n hx hb dJ7_copyOf_6403c_38 rfl (lv_at hl 0 rfl) ?_
  cases Hf
  exact r_aret (v := (some n7)) hx hb hr rfl (Or.inr ⟨_, rfl⟩) hlocks dJ7_copyOf_6403c_39 (Nat.le_of_ble_eq_true rfl) (Nat.le_of_ble_eq_true rfl) hP hS

set_option maxRecDepth 100000 in
def f_J7_copyOf_1904c (S : st_T) (x0 : Nat) (x1 : Int32) : Option (Option Nat × st_T) :=
  (c_g (st_K S x0 = 24) (c_c (f_J7_copyOf_6403c S x0 x1 (st_sa S 101)) (fun (r6 : Option Nat) (T6 : st_T) => (c_n r6 (fun (p6 : Nat) => (some ((some p6), T6)))))))
set_option maxRecDepth 100000 in
set_option maxHeartbeats 4000000 in
theorem s_J7_copyOf_1904c (l : Launch) (X : st_I) {S SE : st_T} {x0 : Nat} {x1 : Int32} {rr : Option Nat} (Hf : f_J7_copyOf_1904c S x0 x1 = some (rr, SE)) : Met l yJ7_copyOf_1904c (Cond.code yJ7_copyOf_1904c cJ7_copyOf_1904c 2 (some (.array (.object "java/lang/Object"))) :: lw_g) { frames := 2, cells := 1, slots := 64, locals := 119 } (st_P X S [.ref x0, .int x1]) (st_Q X (st_A S) (some (va_rf rr)) SE) 1 64 (st_A S) := by
  refine st_ofW (by decide) (Nat.le_of_ble_eq_true rfl) ?_
  intro p e s m args below meth c hx hb hr hml hlocks hnm hts hown hK hRO hA hP hS ls hl
  have hown : s.vm.findClass RJ7 = some m.cls := hown
  have hl : lv_has ls 2 [(0, .ref x0), (1, .int x1)] := hl
  unfold f_J7_copyOf_1904c at Hf
  refine lv_aload_n hx hb dJ7_copyOf_1904c_0 rfl (lv_at hl 0 rfl) ?_
  refine lv_iload_n hx hb dJ7_copyOf_1904c_1 rfl (lv_at hl 1 rfl) ?_
  refine lv_aload_n hx hb dJ7_copyOf_1904c_2 rfl (lv_at hl 0 rfl) ?_
  obtain ⟨hk_x0, Hf⟩ := c_g_some Hf
  refine r_getC hx hb (hml.trans hl.1.symm) hown (hts _ (lg_1 415 rfl rfl)) (List.mem_of_getElem? (i := 1341) rfl) (hts _ (lg_1 1340 rfl rfl)) (hts _ (lg_1 416 rfl rfl)) (hts _ (lg_1 430 rfl rfl)) hK hRO hP hk_x0 (Nat.le_of_ble_eq_true rfl) (Nat.le_of_ble_eq_true rfl) dJ7_copyOf_1904c_3 ?_
  obtain ⟨r6, T6, hq6, Hf⟩ := c_c_some Hf
  refine r_cS (n := 3) (As := [.ref x0, .int x1, .ref (st_sa S 101)]) (rest := []) ⟨hx, hb, hml, hown, hts⟩ (s_J7_copyOf_6403c l X hq6) lkm_J7_300 (by decide +kernel) dJ7_copyOf_1904c_6 rfl rfl ⟨Nat.le_of_ble_eq_true rfl, Nat.le_of_ble_eq_true rfl⟩ rfl hl.1 (Nat.le_of_ble_eq_true rfl) ⟨Nat.le_of_ble_eq_true rfl, Nat.le_of_ble_eq_true rfl⟩ hK hRO hA hP hS (fun H locs hP hS => ?_)
  obtain ⟨p6, ep6, Hf⟩ := c_n_some Hf
  subst ep6
  refine W.eq (g2 := F0 m 9 ls [.ref p6]) rfl ?_
  cases Hf
  exact r_aret (v := (some p6)) hx hb hr rfl (Or.inr ⟨_, rfl⟩) hlocks dJ7_copyOf_1904c_9 (Nat.le_of_ble_eq_true rfl) (Nat.le_of_ble_eq_true rfl) hP hS

set_option maxRecDepth 100000 in
def f_J7_copyOf_59c91 (S : st_T) (x0 : Nat) (x1 : Int32) : Option (Option Nat × st_T) :=
  (c_g ((20 ≤ st_K S x0 ∧ st_K S x0 < 25) ∨ st_K S x0 = 30) (c_i (x1 = (nI (st_ln S x0))) (c_g (st_K S x0 = 20) (c_g (st_ln S x0 ≤ 800) (c_l (st_nx S) (fun (n7 : Nat) => (c_l (st_xi (st_na S 20 (st_ln S x0)) (st_nx S) (st_ri S x0)) (fun (S_7 : st_T) => (c_g (st_K S_7 n7 = 20) (some ((some n7), S_7))))))))) (c_g (¬ (x1 : Int32) < 0 ∧ (x1 : Int32).toNatClampNeg ≤ 800) (c_l (st_nx S) (fun (n15 : Nat) => (c_l (st_na S 20 (x1 : Int32).toNatClampNeg) (fun (S_15 : st_T) => (c_g ((20 ≤ st_K S_15 x0 ∧ st_K S_15 x0 < 25) ∨ st_K S_15 x0 = 30) (c_g (st_K S_15 x0 = 20) (c_g (st_K S_15 n15 = 20) (c_g (¬ (0 : Int32) < 0 ∧ ¬ (0 : Int32) < 0 ∧ ¬ ((if x1 < (nI (st_ln S_15 x0)) then x1 else (nI (st_ln S_15 x0))) : Int32) < 0 ∧ (0 : Int32).toNatClampNeg + ((if x1 < (nI (st_ln S_15 x0)) then x1 else (nI (st_ln S_15 x0))) : Int32).toNatClampNeg ≤ st_ln S_15 x0 ∧ (0 : Int32).toNatClampNeg + ((if x1 < (nI (st_ln S_15 x0)) then x1 else (nI (st_ln S_15 x0))) : Int32).toNatClampNeg ≤ st_ln S_15 n15) (c_l (st_xi S_15 n15 (va_cpy (st_ri S_15 x0) (st_ri S_15 n15) (0 : Int32).toNatClampNeg (0 : Int32).toNatClampNeg ((if x1 < (nI (st_ln S_15 x0)) then x1 else (nI (st_ln S_15 x0))) : Int32).toNatClampNeg)) (fun (S_28 : st_T) => (some ((some n15), S_28)))))))))))))))
set_option maxRecDepth 100000 in
set_option maxHeartbeats 4000000 in
theorem s_J7_copyOf_59c91 (l : Launch) (X : st_I) {S SE : st_T} {x0 : Nat} {x1 : Int32} {rr : Option Nat} (Hf : f_J7_copyOf_59c91 S x0 x1 = some (rr, SE)) : Met l yJ7_copyOf_59c91 (Cond.code yJ7_copyOf_59c91 cJ7_copyOf_59c91 3 (some (.array .int)) :: lw_g) { frames := 1, cells := 1, slots := 800, locals := 96 } (st_P X S [.ref x0, .int x1]) (st_Q X (st_A S) (some (va_rf rr)) SE) 1 800 (st_A S) := by
  refine st_ofW (by decide) (Nat.le_of_ble_eq_true rfl) ?_
  intro p e s m args below meth c hx hb hr hml hlocks hnm hts hown hK hRO hA hP hS ls hl
  have hown : s.vm.findClass RJ7 = some m.cls := hown
  have hl : lv_has ls 3 [(0, .ref x0), (1, .int x1)] := hl
  unfold f_J7_copyOf_59c91 at Hf
  refine lv_iload_n hx hb dJ7_copyOf_59c91_0 rfl (lv_at hl 1 rfl) ?_
  refine lv_aload_n hx hb dJ7_copyOf_59c91_1 rfl (lv_at hl 0 rfl) ?_
  obtain ⟨hl2, Hf⟩ := c_g_some Hf
  refine r_alen2 hx hb hK hRO hP hS hl2 dJ7_copyOf_59c91_2 ?_
  refine lv_icmp_ne hx hb dJ7_copyOf_59c91_3 (tgt := 14) (by decide) (fun hc => ?_) (fun hc => ?_)
  · have Hf := c_i_f Hf hc
    refine lv_iload_n hx hb dJ7_copyOf_59c91_14 rfl (lv_at hl 1 rfl) ?_
    obtain ⟨hn15, Hf⟩ := c_g_some Hf
    obtain ⟨n15, en15, Hf⟩ := c_l_ex Hf
    obtain ⟨S_15, eS_15, Hf⟩ := c_l_ex Hf
    refine r_newI (B := 800) hx hb hts (lg_1 110 rfl rfl) hK hA hP hS hn15 (by decide) en15 eS_15 (Nat.le_of_ble_eq_true rfl) (Nat.le_of_ble_eq_true rfl) dJ7_copyOf_59c91_15 (fun H hP hS => ?_)
    refine W.eq (g2 := F0 m 17 ls [.ref n15]) rfl ?_
    refine lv_astore_n (lv' := [(2, .ref n15), (0, .ref x0), (1, .int x1)]) hx hb dJ7_copyOf_59c91_17 rfl hl (by decide) rfl (fun ls hl => ?_)
    refine lv_aload_n hx hb dJ7_copyOf_59c91_18 rfl (lv_at hl 1 rfl) ?_
    refine lv_iconst (v := 0) hx hb dJ7_copyOf_59c91_19 (by decide) ?_
    refine lv_aload_n hx hb dJ7_copyOf_59c91_20 rfl (lv_at hl 0 rfl) ?_
    refine lv_iconst (v := 0) hx hb dJ7_copyOf_59c91_21 (by decide) ?_
    refine lv_aload_n hx hb dJ7_copyOf_59c91_22 rfl (lv_at hl 1 rfl) ?_
    obtain ⟨hl23, Hf⟩ := c_g_some Hf
    refine r_alen2 hx hb hK hRO hP hS hl23 dJ7_copyOf_59c91_23 ?_
    refine lv_iload_n hx hb dJ7_copyOf_59c91_24 rfl (lv_at hl 2 rfl) ?_
    refine va_mmin hx hb (hml.trans hl.1.symm) hown (hts _ (lg_1 437 rfl rfl)) (hts _ (lg_1 438 rfl rfl)) (hts _ (lg_1 80 rfl rfl)) (hts _ (lg_1 439 rfl rfl)) (Nat.le_of_ble_eq_true rfl) (Nat.le_of_ble_eq_true rfl) (Nat.le_of_ble_eq_true rfl) (Nat.le_of_ble_eq_true rfl) dJ7_copyOf_59c91_25 ?_
    obtain ⟨hk_x0, Hf⟩ := c_g_some Hf
    obtain ⟨hk_n15, Hf⟩ := c_g_some Hf
    obtain ⟨hg28, Hf⟩ := c_g_some Hf
    refine r_copyi hx hb (hml.trans hl.1.symm) hown (hts _ (lg_1 440 rfl rfl)) (hts _ (lg_1 442 rfl rfl)) (hts _ (lg_1 441 rfl rfl)) (hts _ (lg_1 82 rfl rfl)) hK hP hS hk_x0 hk_n15 hg28 (Nat.le_of_ble_eq_true rfl) (by decide) dJ7_copyOf_59c91_28 (fun H locs hP hS => ?_)
    obtain ⟨S_28, eS_28, Hf⟩ := c_l_ex Hf
    have hP : st_HP X (st_A S) S_28 H := by rw [eS_28]; exact hP
    refine lv_aload_n hx hb dJ7_copyOf_59c91_31 rfl (lv_at hl 0 rfl) ?_
    cases Hf
    exact r_aret (v := (some n15)) hx hb hr rfl (Or.inr ⟨_, rfl⟩) hlocks dJ7_copyOf_59c91_32 (Nat.le_of_ble_eq_true rfl) (Nat.le_of_ble_eq_true rfl) hP hS
  have Hf := c_i_t Hf hc
  refine lv_aload_n hx hb dJ7_copyOf_59c91_6 rfl (lv_at hl 0 rfl) ?_
  obtain ⟨hk_x0, Hf⟩ := c_g_some Hf
  obtain ⟨hg7, Hf⟩ := c_g_some Hf
  obtain ⟨n7, en7, Hf⟩ := c_l_ex Hf
  obtain ⟨S_7, eS_7, Hf⟩ := c_l_ex Hf
  refine r_clone (B := 800) hx hb (hml.trans hl.1.symm) hown (hts _ (lg_1 693 rfl rfl)) (hts _ (lg_1 694 rfl rfl)) (hts _ (lg_1 695 rfl rfl)) (hts _ (lg_1 696 rfl rfl)) (hts _ (lg_1 697 rfl rfl)) (List.mem_of_getElem? (i := 698) rfl) hK hRO hA hP hS hk_x0 hg7 en7 eS_7 (Nat.le_of_ble_eq_true rfl) (Nat.le_of_ble_eq_true rfl) (Nat.le_of_ble_eq_true rfl) (Nat.le_of_ble_eq_true rfl) dJ7_copyOf_59c91_7 (fun H hP hS => ?_)
  refine W.eq (g2 := F0 m 10 ls [.ref n7]) rfl ?_
  obtain ⟨hk_n7, Hf⟩ := c_g_some Hf
  refine r_castI hx hb hts hown (lg_1 699 rfl rfl) hK hP hk_n7 dJ7_copyOf_59c91_10 ?_
  cases Hf
  exact r_aret (v := (some n7)) hx hb hr rfl (Or.inr ⟨_, rfl⟩) hlocks dJ7_copyOf_59c91_13 (Nat.le_of_ble_eq_true rfl) (Nat.le_of_ble_eq_true rfl) hP hS

def j_Jx4a65c_grow_92f84_20 (a0 : Nat) (x1 : Int32) (z2_5 : Int32) (S20 : st_T) : Option (Option Nat × st_T) :=
  (c_c (f_J8_newLength_cabcc S20 z2_5 (x1 - z2_5) (z2_5 >>> (1 &&& 31))) (fun (r27 : Int32) (T27 : st_T) => (c_g (st_K T27 a0 = 1) (c_n (st_fr T27 1 a0) (fun (q33 : Nat) => (c_c (f_J7_copyOf_1904c T27 q33 r27) (fun (r37 : Option Nat) (T37 : st_T) => (c_n r37 (fun (p37 : Nat) => (c_g (st_K T37 a0 = 1) (c_l (st_pr T37 1 a0 (some p37)) (fun (S_41 : st_T) => (some ((some p37), S_41))))))))))))))
set_option maxRecDepth 100000 in
def f_Jx4a65c_grow_92f84 (S : st_T) (a0 : Nat) (x1 : Int32) : Option (Option Nat × st_T) :=
  (c_g (st_K S a0 = 1) (c_n (st_fr S 1 a0) (fun (q1 : Nat) => (c_g ((20 ≤ st_K S q1 ∧ st_K S q1 < 25) ∨ st_K S q1 = 30) (c_l (nI (st_ln S q1)) (fun (z2_5 : Int32) => (c_i (0 < z2_5) (j_Jx4a65c_grow_92f84_20 a0 x1 z2_5 S) (c_i (q1 = (st_sa S 100)) (c_g (¬ ((if 10 < x1 then x1 else 10) : Int32) < 0 ∧ ((if 10 < x1 then x1 else 10) : Int32).toNatClampNeg ≤ 64) (c_l (st_nx S) (fun (n52 : Nat) => (c_l (st_na S 24 ((if 10 < x1 then x1 else 10) : Int32).toNatClampNeg) (fun (S_52 : st_T) => (c_g (st_K S_52 a0 = 1) (c_l (st_pr S_52 1 a0 (some n52)) (fun (S_56 : st_T) => (some ((some n52), S_56)))))))))) (j_Jx4a65c_grow_92f84_20 a0 x1 z2_5 S)))))))))
set_option maxRecDepth 100000 in
set_option maxHeartbeats 4000000 in
theorem s_Jx4a65c_grow_92f84 (l : Launch) (X : st_I) {S SE : st_T} {a0 : Nat} {x1 : Int32} {rr : Option Nat} (Hf : f_Jx4a65c_grow_92f84 S a0 x1 = some (rr, SE)) : Met l yJx4a65c_grow_92f84 (Cond.code yJx4a65c_grow_92f84 cJx4a65c_grow_92f84 4 (some (.array (.object "java/lang/Object"))) :: lw_g) { frames := 3, cells := 1, slots := 64, locals := 140 } (st_P X S [.ref a0, .int x1]) (st_Q X (st_A S) (some (va_rf rr)) SE) 1 64 (st_A S) := by
  refine st_ofW (by decide) (Nat.le_of_ble_eq_true rfl) ?_
  intro p e s m args below meth c hx hb hr hml hlocks hnm hts hown hK hRO hA hP hS ls hl
  have hown : s.vm.findClass RJx4a65c = some m.cls := hown
  have hl : lv_has ls 4 [(0, .ref a0), (1, .int x1)] := hl
  unfold f_Jx4a65c_grow_92f84 at Hf
  refine lv_aload_n hx hb dJx4a65c_grow_92f84_0 rfl (lv_at hl 0 rfl) ?_
  obtain ⟨hk_a0, Hf⟩ := c_g_some Hf
  obtain ⟨q1, hq1, Hf⟩ := c_n_some Hf
  refine fg_0_1 hx hb hts hown hK hP hk_a0 lkf_Jx4a65c_9 hq1 dJx4a65c_grow_92f84_1 ?_
  obtain ⟨hl4, Hf⟩ := c_g_some Hf
  refine r_alen2 hx hb hK hRO hP hS hl4 dJx4a65c_grow_92f84_4 ?_
  refine lv_topi (fun z2_5 ez2_5 => ?_)
  have Hf := c_l_ren Hf ez2_5
  refine lv_istore_n (lv' := [(2, .int z2_5), (0, .ref a0), (1, .int x1)]) hx hb dJx4a65c_grow_92f84_5 rfl hl (by decide) rfl (fun ls hl => ?_)
  refine lv_iload_n hx hb dJx4a65c_grow_92f84_6 rfl (lv_at hl 0 rfl) ?_
  have hJ20 : ∀ (S20 : st_T), j_Jx4a65c_grow_92f84_20 a0 x1 z2_5 S20 = some (rr, SE) → ∀ (H : Heap) (locs : List Loc) (ls : Array Slot), st_HP X (st_A S) S20 H → va_S (st_A S) s.heap H locs → lv_has ls 4 [(0, .ref a0), (1, .int x1), (2, .int z2_5)] → W p l e { frames := 3, cells := 1, slots := 64, locals := 140 } s m args below meth c H locs 0 0 (MQ below (st_Q X (st_A S) (some (va_rf rr)) SE) args s 1 64 (st_A S)) (F0 m 20 ls []) := by
    intro S20 Hf H locs ls hP hS hl
    unfold j_Jx4a65c_grow_92f84_20 at Hf
    refine lv_iload_n hx hb dJx4a65c_grow_92f84_20 rfl (lv_at hl 2 rfl) ?_
    refine lv_iload_n hx hb dJx4a65c_grow_92f84_21 rfl (lv_at hl 1 rfl) ?_
    refine lv_iload_n hx hb dJx4a65c_grow_92f84_22 rfl (lv_at hl 2 rfl) ?_
    refine lv_isub hx hb dJx4a65c_grow_92f84_23 ?_
    refine lv_iload_n hx hb dJx4a65c_grow_92f84_24 rfl (lv_at hl 2 rfl) ?_
    refine lv_iconst (v := 1) hx hb dJx4a65c_grow_92f84_25 (by decide) ?_
    refine lv_ishr hx hb dJx4a65c_grow_92f84_26 ?_
    obtain ⟨r27, T27, hq27, Hf⟩ := c_c_some Hf
    refine r_cX (n := 3) (As := [.int z2_5, .int (x1 - z2_5), .int (z2_5 >>> (1 &&& 31))]) (rest := []) ⟨hx, hb, hml, hown, hts⟩ (s_J8_newLength_cabcc l X hq27) lkm_Jx4a65c_73 (by decide +kernel) dJx4a65c_grow_92f84_27 rfl rfl ⟨Nat.le_of_ble_eq_true rfl, Nat.le_of_ble_eq_true rfl⟩ rfl hl.1 (Nat.le_of_ble_eq_true rfl) ⟨Nat.le_of_ble_eq_true rfl, Nat.le_of_ble_eq_true rfl⟩ hK hRO hA hP hS (fun H locs hP hS => ?_)
    refine W.eq (g2 := F0 m 30 ls [.int r27]) rfl ?_
    refine lv_istore_n (lv' := [(3, .int r27), (0, .ref a0), (1, .int x1), (2, .int z2_5)]) hx hb dJx4a65c_grow_92f84_30 rfl hl (by decide) rfl (fun ls hl => ?_)
    refine lv_aload_n hx hb dJx4a65c_grow_92f84_31 rfl (lv_at hl 1 rfl) ?_
    refine lv_aload_n hx hb dJx4a65c_grow_92f84_32 rfl (lv_at hl 1 rfl) ?_
    obtain ⟨hk_a0, Hf⟩ := c_g_some Hf
    obtain ⟨q33, hq33, Hf⟩ := c_n_some Hf
    refine fg_0_1 hx hb hts hown hK hP hk_a0 lkf_Jx4a65c_9 hq33 dJx4a65c_grow_92f84_33 ?_
    refine lv_iload_n hx hb dJx4a65c_grow_92f84_36 rfl (lv_at hl 0 rfl) ?_
    obtain ⟨r37, T37, hq37, Hf⟩ := c_c_some Hf
    refine r_cX (n := 2) (As := [.ref q33, .int r27]) (rest := [.ref a0]) ⟨hx, hb, hml, hown, hts⟩ (s_J7_copyOf_1904c l X hq37) lkm_Jx4a65c_66 (by decide +kernel) dJx4a65c_grow_92f84_37 rfl rfl ⟨Nat.le_of_ble_eq_true rfl, Nat.le_of_ble_eq_true rfl⟩ rfl hl.1 (Nat.le_of_ble_eq_true rfl) ⟨Nat.le_of_ble_eq_true rfl, Nat.le_of_ble_eq_true rfl⟩ hK hRO hA hP hS (fun H locs hP hS => ?_)
    obtain ⟨p37, ep37, Hf⟩ := c_n_some Hf
    subst ep37
    refine W.eq (g2 := F0 m 40 ls [.ref p37, .ref a0]) rfl ?_
    refine lv_dup_x1 hx hb dJx4a65c_grow_92f84_40 rfl rfl ?_
    obtain ⟨hk_a0, Hf⟩ := c_g_some Hf
    refine fp_0_1 hx hb hts hown hK hP hS hk_a0 lkf_Jx4a65c_9 dJx4a65c_grow_92f84_41 (fun H locs hP hS => ?_)
    obtain ⟨S_41, eS_41, Hf⟩ := c_l_ex Hf
    have hP : st_HP X (st_A S) S_41 H := by rw [eS_41]; exact hP
    cases Hf
    exact r_aret (v := (some p37)) hx hb hr rfl (Or.inr ⟨_, rfl⟩) hlocks dJx4a65c_grow_92f84_44 (Nat.le_of_ble_eq_true rfl) (Nat.le_of_ble_eq_true rfl) hP hS
  refine lv_if_gt hx hb dJx4a65c_grow_92f84_7 (tgt := 20) (by decide) (fun hc => ?_) (fun hc => ?_)
  · have Hf := c_i_t Hf hc
    exact hJ20 S Hf _ _ _ hP hS (lv_sub hl [1, 2, 0] rfl)
  have Hf := c_i_f Hf hc
  refine lv_aload_n hx hb dJx4a65c_grow_92f84_10 rfl (lv_at hl 1 rfl) ?_
  refine fg_0_1 hx hb hts hown hK hP hk_a0 lkf_Jx4a65c_9 hq1 dJx4a65c_grow_92f84_11 ?_
  refine r_getsE (ref := "") hx hb hts hRO hP hS hown lkf_Jx4a65c_39 dJx4a65c_grow_92f84_14 ?_
  refine lv_acmp_eq (rx := some q1) (ry := some (st_sa S 100)) hx hb dJx4a65c_grow_92f84_17 (tgt := 45) (by decide) (fun hc => ?_) (fun hc => ?_)
  · have Hf := c_i_t Hf (Option.some.inj hc)
    refine lv_aload_n hx hb dJx4a65c_grow_92f84_45 rfl (lv_at hl 1 rfl) ?_
    refine lv_bipush (v := 10) hx hb dJx4a65c_grow_92f84_46 (by decide) ?_
    refine lv_iload_n hx hb dJx4a65c_grow_92f84_48 rfl (lv_at hl 2 rfl) ?_
    refine va_mmax hx hb (hml.trans hl.1.symm) hown (hts _ (lg_1 443 rfl rfl)) (hts _ (lg_1 406 rfl rfl)) (hts _ (lg_1 80 rfl rfl)) (hts _ (lg_1 407 rfl rfl)) (Nat.le_of_ble_eq_true rfl) (Nat.le_of_ble_eq_true rfl) (Nat.le_of_ble_eq_true rfl) (Nat.le_of_ble_eq_true rfl) dJx4a65c_grow_92f84_49 ?_
    obtain ⟨hn52, Hf⟩ := c_g_some Hf
    obtain ⟨n52, en52, Hf⟩ := c_l_ex Hf
    obtain ⟨S_52, eS_52, Hf⟩ := c_l_ex Hf
    refine r_newq (B := 64) hx hb hts hown (lg_1 444 rfl rfl) hK hRO hA hP hS hn52 (by decide) en52 eS_52 (Nat.le_of_ble_eq_true rfl) (Nat.le_of_ble_eq_true rfl) dJx4a65c_grow_92f84_52 (fun H hP hS => ?_)
    refine W.eq (g2 := F0 m 55 ls [.ref n52, .ref a0]) rfl ?_
    refine lv_dup_x1 hx hb dJx4a65c_grow_92f84_55 rfl rfl ?_
    obtain ⟨hk_a0, Hf⟩ := c_g_some Hf
    refine fp_0_1 hx hb hts hown hK hP hS hk_a0 lkf_Jx4a65c_9 dJx4a65c_grow_92f84_56 (fun H locs hP hS => ?_)
    obtain ⟨S_56, eS_56, Hf⟩ := c_l_ex Hf
    have hP : st_HP X (st_A S) S_56 H := by rw [eS_56]; exact hP
    cases Hf
    exact r_aret (v := (some n52)) hx hb hr rfl (Or.inr ⟨_, rfl⟩) hlocks dJx4a65c_grow_92f84_59 (Nat.le_of_ble_eq_true rfl) (Nat.le_of_ble_eq_true rfl) hP hS
  have Hf := c_i_f Hf (fun h => hc (congrArg some h))
  exact hJ20 S Hf _ _ _ hP hS (lv_sub hl [1, 2, 0] rfl)

set_option maxRecDepth 100000 in
def f_Jx4a65c_grow_d5877 (S : st_T) (a0 : Nat) : Option (Option Nat × st_T) :=
  (c_g (st_K S a0 = 1) (c_c (f_Jx4a65c_grow_92f84 S a0 ((st_fi S 2 a0) + 1)) (fun (r7 : Option Nat) (T7 : st_T) => (c_n r7 (fun (p7 : Nat) => (some ((some p7), T7)))))))
set_option maxRecDepth 100000 in
set_option maxHeartbeats 4000000 in
theorem s_Jx4a65c_grow_d5877 (l : Launch) (X : st_I) {S SE : st_T} {a0 : Nat} {rr : Option Nat} (Hf : f_Jx4a65c_grow_d5877 S a0 = some (rr, SE)) : Met l yJx4a65c_grow_d5877 (Cond.code yJx4a65c_grow_d5877 cJx4a65c_grow_d5877 1 (some (.array (.object "java/lang/Object"))) :: lw_g) { frames := 4, cells := 1, slots := 64, locals := 163 } (st_P X S [.ref a0]) (st_Q X (st_A S) (some (va_rf rr)) SE) 1 64 (st_A S) := by
  refine st_ofW (by decide) (Nat.le_of_ble_eq_true rfl) ?_
  intro p e s m args below meth c hx hb hr hml hlocks hnm hts hown hK hRO hA hP hS ls hl
  have hown : s.vm.findClass RJx4a65c = some m.cls := hown
  have hl : lv_has ls 1 [(0, .ref a0)] := hl
  unfold f_Jx4a65c_grow_d5877 at Hf
  refine lv_aload_n hx hb dJx4a65c_grow_d5877_0 rfl (lv_at hl 0 rfl) ?_
  refine lv_aload_n hx hb dJx4a65c_grow_d5877_1 rfl (lv_at hl 0 rfl) ?_
  obtain ⟨hk_a0, Hf⟩ := c_g_some Hf
  refine fg_0_2 hx hb hts hown hK hP hk_a0 lkf_Jx4a65c_48 dJx4a65c_grow_d5877_2 ?_
  refine lv_iconst (v := 1) hx hb dJx4a65c_grow_d5877_5 (by decide) ?_
  refine lv_iadd hx hb dJx4a65c_grow_d5877_6 ?_
  obtain ⟨r7, T7, hq7, Hf⟩ := c_c_some Hf
  refine r_cV (n := 1) (As := [.int ((st_fi S 2 a0) + 1)]) (rest := []) ⟨hx, hb, hml, hown, hts⟩ (s_Jx4a65c_grow_92f84 l X hq7) lkm_Jx4a65c_69 (by decide +kernel) rfl (by decide) dJx4a65c_grow_d5877_7 rfl rfl ⟨Nat.le_of_ble_eq_true rfl, Nat.le_of_ble_eq_true rfl⟩ hk_a0 rfl hl.1 (Nat.le_of_ble_eq_true rfl) ⟨Nat.le_of_ble_eq_true rfl, Nat.le_of_ble_eq_true rfl⟩ hK hRO hA hP hS (fun H locs hP hS => ?_)
  obtain ⟨p7, ep7, Hf⟩ := c_n_some Hf
  subst ep7
  refine W.eq (g2 := F0 m 10 ls [.ref p7]) rfl ?_
  cases Hf
  exact r_aret (v := (some p7)) hx hb hr rfl (Or.inr ⟨_, rfl⟩) hlocks dJx4a65c_grow_d5877_10 (Nat.le_of_ble_eq_true rfl) (Nat.le_of_ble_eq_true rfl) hP hS

def j_Jx4a65c_rangeCheckForAdd_d00df_12 (S12 : st_T) : Option (Unit × st_T) :=
  none
set_option maxRecDepth 100000 in
def f_Jx4a65c_rangeCheckForAdd_d00df (S : st_T) (a0 : Nat) (x1 : Int32) : Option (Unit × st_T) :=
  (c_g (st_K S a0 = 1) (c_i ((st_fi S 2 a0) < x1) (j_Jx4a65c_rangeCheckForAdd_d00df_12 S) (c_i (0 ≤ x1) (some ((), S)) (j_Jx4a65c_rangeCheckForAdd_d00df_12 S))))
set_option maxRecDepth 100000 in
set_option maxHeartbeats 4000000 in
theorem s_Jx4a65c_rangeCheckForAdd_d00df (l : Launch) (X : st_I) {S SE : st_T} {a0 : Nat} {x1 : Int32} {rr : Unit} (Hf : f_Jx4a65c_rangeCheckForAdd_d00df S a0 x1 = some (rr, SE)) : Met l yJx4a65c_rangeCheckForAdd_d00df (Cond.code yJx4a65c_rangeCheckForAdd_d00df cJx4a65c_rangeCheckForAdd_d00df 2 (none) :: lw_g) { frames := 0, cells := 0, slots := 0, locals := 0 } (st_P X S [.ref a0, .int x1]) (st_Q X (st_A S) none SE) 0 0 (st_A S) := by
  refine st_ofW (by decide) (Nat.le_of_ble_eq_true rfl) ?_
  intro p e s m args below meth c hx hb hr hml hlocks hnm hts hown hK hRO hA hP hS ls hl
  have hown : s.vm.findClass RJx4a65c = some m.cls := hown
  have hl : lv_has ls 2 [(0, .ref a0), (1, .int x1)] := hl
  unfold f_Jx4a65c_rangeCheckForAdd_d00df at Hf
  refine lv_iload_n hx hb dJx4a65c_rangeCheckForAdd_d00df_0 rfl (lv_at hl 1 rfl) ?_
  refine lv_aload_n hx hb dJx4a65c_rangeCheckForAdd_d00df_1 rfl (lv_at hl 0 rfl) ?_
  obtain ⟨hk_a0, Hf⟩ := c_g_some Hf
  refine fg_0_2 hx hb hts hown hK hP hk_a0 lkf_Jx4a65c_48 dJx4a65c_rangeCheckForAdd_d00df_2 ?_
  have hJ12 : ∀ (S12 : st_T), j_Jx4a65c_rangeCheckForAdd_d00df_12 S12 = some (rr, SE) → ∀ (H : Heap) (locs : List Loc) (ls : Array Slot), st_HP X (st_A S) S12 H → va_S (st_A S) s.heap H locs → lv_has ls 2 [] → W p l e { frames := 0, cells := 0, slots := 0, locals := 0 } s m args below meth c H locs 0 0 (MQ below (st_Q X (st_A S) none SE) args s 0 0 (st_A S)) (F0 m 12 ls []) := by
    intro S12 Hf H locs ls hP hS hl
    unfold j_Jx4a65c_rangeCheckForAdd_d00df_12 at Hf
    cases Hf
  refine lv_icmp_gt hx hb dJx4a65c_rangeCheckForAdd_d00df_5 (tgt := 12) (by decide) (fun hc => ?_) (fun hc => ?_)
  · have Hf := c_i_t Hf hc
    exact hJ12 S Hf _ _ _ hP hS (lv_sub hl [] rfl)
  have Hf := c_i_f Hf hc
  refine lv_iload_n hx hb dJx4a65c_rangeCheckForAdd_d00df_8 rfl (lv_at hl 1 rfl) ?_
  refine lv_if_ge hx hb dJx4a65c_rangeCheckForAdd_d00df_9 (tgt := 25) (by decide) (fun hc => ?_) (fun hc => ?_)
  · have Hf := c_i_t Hf hc
    cases Hf
    exact r_vret hx hb hr rfl hlocks dJx4a65c_rangeCheckForAdd_d00df_25 (Nat.le_of_ble_eq_true rfl) (Nat.le_of_ble_eq_true rfl) hP hS
  have Hf := c_i_f Hf hc
  exact hJ12 S Hf _ _ _ hP hS (lv_sub hl [] rfl)

def j_Jx4a65c_add_72be8_11 (a0 : Nat) (x1 : Nat) (x3 : Int32) (S11 : st_T) (y2_11 : Nat) : Option (Unit × st_T) :=
  (c_g (st_K S11 y2_11 = 24) (c_g (c_in x3 (st_ln S11 y2_11)) (c_g (st_K S11 x1 ≠ 0 ∧ st_K S11 x1 < 12) (c_l (st_wo S11 y2_11 (x3 : Int32).toNatClampNeg (some x1)) (fun (S_14 : st_T) => (c_g (st_K S_14 a0 = 1) (c_l (st_pi S_14 2 a0 (x3 + 1)) (fun (S_19 : st_T) => (some ((), S_19))))))))))
set_option maxRecDepth 100000 in
def f_Jx4a65c_add_72be8 (S : st_T) (a0 : Nat) (x1 : Nat) (x2 : Nat) (x3 : Int32) : Option (Unit × st_T) :=
  (c_g ((20 ≤ st_K S x2 ∧ st_K S x2 < 25) ∨ st_K S x2 = 30) (c_i (x3 = (nI (st_ln S x2))) (c_g (st_K S a0 = 1) (c_c (f_Jx4a65c_grow_d5877 S a0) (fun (r7 : Option Nat) (T7 : st_T) => (c_n r7 (fun (p7 : Nat) => (j_Jx4a65c_add_72be8_11 a0 x1 x3 T7 p7)))))) (j_Jx4a65c_add_72be8_11 a0 x1 x3 S x2)))
set_option maxRecDepth 100000 in
set_option maxHeartbeats 4000000 in
theorem s_Jx4a65c_add_72be8 (l : Launch) (X : st_I) {S SE : st_T} {a0 : Nat} {x1 : Nat} {x2 : Nat} {x3 : Int32} {rr : Unit} (Hf : f_Jx4a65c_add_72be8 S a0 x1 x2 x3 = some (rr, SE)) : Met l yJx4a65c_add_72be8 (Cond.code yJx4a65c_add_72be8 cJx4a65c_add_72be8 4 (none) :: lw_g) { frames := 5, cells := 1, slots := 64, locals := 183 } (st_P X S [.ref a0, .ref x1, .ref x2, .int x3]) (st_Q X (st_A S) none SE) 1 64 (st_A S) := by
  refine st_ofW (by decide) (Nat.le_of_ble_eq_true rfl) ?_
  intro p e s m args below meth c hx hb hr hml hlocks hnm hts hown hK hRO hA hP hS ls hl
  have hown : s.vm.findClass RJx4a65c = some m.cls := hown
  have hl : lv_has ls 4 [(0, .ref a0), (1, .ref x1), (2, .ref x2), (3, .int x3)] := hl
  unfold f_Jx4a65c_add_72be8 at Hf
  refine lv_iload_n hx hb dJx4a65c_add_72be8_0 rfl (lv_at hl 3 rfl) ?_
  refine lv_aload_n hx hb dJx4a65c_add_72be8_1 rfl (lv_at hl 2 rfl) ?_
  obtain ⟨hl2, Hf⟩ := c_g_some Hf
  refine r_alen2 hx hb hK hRO hP hS hl2 dJx4a65c_add_72be8_2 ?_
  have hJ11 : ∀ (S11 : st_T) (y2_11 : Nat), j_Jx4a65c_add_72be8_11 a0 x1 x3 S11 y2_11 = some (rr, SE) → ∀ (H : Heap) (locs : List Loc) (ls : Array Slot), st_HP X (st_A S) S11 H → va_S (st_A S) s.heap H locs → lv_has ls 4 [(0, .ref a0), (1, .ref x1), (2, .ref y2_11), (3, .int x3)] → W p l e { frames := 5, cells := 1, slots := 64, locals := 183 } s m args below meth c H locs 1 64 (MQ below (st_Q X (st_A S) none SE) args s 1 64 (st_A S)) (F0 m 11 ls []) := by
    intro S11 y2_11 Hf H locs ls hP hS hl
    unfold j_Jx4a65c_add_72be8_11 at Hf
    refine lv_aload_n hx hb dJx4a65c_add_72be8_11 rfl (lv_at hl 2 rfl) ?_
    refine lv_iload_n hx hb dJx4a65c_add_72be8_12 rfl (lv_at hl 3 rfl) ?_
    refine lv_aload_n hx hb dJx4a65c_add_72be8_13 rfl (lv_at hl 1 rfl) ?_
    obtain ⟨hk_y2_11, Hf⟩ := c_g_some Hf
    obtain ⟨hi14, Hf⟩ := c_g_some Hf
    obtain ⟨hv14, Hf⟩ := c_g_some Hf
    refine r_aast hx hb hK hRO hP hS hk_y2_11 hi14 hv14 dJx4a65c_add_72be8_14 (fun H locs hP hS => ?_)
    obtain ⟨S_14, eS_14, Hf⟩ := c_l_ex Hf
    have hP : st_HP X (st_A S) S_14 H := by rw [eS_14]; exact hP
    refine lv_aload_n hx hb dJx4a65c_add_72be8_15 rfl (lv_at hl 0 rfl) ?_
    refine lv_iload_n hx hb dJx4a65c_add_72be8_16 rfl (lv_at hl 3 rfl) ?_
    refine lv_iconst (v := 1) hx hb dJx4a65c_add_72be8_17 (by decide) ?_
    refine lv_iadd hx hb dJx4a65c_add_72be8_18 ?_
    obtain ⟨hk_a0, Hf⟩ := c_g_some Hf
    refine fp_0_2 hx hb hts hown hK hP hS hk_a0 lkf_Jx4a65c_48 dJx4a65c_add_72be8_19 (fun H locs hP hS => ?_)
    obtain ⟨S_19, eS_19, Hf⟩ := c_l_ex Hf
    have hP : st_HP X (st_A S) S_19 H := by rw [eS_19]; exact hP
    cases Hf
    exact r_vret hx hb hr rfl hlocks dJx4a65c_add_72be8_22 (Nat.le_of_ble_eq_true rfl) (Nat.le_of_ble_eq_true rfl) hP hS
  refine lv_icmp_ne hx hb dJx4a65c_add_72be8_3 (tgt := 11) (by decide) (fun hc => ?_) (fun hc => ?_)
  · have Hf := c_i_f Hf hc
    refine W.widen (k := 1) (n := 64) (Nat.le_of_ble_eq_true rfl) (Nat.le_of_ble_eq_true rfl) ?_
    exact hJ11 S x2 Hf _ _ _ hP hS (lv_sub hl [0, 1, 2, 3] rfl)
  have Hf := c_i_t Hf hc
  refine lv_aload_n hx hb dJx4a65c_add_72be8_6 rfl (lv_at hl 0 rfl) ?_
  obtain ⟨hk_a0, Hf⟩ := c_g_some Hf
  obtain ⟨r7, T7, hq7, Hf⟩ := c_c_some Hf
  refine r_cV (n := 0) (As := []) (rest := []) ⟨hx, hb, hml, hown, hts⟩ (s_Jx4a65c_grow_d5877 l X hq7) lkm_Jx4a65c_129 (by decide +kernel) rfl (by decide) dJx4a65c_add_72be8_7 rfl rfl ⟨Nat.le_of_ble_eq_true rfl, Nat.le_of_ble_eq_true rfl⟩ hk_a0 rfl hl.1 (Nat.le_of_ble_eq_true rfl) ⟨Nat.le_of_ble_eq_true rfl, Nat.le_of_ble_eq_true rfl⟩ hK hRO hA hP hS (fun H locs hP hS => ?_)
  obtain ⟨p7, ep7, Hf⟩ := c_n_some Hf
  subst ep7
  refine W.eq (g2 := F0 m 10 ls [.ref p7]) rfl ?_
  refine lv_astore_n (lv' := [(2, .ref p7), (0, .ref a0), (1, .ref x1), (3, .int x3)]) hx hb dJx4a65c_add_72be8_10 rfl hl (by decide) rfl (fun ls hl => ?_)
  exact hJ11 T7 p7 Hf _ _ _ hP hS (lv_sub hl [1, 2, 0, 3] rfl)

set_option maxRecDepth 100000 in
def f_Jx4a65c_add_9ea2d (S : st_T) (a0 : Nat) (x1 : Nat) : Option (Int32 × st_T) :=
  (c_g (st_K S a0 = 1) (c_l (st_pi S 0 a0 ((st_fi S 0 a0) + 1)) (fun (S_7 : st_T) => (c_n (st_fr S_7 1 a0) (fun (q13 : Nat) => (c_c (f_Jx4a65c_add_72be8 S_7 a0 x1 q13 (st_fi S_7 2 a0)) (fun (r20 : Unit) (T20 : st_T) => (some (1, T20)))))))))
set_option maxRecDepth 100000 in
set_option maxHeartbeats 4000000 in
theorem s_Jx4a65c_add_9ea2d (l : Launch) (X : st_I) {S SE : st_T} {a0 : Nat} {x1 : Nat} {rr : Int32} (Hf : f_Jx4a65c_add_9ea2d S a0 x1 = some (rr, SE)) : Met l yJx4a65c_add_9ea2d (Cond.code yJx4a65c_add_9ea2d cJx4a65c_add_9ea2d 2 (some .boolean) :: lw_g) { frames := 6, cells := 1, slots := 64, locals := 206 } (st_P X S [.ref a0, .ref x1]) (st_Q X (st_A S) (some (.int rr)) SE) 1 64 (st_A S) := by
  refine st_ofW (by decide) (Nat.le_of_ble_eq_true rfl) ?_
  intro p e s m args below meth c hx hb hr hml hlocks hnm hts hown hK hRO hA hP hS ls hl
  have hown : s.vm.findClass RJx4a65c = some m.cls := hown
  have hl : lv_has ls 2 [(0, .ref a0), (1, .ref x1)] := hl
  unfold f_Jx4a65c_add_9ea2d at Hf
  refine lv_aload_n hx hb dJx4a65c_add_9ea2d_0 rfl (lv_at hl 0 rfl) ?_
  refine lv_dup hx hb dJx4a65c_add_9ea2d_1 rfl ?_
  obtain ⟨hk_a0, Hf⟩ := c_g_some Hf
  refine fg_0_0 hx hb hts hown hK hP (fun x h => u_same (hts _ (lg_1 129 rfl rfl)) x h) hk_a0 lkf_Jx4a65c_63 dJx4a65c_add_9ea2d_2 ?_
  refine lv_iconst (v := 1) hx hb dJx4a65c_add_9ea2d_5 (by decide) ?_
  refine lv_iadd hx hb dJx4a65c_add_9ea2d_6 ?_
  refine fp_0_0 hx hb hts hown hK hP hS (fun x h => u_same (hts _ (lg_1 129 rfl rfl)) x h) hk_a0 lkf_Jx4a65c_63 dJx4a65c_add_9ea2d_7 (fun H locs hP hS => ?_)
  obtain ⟨S_7, eS_7, Hf⟩ := c_l_ex Hf
  have hP : st_HP X (st_A S) S_7 H := by rw [eS_7]; exact hP
  refine lv_aload_n hx hb dJx4a65c_add_9ea2d_10 rfl (lv_at hl 0 rfl) ?_
  refine lv_aload_n hx hb dJx4a65c_add_9ea2d_11 rfl (lv_at hl 1 rfl) ?_
  refine lv_aload_n hx hb dJx4a65c_add_9ea2d_12 rfl (lv_at hl 0 rfl) ?_
  have hk_a0 : st_K S_7 a0 = 1 := by rw [kp_pi eS_7]; exact hk_a0
  obtain ⟨q13, hq13, Hf⟩ := c_n_some Hf
  refine fg_0_1 hx hb hts hown hK hP hk_a0 lkf_Jx4a65c_9 hq13 dJx4a65c_add_9ea2d_13 ?_
  refine lv_aload_n hx hb dJx4a65c_add_9ea2d_16 rfl (lv_at hl 0 rfl) ?_
  refine fg_0_2 hx hb hts hown hK hP hk_a0 lkf_Jx4a65c_48 dJx4a65c_add_9ea2d_17 ?_
  obtain ⟨r20, T20, hq20, Hf⟩ := c_c_some Hf
  refine r_cV (n := 3) (As := [.ref x1, .ref q13, .int (st_fi S_7 2 a0)]) (rest := []) ⟨hx, hb, hml, hown, hts⟩ (s_Jx4a65c_add_72be8 l X hq20) lkm_Jx4a65c_131 (by decide +kernel) rfl (by decide) dJx4a65c_add_9ea2d_20 rfl rfl ⟨Nat.le_of_ble_eq_true rfl, Nat.le_of_ble_eq_true rfl⟩ hk_a0 rfl hl.1 (Nat.le_of_ble_eq_true rfl) ⟨Nat.le_of_ble_eq_true rfl, Nat.le_of_ble_eq_true rfl⟩ hK hRO hA hP hS (fun H locs hP hS => ?_)
  refine W.eq (g2 := F0 m 23 ls []) rfl ?_
  refine lv_iconst (v := 1) hx hb dJx4a65c_add_9ea2d_23 (by decide) ?_
  cases Hf
  exact r_zret hx hb hr rfl (Or.inr rfl) hlocks dJx4a65c_add_9ea2d_24 (Nat.le_of_ble_eq_true rfl) (Nat.le_of_ble_eq_true rfl) hP hS

def j_Jx4a65c_add_7a177_38 (a0 : Nat) (x1 : Int32) (x2 : Nat) (z3_20 : Int32) (S38 : st_T) (y4_38 : Nat) : Option (Unit × st_T) :=
  (c_g (st_K S38 y4_38 = 24) (c_g (¬ (x1 : Int32) < 0 ∧ ¬ ((x1 + 1) : Int32) < 0 ∧ ¬ ((z3_20 - x1) : Int32) < 0 ∧ (x1 : Int32).toNatClampNeg + ((z3_20 - x1) : Int32).toNatClampNeg ≤ st_ln S38 y4_38 ∧ ((x1 + 1) : Int32).toNatClampNeg + ((z3_20 - x1) : Int32).toNatClampNeg ≤ st_ln S38 y4_38 ∧ el_all S38 y4_38 (x1 : Int32).toNatClampNeg ((z3_20 - x1) : Int32).toNatClampNeg = true) (c_l (st_xo S38 y4_38 (va_cpy (st_ro S38 y4_38) (st_ro S38 y4_38) (x1 : Int32).toNatClampNeg ((x1 + 1) : Int32).toNatClampNeg ((z3_20 - x1) : Int32).toNatClampNeg)) (fun (S_49 : st_T) => (c_g (c_in x1 (st_ln S_49 y4_38)) (c_g (st_K S_49 x2 ≠ 0 ∧ st_K S_49 x2 < 12) (c_l (st_wo S_49 y4_38 (x1 : Int32).toNatClampNeg (some x2)) (fun (S_56 : st_T) => (c_g (st_K S_56 a0 = 1) (c_l (st_pi S_56 2 a0 (z3_20 + 1)) (fun (S_61 : st_T) => (some ((), S_61)))))))))))))
set_option maxRecDepth 100000 in
def f_Jx4a65c_add_7a177 (S : st_T) (a0 : Nat) (x1 : Int32) (x2 : Nat) : Option (Unit × st_T) :=
  (c_g (st_K S a0 = 1) (c_c (f_Jx4a65c_rangeCheckForAdd_d00df S a0 x1) (fun (r2 : Unit) (T2 : st_T) => (c_g (st_K T2 a0 = 1) (c_l (st_pi T2 0 a0 ((st_fi T2 0 a0) + 1)) (fun (S_12 : st_T) => (c_l (st_fi S_12 2 a0) (fun (z3_20 : Int32) => (c_n (st_fr S_12 1 a0) (fun (q22 : Nat) => (c_g ((20 ≤ st_K S_12 q22 ∧ st_K S_12 q22 < 25) ∨ st_K S_12 q22 = 30) (c_i ((st_fi S_12 2 a0) = (nI (st_ln S_12 q22))) (c_c (f_Jx4a65c_grow_d5877 S_12 a0) (fun (r33 : Option Nat) (T33 : st_T) => (c_n r33 (fun (p33 : Nat) => (j_Jx4a65c_add_7a177_38 a0 x1 x2 z3_20 T33 p33))))) (j_Jx4a65c_add_7a177_38 a0 x1 x2 z3_20 S_12 q22)))))))))))))
set_option maxRecDepth 100000 in
set_option maxHeartbeats 4000000 in
theorem s_Jx4a65c_add_7a177 (l : Launch) (X : st_I) {S SE : st_T} {a0 : Nat} {x1 : Int32} {x2 : Nat} {rr : Unit} (Hf : f_Jx4a65c_add_7a177 S a0 x1 x2 = some (rr, SE)) : Met l yJx4a65c_add_7a177 (Cond.code yJx4a65c_add_7a177 cJx4a65c_add_7a177 5 (none) :: lw_g) { frames := 5, cells := 1, slots := 64, locals := 183 } (st_P X S [.ref a0, .int x1, .ref x2]) (st_Q X (st_A S) none SE) 1 64 (st_A S) := by
  refine st_ofW (by decide) (Nat.le_of_ble_eq_true rfl) ?_
  intro p e s m args below meth c hx hb hr hml hlocks hnm hts hown hK hRO hA hP hS ls hl
  have hown : s.vm.findClass RJx4a65c = some m.cls := hown
  have hl : lv_has ls 5 [(0, .ref a0), (1, .int x1), (2, .ref x2)] := hl
  unfold f_Jx4a65c_add_7a177 at Hf
  refine lv_aload_n hx hb dJx4a65c_add_7a177_0 rfl (lv_at hl 0 rfl) ?_
  refine lv_iload_n hx hb dJx4a65c_add_7a177_1 rfl (lv_at hl 1 rfl) ?_
  obtain ⟨hk_a0, Hf⟩ := c_g_some Hf
  obtain ⟨r2, T2, hq2, Hf⟩ := c_c_some Hf
  refine r_cV (n := 1) (As := [.int x1]) (rest := []) ⟨hx, hb, hml, hown, hts⟩ (s_Jx4a65c_rangeCheckForAdd_d00df l X hq2) lkm_Jx4a65c_135 (by decide +kernel) rfl (by decide) dJx4a65c_add_7a177_2 rfl rfl ⟨Nat.le_of_ble_eq_true rfl, Nat.le_of_ble_eq_true rfl⟩ hk_a0 rfl hl.1 (Nat.le_of_ble_eq_true rfl) ⟨Nat.le_of_ble_eq_true rfl, Nat.le_of_ble_eq_true rfl⟩ hK hRO hA hP hS (fun H locs hP hS => ?_)
  refine W.eq (g2 := F0 m 5 ls []) rfl ?_
  refine lv_aload_n hx hb dJx4a65c_add_7a177_5 rfl (lv_at hl 0 rfl) ?_
  refine lv_dup hx hb dJx4a65c_add_7a177_6 rfl ?_
  obtain ⟨hk_a0, Hf⟩ := c_g_some Hf
  refine fg_0_0 hx hb hts hown hK hP (fun x h => u_same (hts _ (lg_1 129 rfl rfl)) x h) hk_a0 lkf_Jx4a65c_63 dJx4a65c_add_7a177_7 ?_
  refine lv_iconst (v := 1) hx hb dJx4a65c_add_7a177_10 (by decide) ?_
  refine lv_iadd hx hb dJx4a65c_add_7a177_11 ?_
  refine fp_0_0 hx hb hts hown hK hP hS (fun x h => u_same (hts _ (lg_1 129 rfl rfl)) x h) hk_a0 lkf_Jx4a65c_63 dJx4a65c_add_7a177_12 (fun H locs hP hS => ?_)
  obtain ⟨S_12, eS_12, Hf⟩ := c_l_ex Hf
  have hP : st_HP X (st_A S) S_12 H := by rw [eS_12]; exact hP
  refine lv_aload_n hx hb dJx4a65c_add_7a177_15 rfl (lv_at hl 0 rfl) ?_
  have hk_a0 : st_K S_12 a0 = 1 := by rw [kp_pi eS_12]; exact hk_a0
  refine fg_0_2 hx hb hts hown hK hP hk_a0 lkf_Jx4a65c_48 dJx4a65c_add_7a177_16 ?_
  refine lv_dup hx hb dJx4a65c_add_7a177_19 rfl ?_
  refine lv_topi (fun z3_20 ez3_20 => ?_)
  have Hf := c_l_ren Hf ez3_20
  refine lv_istore_n (lv' := [(3, .int z3_20), (0, .ref a0), (1, .int x1), (2, .ref x2)]) hx hb dJx4a65c_add_7a177_20 rfl hl (by decide) rfl (fun ls hl => ?_)
  refine lv_aload_n hx hb dJx4a65c_add_7a177_21 rfl (lv_at hl 1 rfl) ?_
  obtain ⟨q22, hq22, Hf⟩ := c_n_some Hf
  refine fg_0_1 hx hb hts hown hK hP hk_a0 lkf_Jx4a65c_9 hq22 dJx4a65c_add_7a177_22 ?_
  refine lv_dup hx hb dJx4a65c_add_7a177_25 rfl ?_
  refine lv_astore (lv' := [(4, .ref q22), (3, .int z3_20), (0, .ref a0), (1, .int x1), (2, .ref x2)]) hx hb dJx4a65c_add_7a177_26 hl (by decide) rfl (fun ls hl => ?_)
  obtain ⟨hl28, Hf⟩ := c_g_some Hf
  refine r_alen2 hx hb hK hRO hP hS hl28 dJx4a65c_add_7a177_28 ?_
  have hJ38 : ∀ (S38 : st_T) (y4_38 : Nat), j_Jx4a65c_add_7a177_38 a0 x1 x2 z3_20 S38 y4_38 = some (rr, SE) → ∀ (H : Heap) (locs : List Loc) (ls : Array Slot), st_HP X (st_A S) S38 H → va_S (st_A S) s.heap H locs → lv_has ls 5 [(0, .ref a0), (1, .int x1), (2, .ref x2), (3, .int z3_20), (4, .ref y4_38)] → W p l e { frames := 5, cells := 1, slots := 64, locals := 183 } s m args below meth c H locs 1 64 (MQ below (st_Q X (st_A S) none SE) args s 1 64 (st_A S)) (F0 m 38 ls []) := by
    intro S38 y4_38 Hf H locs ls hP hS hl
    unfold j_Jx4a65c_add_7a177_38 at Hf
    refine lv_aload hx hb dJx4a65c_add_7a177_38 (lv_at hl 4 rfl) ?_
    refine lv_iload_n hx hb dJx4a65c_add_7a177_40 rfl (lv_at hl 1 rfl) ?_
    refine lv_aload hx hb dJx4a65c_add_7a177_41 (lv_at hl 4 rfl) ?_
    refine lv_iload_n hx hb dJx4a65c_add_7a177_43 rfl (lv_at hl 1 rfl) ?_
    refine lv_iconst (v := 1) hx hb dJx4a65c_add_7a177_44 (by decide) ?_
    refine lv_iadd hx hb dJx4a65c_add_7a177_45 ?_
    refine lv_iload_n hx hb dJx4a65c_add_7a177_46 rfl (lv_at hl 3 rfl) ?_
    refine lv_iload_n hx hb dJx4a65c_add_7a177_47 rfl (lv_at hl 1 rfl) ?_
    refine lv_isub hx hb dJx4a65c_add_7a177_48 ?_
    obtain ⟨hk_y4_38, Hf⟩ := c_g_some Hf
    obtain ⟨hg49, Hf⟩ := c_g_some Hf
    refine r_copyq hx hb (hml.trans hl.1.symm) hown (hts _ (lg_1 533 rfl rfl)) (hts _ (lg_1 442 rfl rfl)) (hts _ (lg_1 441 rfl rfl)) (hts _ (lg_1 82 rfl rfl)) hK hRO hP hS hk_y4_38 hk_y4_38 hg49 (Nat.le_of_ble_eq_true rfl) (by decide) dJx4a65c_add_7a177_49 (fun H locs hP hS => ?_)
    obtain ⟨S_49, eS_49, Hf⟩ := c_l_ex Hf
    have hP : st_HP X (st_A S) S_49 H := by rw [eS_49]; exact hP
    refine lv_aload hx hb dJx4a65c_add_7a177_52 (lv_at hl 4 rfl) ?_
    refine lv_iload_n hx hb dJx4a65c_add_7a177_54 rfl (lv_at hl 1 rfl) ?_
    refine lv_aload_n hx hb dJx4a65c_add_7a177_55 rfl (lv_at hl 2 rfl) ?_
    have hk_y4_38 : st_K S_49 y4_38 = 24 := by rw [kp_xo eS_49]; exact hk_y4_38
    obtain ⟨hi56, Hf⟩ := c_g_some Hf
    obtain ⟨hv56, Hf⟩ := c_g_some Hf
    refine r_aast hx hb hK hRO hP hS hk_y4_38 hi56 hv56 dJx4a65c_add_7a177_56 (fun H locs hP hS => ?_)
    obtain ⟨S_56, eS_56, Hf⟩ := c_l_ex Hf
    have hP : st_HP X (st_A S) S_56 H := by rw [eS_56]; exact hP
    refine lv_aload_n hx hb dJx4a65c_add_7a177_57 rfl (lv_at hl 0 rfl) ?_
    refine lv_iload_n hx hb dJx4a65c_add_7a177_58 rfl (lv_at hl 3 rfl) ?_
    refine lv_iconst (v := 1) hx hb dJx4a65c_add_7a177_59 (by decide) ?_
    refine lv_iadd hx hb dJx4a65c_add_7a177_60 ?_
    obtain ⟨hk_a0, Hf⟩ := c_g_some Hf
    refine fp_0_2 hx hb hts hown hK hP hS hk_a0 lkf_Jx4a65c_48 dJx4a65c_add_7a177_61 (fun H locs hP hS => ?_)
    obtain ⟨S_61, eS_61, Hf⟩ := c_l_ex Hf
    have hP : st_HP X (st_A S) S_61 H := by rw [eS_61]; exact hP
    cases Hf
    exact r_vret hx hb hr rfl hlocks dJx4a65c_add_7a177_64 (Nat.le_of_ble_eq_true rfl) (Nat.le_of_ble_eq_true rfl) hP hS
  refine lv_icmp_ne hx hb dJx4a65c_add_7a177_29 (tgt := 38) (by decide) (fun hc => ?_) (fun hc => ?_)
  · have Hf := c_i_f Hf hc
    refine W.widen (k := 1) (n := 64) (Nat.le_of_ble_eq_true rfl) (Nat.le_of_ble_eq_true rfl) ?_
    exact hJ38 S_12 q22 Hf _ _ _ hP hS (lv_sub hl [2, 3, 4, 1, 0] rfl)
  have Hf := c_i_t Hf hc
  refine lv_aload_n hx hb dJx4a65c_add_7a177_32 rfl (lv_at hl 2 rfl) ?_
  obtain ⟨r33, T33, hq33, Hf⟩ := c_c_some Hf
  refine r_cV (n := 0) (As := []) (rest := []) ⟨hx, hb, hml, hown, hts⟩ (s_Jx4a65c_grow_d5877 l X hq33) lkm_Jx4a65c_129 (by decide +kernel) rfl (by decide) dJx4a65c_add_7a177_33 rfl rfl ⟨Nat.le_of_ble_eq_true rfl, Nat.le_of_ble_eq_true rfl⟩ hk_a0 rfl hl.1 (Nat.le_of_ble_eq_true rfl) ⟨Nat.le_of_ble_eq_true rfl, Nat.le_of_ble_eq_true rfl⟩ hK hRO hA hP hS (fun H locs hP hS => ?_)
  obtain ⟨p33, ep33, Hf⟩ := c_n_some Hf
  subst ep33
  refine W.eq (g2 := F0 m 36 ls [.ref p33]) rfl ?_
  refine lv_astore (lv' := [(4, .ref p33), (3, .int z3_20), (0, .ref a0), (1, .int x1), (2, .ref x2)]) hx hb dJx4a65c_add_7a177_36 hl (by decide) rfl (fun ls hl => ?_)
  exact hJ38 T33 p33 Hf _ _ _ hP hS (lv_sub hl [2, 3, 4, 1, 0] rfl)

set_option maxRecDepth 100000 in
def f_X7_init (S : st_T) (a0 : Nat) : Option (Unit × st_T) :=
  (c_g (¬ (201 : Int32) < 0 ∧ (201 : Int32).toNatClampNeg ≤ 201) (c_l (st_nx S) (fun (n8 : Nat) => (c_l (st_na S 20 (201 : Int32).toNatClampNeg) (fun (S_8 : st_T) => (c_g (st_K S_8 a0 = 9) (c_l (st_pr S_8 800 a0 (some n8)) (fun (S_10 : st_T) => (some ((), S_10))))))))))
set_option maxRecDepth 100000 in
set_option maxHeartbeats 4000000 in
theorem s_X7_init (l : Launch) (X : st_I) {S SE : st_T} {a0 : Nat} {rr : Unit} (Hf : f_X7_init S a0 = some (rr, SE)) : Met l yX7_init (Cond.code yX7_init cX7_init 1 (none) :: lw_g) { frames := 1, cells := 1, slots := 201, locals := 24 } (st_P X S [.ref a0]) (st_Q X (st_A S) none SE) 1 201 (st_A S) := by
  refine st_ofW (by decide) (Nat.le_of_ble_eq_true rfl) ?_
  intro p e s m args below meth c hx hb hr hml hlocks hnm hts hown hK hRO hA hP hS ls hl
  have hown : s.vm.findClass RX7 = some m.cls := hown
  have hl : lv_has ls 1 [(0, .ref a0)] := hl
  unfold f_X7_init at Hf
  refine lv_aload_n hx hb dX7_init_0 rfl (lv_at hl 0 rfl) ?_
  refine W.objInit hx hb hown (hts _ (lg_1 105 rfl rfl)) (hts _ (lg_1 98 rfl rfl)) (hts _ (lg_1 99 rfl rfl)) rfl (by rw [hml]; exact hl.1) rfl dX7_init_1 (Nat.le_of_ble_eq_true rfl) (Nat.le_of_ble_eq_true rfl) ?_
  refine W.eq (g2 := F0 m 4 ls []) rfl ?_
  refine lv_aload_n hx hb dX7_init_4 rfl (lv_at hl 0 rfl) ?_
  refine lv_sipush (v := 201) hx hb dX7_init_5 (by decide) ?_
  obtain ⟨hn8, Hf⟩ := c_g_some Hf
  obtain ⟨n8, en8, Hf⟩ := c_l_ex Hf
  obtain ⟨S_8, eS_8, Hf⟩ := c_l_ex Hf
  refine r_newI (B := 201) hx hb hts (lg_1 110 rfl rfl) hK hA hP hS hn8 (by decide) en8 eS_8 (Nat.le_of_ble_eq_true rfl) (Nat.le_of_ble_eq_true rfl) dX7_init_8 (fun H hP hS => ?_)
  refine W.eq (g2 := F0 m 10 ls [.ref n8, .ref a0]) rfl ?_
  obtain ⟨hk_a0, Hf⟩ := c_g_some Hf
  refine fp_8_0 hx hb hts hown hK hP hS hnm hk_a0 lkf_X7_9 dX7_init_10 (fun H locs hP hS => ?_)
  obtain ⟨S_10, eS_10, Hf⟩ := c_l_ex Hf
  have hP : st_HP X (st_A S) S_10 H := by rw [eS_10]; exact hP
  cases Hf
  exact r_vret hx hb hr rfl hlocks dX7_init_13 (Nat.le_of_ble_eq_true rfl) (Nat.le_of_ble_eq_true rfl) hP hS

set_option maxRecDepth 100000 in
def f_X4_init (S : st_T) (a0 : Nat) : Option (Unit × st_T) :=
  (c_g (¬ (800 : Int32) < 0 ∧ (800 : Int32).toNatClampNeg ≤ 800) (c_l (st_nx S) (fun (n8 : Nat) => (c_l (st_na S 22 (800 : Int32).toNatClampNeg) (fun (S_8 : st_T) => (c_g (st_K S_8 a0 = 6) (c_l (st_pr S_8 500 a0 (some n8)) (fun (S_10 : st_T) => (c_l (st_pi S_10 501 a0 0) (fun (S_15 : st_T) => (some ((), S_15))))))))))))
set_option maxRecDepth 100000 in
set_option maxHeartbeats 4000000 in
theorem s_X4_init (l : Launch) (X : st_I) {S SE : st_T} {a0 : Nat} {rr : Unit} (Hf : f_X4_init S a0 = some (rr, SE)) : Met l yX4_init (Cond.code yX4_init cX4_init 1 (none) :: lw_g) { frames := 1, cells := 1, slots := 800, locals := 24 } (st_P X S [.ref a0]) (st_Q X (st_A S) none SE) 1 800 (st_A S) := by
  refine st_ofW (by decide) (Nat.le_of_ble_eq_true rfl) ?_
  intro p e s m args below meth c hx hb hr hml hlocks hnm hts hown hK hRO hA hP hS ls hl
  have hown : s.vm.findClass RX4 = some m.cls := hown
  have hl : lv_has ls 1 [(0, .ref a0)] := hl
  unfold f_X4_init at Hf
  refine lv_aload_n hx hb dX4_init_0 rfl (lv_at hl 0 rfl) ?_
  refine W.objInit hx hb hown (hts _ (lg_1 170 rfl rfl)) (hts _ (lg_1 98 rfl rfl)) (hts _ (lg_1 99 rfl rfl)) rfl (by rw [hml]; exact hl.1) rfl dX4_init_1 (Nat.le_of_ble_eq_true rfl) (Nat.le_of_ble_eq_true rfl) ?_
  refine W.eq (g2 := F0 m 4 ls []) rfl ?_
  refine lv_aload_n hx hb dX4_init_4 rfl (lv_at hl 0 rfl) ?_
  refine lv_sipush (v := 800) hx hb dX4_init_5 (by decide) ?_
  obtain ⟨hn8, Hf⟩ := c_g_some Hf
  obtain ⟨n8, en8, Hf⟩ := c_l_ex Hf
  obtain ⟨S_8, eS_8, Hf⟩ := c_l_ex Hf
  refine r_newC (B := 800) hx hb hts (lg_1 181 rfl rfl) hK hA hP hS hn8 (by decide) en8 eS_8 (Nat.le_of_ble_eq_true rfl) (Nat.le_of_ble_eq_true rfl) dX4_init_8 (fun H hP hS => ?_)
  refine W.eq (g2 := F0 m 10 ls [.ref n8, .ref a0]) rfl ?_
  obtain ⟨hk_a0, Hf⟩ := c_g_some Hf
  refine fp_5_0 hx hb hts hown hK hP hS hnm hk_a0 lkf_X4_9 dX4_init_10 (fun H locs hP hS => ?_)
  obtain ⟨S_10, eS_10, Hf⟩ := c_l_ex Hf
  have hP : st_HP X (st_A S) S_10 H := by rw [eS_10]; exact hP
  refine lv_aload_n hx hb dX4_init_13 rfl (lv_at hl 0 rfl) ?_
  refine lv_iconst (v := 0) hx hb dX4_init_14 (by decide) ?_
  have hk_a0 : st_K S_10 a0 = 6 := by rw [kp_pr eS_10]; exact hk_a0
  refine fp_5_1 hx hb hts hown hK hP hS hk_a0 lkf_X4_15 dX4_init_15 (fun H locs hP hS => ?_)
  obtain ⟨S_15, eS_15, Hf⟩ := c_l_ex Hf
  have hP : st_HP X (st_A S) S_15 H := by rw [eS_15]; exact hP
  cases Hf
  exact r_vret hx hb hr rfl hlocks dX4_init_18 (Nat.le_of_ble_eq_true rfl) (Nat.le_of_ble_eq_true rfl) hP hS

set_option maxRecDepth 100000 in
def f_X6_init (S : st_T) (a0 : Nat) : Option (Unit × st_T) :=
  (c_g (¬ (801 : Int32) < 0 ∧ (801 : Int32).toNatClampNeg ≤ 801) (c_l (st_nx S) (fun (n8 : Nat) => (c_l (st_na S 20 (801 : Int32).toNatClampNeg) (fun (S_8 : st_T) => (c_g (st_K S_8 a0 = 8) (c_l (st_pr S_8 700 a0 (some n8)) (fun (S_10 : st_T) => (c_g (¬ (801 : Int32) < 0 ∧ (801 : Int32).toNatClampNeg ≤ 801) (c_l (st_nx S_10) (fun (n17 : Nat) => (c_l (st_na S_10 20 (801 : Int32).toNatClampNeg) (fun (S_17 : st_T) => (c_g (st_K S_17 a0 = 8) (c_l (st_pr S_17 701 a0 (some n17)) (fun (S_19 : st_T) => (c_g (¬ (801 : Int32) < 0 ∧ (801 : Int32).toNatClampNeg ≤ 801) (c_l (st_nx S_19) (fun (n26 : Nat) => (c_l (st_na S_19 20 (801 : Int32).toNatClampNeg) (fun (S_26 : st_T) => (c_g (st_K S_26 a0 = 8) (c_l (st_pr S_26 702 a0 (some n26)) (fun (S_28 : st_T) => (c_l (st_pi S_28 703 a0 0) (fun (S_33 : st_T) => (some ((), S_33))))))))))))))))))))))))))))
set_option maxRecDepth 100000 in
set_option maxHeartbeats 4000000 in
theorem s_X6_init (l : Launch) (X : st_I) {S SE : st_T} {a0 : Nat} {rr : Unit} (Hf : f_X6_init S a0 = some (rr, SE)) : Met l yX6_init (Cond.code yX6_init cX6_init 1 (none) :: lw_g) { frames := 1, cells := 3, slots := 2403, locals := 24 } (st_P X S [.ref a0]) (st_Q X (st_A S) none SE) 3 2403 (st_A S) := by
  refine st_ofW (by decide) (Nat.le_of_ble_eq_true rfl) ?_
  intro p e s m args below meth c hx hb hr hml hlocks hnm hts hown hK hRO hA hP hS ls hl
  have hown : s.vm.findClass RX6 = some m.cls := hown
  have hl : lv_has ls 1 [(0, .ref a0)] := hl
  unfold f_X6_init at Hf
  refine lv_aload_n hx hb dX6_init_0 rfl (lv_at hl 0 rfl) ?_
  refine W.objInit hx hb hown (hts _ (lg_1 193 rfl rfl)) (hts _ (lg_1 98 rfl rfl)) (hts _ (lg_1 99 rfl rfl)) rfl (by rw [hml]; exact hl.1) rfl dX6_init_1 (Nat.le_of_ble_eq_true rfl) (Nat.le_of_ble_eq_true rfl) ?_
  refine W.eq (g2 := F0 m 4 ls []) rfl ?_
  refine lv_aload_n hx hb dX6_init_4 rfl (lv_at hl 0 rfl) ?_
  refine lv_sipush (v := 801) hx hb dX6_init_5 (by decide) ?_
  obtain ⟨hn8, Hf⟩ := c_g_some Hf
  obtain ⟨n8, en8, Hf⟩ := c_l_ex Hf
  obtain ⟨S_8, eS_8, Hf⟩ := c_l_ex Hf
  refine r_newI (B := 801) hx hb hts (lg_1 110 rfl rfl) hK hA hP hS hn8 (by decide) en8 eS_8 (Nat.le_of_ble_eq_true rfl) (Nat.le_of_ble_eq_true rfl) dX6_init_8 (fun H hP hS => ?_)
  refine W.eq (g2 := F0 m 10 ls [.ref n8, .ref a0]) rfl ?_
  obtain ⟨hk_a0, Hf⟩ := c_g_some Hf
  refine fp_7_0 hx hb hts hown hK hP hS hnm hk_a0 lkf_X6_9 dX6_init_10 (fun H locs hP hS => ?_)
  obtain ⟨S_10, eS_10, Hf⟩ := c_l_ex Hf
  have hP : st_HP X (st_A S) S_10 H := by rw [eS_10]; exact hP
  refine lv_aload_n hx hb dX6_init_13 rfl (lv_at hl 0 rfl) ?_
  refine lv_sipush (v := 801) hx hb dX6_init_14 (by decide) ?_
  obtain ⟨hn17, Hf⟩ := c_g_some Hf
  obtain ⟨n17, en17, Hf⟩ := c_l_ex Hf
  obtain ⟨S_17, eS_17, Hf⟩ := c_l_ex Hf
  refine r_newI (B := 801) hx hb hts (lg_1 110 rfl rfl) hK hA hP hS hn17 (by decide) en17 eS_17 (Nat.le_of_ble_eq_true rfl) (Nat.le_of_ble_eq_true rfl) dX6_init_17 (fun H hP hS => ?_)
  refine W.eq (g2 := F0 m 19 ls [.ref n17, .ref a0]) rfl ?_
  obtain ⟨hk_a0, Hf⟩ := c_g_some Hf
  refine fp_7_1 hx hb hts hown hK hP hS hnm hk_a0 lkf_X6_15 dX6_init_19 (fun H locs hP hS => ?_)
  obtain ⟨S_19, eS_19, Hf⟩ := c_l_ex Hf
  have hP : st_HP X (st_A S) S_19 H := by rw [eS_19]; exact hP
  refine lv_aload_n hx hb dX6_init_22 rfl (lv_at hl 0 rfl) ?_
  refine lv_sipush (v := 801) hx hb dX6_init_23 (by decide) ?_
  obtain ⟨hn26, Hf⟩ := c_g_some Hf
  obtain ⟨n26, en26, Hf⟩ := c_l_ex Hf
  obtain ⟨S_26, eS_26, Hf⟩ := c_l_ex Hf
  refine r_newI (B := 801) hx hb hts (lg_1 110 rfl rfl) hK hA hP hS hn26 (by decide) en26 eS_26 (Nat.le_of_ble_eq_true rfl) (Nat.le_of_ble_eq_true rfl) dX6_init_26 (fun H hP hS => ?_)
  refine W.eq (g2 := F0 m 28 ls [.ref n26, .ref a0]) rfl ?_
  obtain ⟨hk_a0, Hf⟩ := c_g_some Hf
  refine fp_7_2 hx hb hts hown hK hP hS hnm hk_a0 lkf_X6_18 dX6_init_28 (fun H locs hP hS => ?_)
  obtain ⟨S_28, eS_28, Hf⟩ := c_l_ex Hf
  have hP : st_HP X (st_A S) S_28 H := by rw [eS_28]; exact hP
  refine lv_aload_n hx hb dX6_init_31 rfl (lv_at hl 0 rfl) ?_
  refine lv_iconst (v := 0) hx hb dX6_init_32 (by decide) ?_
  have hk_a0 : st_K S_28 a0 = 8 := by rw [kp_pr eS_28]; exact hk_a0
  refine fp_7_3 hx hb hts hown hK hP hS hk_a0 lkf_X6_21 dX6_init_33 (fun H locs hP hS => ?_)
  obtain ⟨S_33, eS_33, Hf⟩ := c_l_ex Hf
  have hP : st_HP X (st_A S) S_33 H := by rw [eS_33]; exact hP
  cases Hf
  exact r_vret hx hb hr rfl hlocks dX6_init_36 (Nat.le_of_ble_eq_true rfl) (Nat.le_of_ble_eq_true rfl) hP hS

set_option maxRecDepth 100000 in
def f_X3_init (S : st_T) (a0 : Nat) : Option (Unit × st_T) :=
  (c_l (st_nx S) (fun (n5 : Nat) => (c_l (st_no S 7) (fun (S_5 : st_T) => (c_c (f_X6_init S_5 n5) (fun (r9 : Unit) (T9 : st_T) => (c_g (st_K T9 a0 = 5) (c_l (st_pr T9 400 a0 (some n5)) (fun (S_12 : st_T) => (c_g (¬ (24 : Int32) < 0 ∧ (24 : Int32).toNatClampNeg ≤ 24) (c_l (st_nx S_12) (fun (n18 : Nat) => (c_l (st_na S_12 20 (24 : Int32).toNatClampNeg) (fun (S_18 : st_T) => (c_g (st_K S_18 a0 = 5) (c_l (st_pr S_18 401 a0 (some n18)) (fun (S_20 : st_T) => (c_g (¬ (24 : Int32) < 0 ∧ (24 : Int32).toNatClampNeg ≤ 24) (c_l (st_nx S_20) (fun (n26 : Nat) => (c_l (st_na S_20 20 (24 : Int32).toNatClampNeg) (fun (S_26 : st_T) => (c_g (st_K S_26 a0 = 5) (c_l (st_pr S_26 402 a0 (some n26)) (fun (S_28 : st_T) => (c_g (¬ (800 : Int32) < 0 ∧ (800 : Int32).toNatClampNeg ≤ 800) (c_l (st_nx S_28) (fun (n35 : Nat) => (c_l (st_na S_28 20 (800 : Int32).toNatClampNeg) (fun (S_35 : st_T) => (c_g (st_K S_35 a0 = 5) (c_l (st_pr S_35 403 a0 (some n35)) (fun (S_37 : st_T) => (c_g (¬ (800 : Int32) < 0 ∧ (800 : Int32).toNatClampNeg ≤ 800) (c_l (st_nx S_37) (fun (n44 : Nat) => (c_l (st_na S_37 20 (800 : Int32).toNatClampNeg) (fun (S_44 : st_T) => (c_g (st_K S_44 a0 = 5) (c_l (st_pr S_44 404 a0 (some n44)) (fun (S_46 : st_T) => (c_l (st_pi S_46 405 a0 0) (fun (S_51 : st_T) => (c_l (st_pi S_51 406 a0 0) (fun (S_56 : st_T) => (c_l (st_pi S_56 407 a0 0) (fun (S_61 : st_T) => (c_l (st_pi S_61 408 a0 0) (fun (S_66 : st_T) => (c_l (st_pi S_66 409 a0 0) (fun (S_71 : st_T) => (c_l (st_pi S_71 410 a0 0) (fun (S_76 : st_T) => (some ((), S_76)))))))))))))))))))))))))))))))))))))))))))))))))))))))
set_option maxRecDepth 100000 in
set_option maxHeartbeats 4000000 in
theorem s_X3_init (l : Launch) (X : st_I) {S SE : st_T} {a0 : Nat} {rr : Unit} (Hf : f_X3_init S a0 = some (rr, SE)) : Met l yX3_init (Cond.code yX3_init cX3_init 1 (none) :: lw_g) { frames := 2, cells := 8, slots := 4055, locals := 44 } (st_P X S [.ref a0]) (st_Q X (st_A S) none SE) 8 4055 (st_A S) := by
  refine st_ofW (by decide) (Nat.le_of_ble_eq_true rfl) ?_
  intro p e s m args below meth c hx hb hr hml hlocks hnm hts hown hK hRO hA hP hS ls hl
  have hown : s.vm.findClass RX3 = some m.cls := hown
  have hl : lv_has ls 1 [(0, .ref a0)] := hl
  unfold f_X3_init at Hf
  refine lv_aload_n hx hb dX3_init_0 rfl (lv_at hl 0 rfl) ?_
  refine W.objInit hx hb hown (hts _ (lg_1 187 rfl rfl)) (hts _ (lg_1 98 rfl rfl)) (hts _ (lg_1 99 rfl rfl)) rfl (by rw [hml]; exact hl.1) rfl dX3_init_1 (Nat.le_of_ble_eq_true rfl) (Nat.le_of_ble_eq_true rfl) ?_
  refine W.eq (g2 := F0 m 4 ls []) rfl ?_
  refine lv_aload_n hx hb dX3_init_4 rfl (lv_at hl 0 rfl) ?_
  obtain ⟨n5, en5, Hf⟩ := c_l_ex Hf
  obtain ⟨S_5, eS_5, Hf⟩ := c_l_ex Hf
  refine r_new (T := TX6) (ci := 7) hx hb hts in_7 rfl rfl (by decide) tyX6_ok df_7 (lg_1 188 rfl rfl) (lg_1 189 rfl rfl) (lg_1 73 rfl rfl) hown hK hA hP hS en5 eS_5 (Nat.le_of_ble_eq_true rfl) (Nat.le_of_ble_eq_true rfl) dX3_init_5 (fun H hP hS => ?_)
  refine W.eq (g2 := F0 m 8 ls [.ref n5, .ref a0]) rfl ?_
  refine lv_dup hx hb dX3_init_8 rfl ?_
  obtain ⟨r9, T9, hq9, Hf⟩ := c_c_some Hf
  refine r_cIN (n := 0) (As := []) (rest := [.ref n5, .ref a0]) ⟨hx, hb, hml, hown, hts⟩ (s_X6_init l X hq9) (lg_ps _ [191, 73, 192] rfl (by decide +kernel)) (List.mem_of_getElem? (i := 190) rfl) (by decide +kernel) dX3_init_9 rfl rfl ⟨(Nat.le_of_ble_eq_true rfl), (Nat.le_of_ble_eq_true rfl)⟩ rfl hl.1 (Nat.le_of_ble_eq_true rfl) ⟨(Nat.le_of_ble_eq_true rfl), (Nat.le_of_ble_eq_true rfl)⟩ hK hRO hA hP hS (fun H locs hP hS => ?_)
  refine W.eq (g2 := F0 m 12 ls [.ref n5, .ref a0]) rfl ?_
  obtain ⟨hk_a0, Hf⟩ := c_g_some Hf
  refine fp_4_0 hx hb hts hown hK hP hS hnm hk_a0 lkf_X3_12 dX3_init_12 (fun H locs hP hS => ?_)
  obtain ⟨S_12, eS_12, Hf⟩ := c_l_ex Hf
  have hP : st_HP X (st_A S) S_12 H := by rw [eS_12]; exact hP
  refine lv_aload_n hx hb dX3_init_15 rfl (lv_at hl 0 rfl) ?_
  refine lv_bipush (v := 24) hx hb dX3_init_16 (by decide) ?_
  obtain ⟨hn18, Hf⟩ := c_g_some Hf
  obtain ⟨n18, en18, Hf⟩ := c_l_ex Hf
  obtain ⟨S_18, eS_18, Hf⟩ := c_l_ex Hf
  refine r_newI (B := 24) hx hb hts (lg_1 110 rfl rfl) hK hA hP hS hn18 (by decide) en18 eS_18 (Nat.le_of_ble_eq_true rfl) (Nat.le_of_ble_eq_true rfl) dX3_init_18 (fun H hP hS => ?_)
  refine W.eq (g2 := F0 m 20 ls [.ref n18, .ref a0]) rfl ?_
  obtain ⟨hk_a0, Hf⟩ := c_g_some Hf
  refine fp_4_1 hx hb hts hown hK hP hS hnm hk_a0 lkf_X3_18 dX3_init_20 (fun H locs hP hS => ?_)
  obtain ⟨S_20, eS_20, Hf⟩ := c_l_ex Hf
  have hP : st_HP X (st_A S) S_20 H := by rw [eS_20]; exact hP
  refine lv_aload_n hx hb dX3_init_23 rfl (lv_at hl 0 rfl) ?_
  refine lv_bipush (v := 24) hx hb dX3_init_24 (by decide) ?_
  obtain ⟨hn26, Hf⟩ := c_g_some Hf
  obtain ⟨n26, en26, Hf⟩ := c_l_ex Hf
  obtain ⟨S_26, eS_26, Hf⟩ := c_l_ex Hf
  refine r_newI (B := 24) hx hb hts (lg_1 110 rfl rfl) hK hA hP hS hn26 (by decide) en26 eS_26 (Nat.le_of_ble_eq_true rfl) (Nat.le_of_ble_eq_true rfl) dX3_init_26 (fun H hP hS => ?_)
  refine W.eq (g2 := F0 m 28 ls [.ref n26, .ref a0]) rfl ?_
  obtain ⟨hk_a0, Hf⟩ := c_g_some Hf
  refine fp_4_2 hx hb hts hown hK hP hS hnm hk_a0 lkf_X3_22 dX3_init_28 (fun H locs hP hS => ?_)
  obtain ⟨S_28, eS_28, Hf⟩ := c_l_ex Hf
  have hP : st_HP X (st_A S) S_28 H := by rw [eS_28]; exact hP
  refine lv_aload_n hx hb dX3_init_31 rfl (lv_at hl 0 rfl) ?_
  refine lv_sipush (v := 800) hx hb dX3_init_32 (by decide) ?_
  obtain ⟨hn35, Hf⟩ := c_g_some Hf
  obtain ⟨n35, en35, Hf⟩ := c_l_ex Hf
  obtain ⟨S_35, eS_35, Hf⟩ := c_l_ex Hf
  refine r_newI (B := 800) hx hb hts (lg_1 110 rfl rfl) hK hA hP hS hn35 (by decide) en35 eS_35 (Nat.le_of_ble_eq_true rfl) (Nat.le_of_ble_eq_true rfl) dX3_init_35 (fun H hP hS => ?_)
  refine W.eq (g2 := F0 m 37 ls [.ref n35, .ref a0]) rfl ?_
  obtain ⟨hk_a0, Hf⟩ := c_g_some Hf
  refine fp_4_3 hx hb hts hown hK hP hS hnm hk_a0 lkf_X3_25 dX3_init_37 (fun H locs hP hS => ?_)
  obtain ⟨S_37, eS_37, Hf⟩ := c_l_ex Hf
  have hP : st_HP X (st_A S) S_37 H := by rw [eS_37]; exact hP
  refine lv_aload_n hx hb dX3_init_40 rfl (lv_at hl 0 rfl) ?_
  refine lv_sipush (v := 800) hx hb dX3_init_41 (by decide) ?_
  obtain ⟨hn44, Hf⟩ := c_g_some Hf
  obtain ⟨n44, en44, Hf⟩ := c_l_ex Hf
  obtain ⟨S_44, eS_44, Hf⟩ := c_l_ex Hf
  refine r_newI (B := 800) hx hb hts (lg_1 110 rfl rfl) hK hA hP hS hn44 (by decide) en44 eS_44 (Nat.le_of_ble_eq_true rfl) (Nat.le_of_ble_eq_true rfl) dX3_init_44 (fun H hP hS => ?_)
  refine W.eq (g2 := F0 m 46 ls [.ref n44, .ref a0]) rfl ?_
  obtain ⟨hk_a0, Hf⟩ := c_g_some Hf
  refine fp_4_4 hx hb hts hown hK hP hS hnm hk_a0 lkf_X3_28 dX3_init_46 (fun H locs hP hS => ?_)
  obtain ⟨S_46, eS_46, Hf⟩ := c_l_ex Hf
  have hP : st_HP X (st_A S) S_46 H := by rw [eS_46]; exact hP
  refine lv_aload_n hx hb dX3_init_49 rfl (lv_at hl 0 rfl) ?_
  refine lv_iconst (v := 0) hx hb dX3_init_50 (by decide) ?_
  have hk_a0 : st_K S_46 a0 = 5 := by rw [kp_pr eS_46]; exact hk_a0
  refine fp_4_5 hx hb hts hown hK hP hS hk_a0 lkf_X3_31 dX3_init_51 (fun H locs hP hS => ?_)
  obtain ⟨S_51, eS_51, Hf⟩ := c_l_ex Hf
  have hP : st_HP X (st_A S) S_51 H := by rw [eS_51]; exact hP
  refine lv_aload_n hx hb dX3_init_54 rfl (lv_at hl 0 rfl) ?_
  refine lv_iconst (v := 0) hx hb dX3_init_55 (by decide) ?_
  have hk_a0 : st_K S_51 a0 = 5 := by rw [kp_pi eS_51]; exact hk_a0
  refine fp_4_6 hx hb hts hown hK hP hS hk_a0 lkf_X3_35 dX3_init_56 (fun H locs hP hS => ?_)
  obtain ⟨S_56, eS_56, Hf⟩ := c_l_ex Hf
  have hP : st_HP X (st_A S) S_56 H := by rw [eS_56]; exact hP
  refine lv_aload_n hx hb dX3_init_59 rfl (lv_at hl 0 rfl) ?_
  refine lv_iconst (v := 0) hx hb dX3_init_60 (by decide) ?_
  have hk_a0 : st_K S_56 a0 = 5 := by rw [kp_pi eS_56]; exact hk_a0
  refine fp_4_7 hx hb hts hown hK hP hS hk_a0 lkf_X3_38 dX3_init_61 (fun H locs hP hS => ?_)
  obtain ⟨S_61, eS_61, Hf⟩ := c_l_ex Hf
  have hP : st_HP X (st_A S) S_61 H := by rw [eS_61]; exact hP
  refine lv_aload_n hx hb dX3_init_64 rfl (lv_at hl 0 rfl) ?_
  refine lv_iconst (v := 0) hx hb dX3_init_65 (by decide) ?_
  have hk_a0 : st_K S_61 a0 = 5 := by rw [kp_pi eS_61]; exact hk_a0
  refine fp_4_8 hx hb hts hown hK hP hS hk_a0 lkf_X3_41 dX3_init_66 (fun H locs hP hS => ?_)
  obtain ⟨S_66, eS_66, Hf⟩ := c_l_ex Hf
  have hP : st_HP X (st_A S) S_66 H := by rw [eS_66]; exact hP
  refine lv_aload_n hx hb dX3_init_69 rfl (lv_at hl 0 rfl) ?_
  refine lv_iconst (v := 0) hx hb dX3_init_70 (by decide) ?_
  have hk_a0 : st_K S_66 a0 = 5 := by rw [kp_pi eS_66]; exact hk_a0
  refine fp_4_9 hx hb hts hown hK hP hS hk_a0 lkf_X3_44 dX3_init_71 (fun H locs hP hS => ?_)
  obtain ⟨S_71, eS_71, Hf⟩ := c_l_ex Hf
  have hP : st_HP X (st_A S) S_71 H := by rw [eS_71]; exact hP
  refine lv_aload_n hx hb dX3_init_74 rfl (lv_at hl 0 rfl) ?_
  refine lv_iconst (v := 0) hx hb dX3_init_75 (by decide) ?_
  have hk_a0 : st_K S_71 a0 = 5 := by rw [kp_pi eS_71]; exact hk_a0
  refine fp_4_10 hx hb hts hown hK hP hS hk_a0 lkf_X3_47 dX3_init_76 (fun H locs hP hS => ?_)
  obtain ⟨S_76, eS_76, Hf⟩ := c_l_ex Hf
  have hP : st_HP X (st_A S) S_76 H := by rw [eS_76]; exact hP
  cases Hf
  exact r_vret hx hb hr rfl hlocks dX3_init_79 (Nat.le_of_ble_eq_true rfl) (Nat.le_of_ble_eq_true rfl) hP hS

set_option maxRecDepth 100000 in
def f_X5_init (S : st_T) (a0 : Nat) (x1 : Nat) (x2 : Nat) (x3 : Nat) (x4 : Nat) (x5 : Int32) : Option (Unit × st_T) :=
  (c_g (st_K S a0 = 7) (c_l (st_pr S 600 a0 (some x1)) (fun (S_6 : st_T) => (c_l (st_pr S_6 601 a0 (some x2)) (fun (S_11 : st_T) => (c_l (st_pr S_11 602 a0 (some x3)) (fun (S_16 : st_T) => (c_l (st_pr S_16 603 a0 (some x4)) (fun (S_22 : st_T) => (c_l (st_pi S_22 604 a0 x5) (fun (S_28 : st_T) => (some ((), S_28)))))))))))))
set_option maxRecDepth 100000 in
set_option maxHeartbeats 4000000 in
theorem s_X5_init (l : Launch) (X : st_I) {S SE : st_T} {a0 : Nat} {x1 : Nat} {x2 : Nat} {x3 : Nat} {x4 : Nat} {x5 : Int32} {rr : Unit} (Hf : f_X5_init S a0 x1 x2 x3 x4 x5 = some (rr, SE)) : Met l yX5_init (Cond.code yX5_init cX5_init 6 (none) :: lw_g) { frames := 1, cells := 0, slots := 0, locals := 24 } (st_P X S [.ref a0, .ref x1, .ref x2, .ref x3, .ref x4, .int x5]) (st_Q X (st_A S) none SE) 0 0 (st_A S) := by
  refine st_ofW (by decide) (Nat.le_of_ble_eq_true rfl) ?_
  intro p e s m args below meth c hx hb hr hml hlocks hnm hts hown hK hRO hA hP hS ls hl
  have hown : s.vm.findClass RX5 = some m.cls := hown
  have hl : lv_has ls 6 [(0, .ref a0), (1, .ref x1), (2, .ref x2), (3, .ref x3), (4, .ref x4), (5, .int x5)] := hl
  unfold f_X5_init at Hf
  refine lv_aload_n hx hb dX5_init_0 rfl (lv_at hl 0 rfl) ?_
  refine W.objInit hx hb hown (hts _ (lg_1 142 rfl rfl)) (hts _ (lg_1 98 rfl rfl)) (hts _ (lg_1 99 rfl rfl)) rfl (by rw [hml]; exact hl.1) rfl dX5_init_1 (Nat.le_of_ble_eq_true rfl) (Nat.le_of_ble_eq_true rfl) ?_
  refine W.eq (g2 := F0 m 4 ls []) rfl ?_
  refine lv_aload_n hx hb dX5_init_4 rfl (lv_at hl 0 rfl) ?_
  refine lv_aload_n hx hb dX5_init_5 rfl (lv_at hl 1 rfl) ?_
  obtain ⟨hk_a0, Hf⟩ := c_g_some Hf
  refine fp_6_0 hx hb hts hown hK hP hS hnm hk_a0 lkf_X5_7 dX5_init_6 (fun H locs hP hS => ?_)
  obtain ⟨S_6, eS_6, Hf⟩ := c_l_ex Hf
  have hP : st_HP X (st_A S) S_6 H := by rw [eS_6]; exact hP
  refine lv_aload_n hx hb dX5_init_9 rfl (lv_at hl 0 rfl) ?_
  refine lv_aload_n hx hb dX5_init_10 rfl (lv_at hl 2 rfl) ?_
  have hk_a0 : st_K S_6 a0 = 7 := by rw [kp_pr eS_6]; exact hk_a0
  refine fp_6_1 hx hb hts hown hK hP hS hnm hk_a0 lkf_X5_13 dX5_init_11 (fun H locs hP hS => ?_)
  obtain ⟨S_11, eS_11, Hf⟩ := c_l_ex Hf
  have hP : st_HP X (st_A S) S_11 H := by rw [eS_11]; exact hP
  refine lv_aload_n hx hb dX5_init_14 rfl (lv_at hl 0 rfl) ?_
  refine lv_aload_n hx hb dX5_init_15 rfl (lv_at hl 3 rfl) ?_
  have hk_a0 : st_K S_11 a0 = 7 := by rw [kp_pr eS_11]; exact hk_a0
  refine fp_6_2 hx hb hts hown hK hP hS hnm hk_a0 lkf_X5_16 dX5_init_16 (fun H locs hP hS => ?_)
  obtain ⟨S_16, eS_16, Hf⟩ := c_l_ex Hf
  have hP : st_HP X (st_A S) S_16 H := by rw [eS_16]; exact hP
  refine lv_aload_n hx hb dX5_init_19 rfl (lv_at hl 0 rfl) ?_
  refine lv_aload hx hb dX5_init_20 (lv_at hl 4 rfl) ?_
  have hk_a0 : st_K S_16 a0 = 7 := by rw [kp_pr eS_16]; exact hk_a0
  refine fp_6_3 hx hb hts hown hK hP hS hnm hk_a0 lkf_X5_19 dX5_init_22 (fun H locs hP hS => ?_)
  obtain ⟨S_22, eS_22, Hf⟩ := c_l_ex Hf
  have hP : st_HP X (st_A S) S_22 H := by rw [eS_22]; exact hP
  refine lv_aload_n hx hb dX5_init_25 rfl (lv_at hl 0 rfl) ?_
  refine lv_iload hx hb dX5_init_26 (lv_at hl 5 rfl) ?_
  have hk_a0 : st_K S_22 a0 = 7 := by rw [kp_pr eS_22]; exact hk_a0
  refine fp_6_4 hx hb hts hown hK hP hS hnm hk_a0 lkf_X5_22 dX5_init_28 (fun H locs hP hS => ?_)
  obtain ⟨S_28, eS_28, Hf⟩ := c_l_ex Hf
  have hP : st_HP X (st_A S) S_28 H := by rw [eS_28]; exact hP
  cases Hf
  exact r_vret hx hb hr rfl hlocks dX5_init_31 (Nat.le_of_ble_eq_true rfl) (Nat.le_of_ble_eq_true rfl) hP hS

set_option maxRecDepth 100000 in
def f_X0_init (S : st_T) (a0 : Nat) (x1 : Nat) : Option (Unit × st_T) :=
  (c_g (¬ (16 : Int32) < 0 ∧ (16 : Int32).toNatClampNeg ≤ 16) (c_l (st_nx S) (fun (n7 : Nat) => (c_l (st_na S 20 (16 : Int32).toNatClampNeg) (fun (S_7 : st_T) => (c_g (st_K S_7 a0 = 2) (c_l (st_pr S_7 101 a0 (some n7)) (fun (S_9 : st_T) => (c_l (st_pi S_9 102 a0 0) (fun (S_14 : st_T) => (c_l (st_pi S_14 103 a0 0) (fun (S_19 : st_T) => (c_l (st_pi S_19 104 a0 0) (fun (S_24 : st_T) => (c_l (st_pi S_24 105 a0 0) (fun (S_29 : st_T) => (c_l (st_pi S_29 106 a0 (-1)) (fun (S_34 : st_T) => (c_l (st_pr S_34 100 a0 (some x1)) (fun (S_39 : st_T) => (some ((), S_39))))))))))))))))))))))
set_option maxRecDepth 100000 in
set_option maxHeartbeats 4000000 in
theorem s_X0_init (l : Launch) (X : st_I) {S SE : st_T} {a0 : Nat} {x1 : Nat} {rr : Unit} (Hf : f_X0_init S a0 x1 = some (rr, SE)) : Met l yX0_init (Cond.code yX0_init cX0_init 2 (none) :: lw_g) { frames := 1, cells := 1, slots := 16, locals := 24 } (st_P X S [.ref a0, .ref x1]) (st_Q X (st_A S) none SE) 1 16 (st_A S) := by
  refine st_ofW (by decide) (Nat.le_of_ble_eq_true rfl) ?_
  intro p e s m args below meth c hx hb hr hml hlocks hnm hts hown hK hRO hA hP hS ls hl
  have hown : s.vm.findClass RX0 = some m.cls := hown
  have hl : lv_has ls 2 [(0, .ref a0), (1, .ref x1)] := hl
  unfold f_X0_init at Hf
  refine lv_aload_n hx hb dX0_init_0 rfl (lv_at hl 0 rfl) ?_
  refine W.objInit hx hb hown (hts _ (lg_1 250 rfl rfl)) (hts _ (lg_1 98 rfl rfl)) (hts _ (lg_1 99 rfl rfl)) rfl (by rw [hml]; exact hl.1) rfl dX0_init_1 (Nat.le_of_ble_eq_true rfl) (Nat.le_of_ble_eq_true rfl) ?_
  refine W.eq (g2 := F0 m 4 ls []) rfl ?_
  refine lv_aload_n hx hb dX0_init_4 rfl (lv_at hl 0 rfl) ?_
  refine lv_bipush (v := 16) hx hb dX0_init_5 (by decide) ?_
  obtain ⟨hn7, Hf⟩ := c_g_some Hf
  obtain ⟨n7, en7, Hf⟩ := c_l_ex Hf
  obtain ⟨S_7, eS_7, Hf⟩ := c_l_ex Hf
  refine r_newI (B := 16) hx hb hts (lg_1 110 rfl rfl) hK hA hP hS hn7 (by decide) en7 eS_7 (Nat.le_of_ble_eq_true rfl) (Nat.le_of_ble_eq_true rfl) dX0_init_7 (fun H hP hS => ?_)
  refine W.eq (g2 := F0 m 9 ls [.ref n7, .ref a0]) rfl ?_
  obtain ⟨hk_a0, Hf⟩ := c_g_some Hf
  refine fp_1_1 hx hb hts hown hK hP hS hnm hk_a0 lkf_X0_9 dX0_init_9 (fun H locs hP hS => ?_)
  obtain ⟨S_9, eS_9, Hf⟩ := c_l_ex Hf
  have hP : st_HP X (st_A S) S_9 H := by rw [eS_9]; exact hP
  refine lv_aload_n hx hb dX0_init_12 rfl (lv_at hl 0 rfl) ?_
  refine lv_iconst (v := 0) hx hb dX0_init_13 (by decide) ?_
  have hk_a0 : st_K S_9 a0 = 2 := by rw [kp_pr eS_9]; exact hk_a0
  refine fp_1_2 hx hb hts hown hK hP hS hk_a0 lkf_X0_15 dX0_init_14 (fun H locs hP hS => ?_)
  obtain ⟨S_14, eS_14, Hf⟩ := c_l_ex Hf
  have hP : st_HP X (st_A S) S_14 H := by rw [eS_14]; exact hP
  refine lv_aload_n hx hb dX0_init_17 rfl (lv_at hl 0 rfl) ?_
  refine lv_iconst (v := 0) hx hb dX0_init_18 (by decide) ?_
  have hk_a0 : st_K S_14 a0 = 2 := by rw [kp_pi eS_14]; exact hk_a0
  refine fp_1_3 hx hb hts hown hK hP hS hk_a0 lkf_X0_19 dX0_init_19 (fun H locs hP hS => ?_)
  obtain ⟨S_19, eS_19, Hf⟩ := c_l_ex Hf
  have hP : st_HP X (st_A S) S_19 H := by rw [eS_19]; exact hP
  refine lv_aload_n hx hb dX0_init_22 rfl (lv_at hl 0 rfl) ?_
  refine lv_iconst (v := 0) hx hb dX0_init_23 (by decide) ?_
  have hk_a0 : st_K S_19 a0 = 2 := by rw [kp_pi eS_19]; exact hk_a0
  refine fp_1_4 hx hb hts hown hK hP hS hk_a0 lkf_X0_22 dX0_init_24 (fun H locs hP hS => ?_)
  obtain ⟨S_24, eS_24, Hf⟩ := c_l_ex Hf
  have hP : st_HP X (st_A S) S_24 H := by rw [eS_24]; exact hP
  refine lv_aload_n hx hb dX0_init_27 rfl (lv_at hl 0 rfl) ?_
  refine lv_iconst (v := 0) hx hb dX0_init_28 (by decide) ?_
  have hk_a0 : st_K S_24 a0 = 2 := by rw [kp_pi eS_24]; exact hk_a0
  refine fp_1_5 hx hb hts hown hK hP hS hk_a0 lkf_X0_25 dX0_init_29 (fun H locs hP hS => ?_)
  obtain ⟨S_29, eS_29, Hf⟩ := c_l_ex Hf
  have hP : st_HP X (st_A S) S_29 H := by rw [eS_29]; exact hP
  refine lv_aload_n hx hb dX0_init_32 rfl (lv_at hl 0 rfl) ?_
  refine lv_iconst (v := (-1)) hx hb dX0_init_33 (by decide) ?_
  have hk_a0 : st_K S_29 a0 = 2 := by rw [kp_pi eS_29]; exact hk_a0
  refine fp_1_6 hx hb hts hown hK hP hS hk_a0 lkf_X0_28 dX0_init_34 (fun H locs hP hS => ?_)
  obtain ⟨S_34, eS_34, Hf⟩ := c_l_ex Hf
  have hP : st_HP X (st_A S) S_34 H := by rw [eS_34]; exact hP
  refine lv_aload_n hx hb dX0_init_37 rfl (lv_at hl 0 rfl) ?_
  refine lv_aload_n hx hb dX0_init_38 rfl (lv_at hl 1 rfl) ?_
  have hk_a0 : st_K S_34 a0 = 2 := by rw [kp_pi eS_34]; exact hk_a0
  refine fp_1_0 hx hb hts hown hK hP hS hnm hk_a0 lkf_X0_31 dX0_init_39 (fun H locs hP hS => ?_)
  obtain ⟨S_39, eS_39, Hf⟩ := c_l_ex Hf
  have hP : st_HP X (st_A S) S_39 H := by rw [eS_39]; exact hP
  cases Hf
  exact r_vret hx hb hr rfl hlocks dX0_init_42 (Nat.le_of_ble_eq_true rfl) (Nat.le_of_ble_eq_true rfl) hP hS

set_option maxRecDepth 100000 in
def f_X1_init (S : st_T) (a0 : Nat) (x1 : Int32) (x2 : Int32) (x3 : Int32) (x4 : Int32) : Option (Unit × st_T) :=
  (c_l (st_nx S) (fun (n5 : Nat) => (c_l (st_no S 0) (fun (S_5 : st_T) => (c_c (f_Jx4a65c_init_da8c8 S_5 n5) (fun (r9 : Unit) (T9 : st_T) => (c_g (st_K T9 a0 = 3) (c_l (st_pr T9 204 a0 (some n5)) (fun (S_12 : st_T) => (c_l (st_pi S_12 205 a0 1000000) (fun (S_18 : st_T) => (c_l (st_pi S_18 206 a0 (-1)) (fun (S_23 : st_T) => (c_l (st_pi S_23 200 a0 x1) (fun (S_28 : st_T) => (c_l (st_pi S_28 201 a0 x2) (fun (S_33 : st_T) => (c_l (st_pi S_33 202 a0 x3) (fun (S_38 : st_T) => (c_l (st_pi S_38 203 a0 x4) (fun (S_44 : st_T) => (some ((), S_44)))))))))))))))))))))))
set_option maxRecDepth 100000 in
set_option maxHeartbeats 4000000 in
theorem s_X1_init (l : Launch) (X : st_I) {S SE : st_T} {a0 : Nat} {x1 : Int32} {x2 : Int32} {x3 : Int32} {x4 : Int32} {rr : Unit} (Hf : f_X1_init S a0 x1 x2 x3 x4 = some (rr, SE)) : Met l yX1_init (Cond.code yX1_init cX1_init 5 (none) :: lw_g) { frames := 4, cells := 1, slots := 3, locals := 84 } (st_P X S [.ref a0, .int x1, .int x2, .int x3, .int x4]) (st_Q X (st_A S) none SE) 1 3 (st_A S) := by
  refine st_ofW (by decide) (Nat.le_of_ble_eq_true rfl) ?_
  intro p e s m args below meth c hx hb hr hml hlocks hnm hts hown hK hRO hA hP hS ls hl
  have hown : s.vm.findClass RX1 = some m.cls := hown
  have hl : lv_has ls 5 [(0, .ref a0), (1, .int x1), (2, .int x2), (3, .int x3), (4, .int x4)] := hl
  unfold f_X1_init at Hf
  refine lv_aload_n hx hb dX1_init_0 rfl (lv_at hl 0 rfl) ?_
  refine W.objInit hx hb hown (hts _ (lg_1 350 rfl rfl)) (hts _ (lg_1 98 rfl rfl)) (hts _ (lg_1 99 rfl rfl)) rfl (by rw [hml]; exact hl.1) rfl dX1_init_1 (Nat.le_of_ble_eq_true rfl) (Nat.le_of_ble_eq_true rfl) ?_
  refine W.eq (g2 := F0 m 4 ls []) rfl ?_
  refine lv_aload_n hx hb dX1_init_4 rfl (lv_at hl 0 rfl) ?_
  obtain ⟨n5, en5, Hf⟩ := c_l_ex Hf
  obtain ⟨S_5, eS_5, Hf⟩ := c_l_ex Hf
  refine r_new (T := TJx4a65c) (ci := 0) hx hb hts in_0 rfl rfl (by decide) tyJx4a65c_ok df_0 (lg_1 351 rfl rfl) (lg_1 112 rfl rfl) (lg_1 69 rfl rfl) hown hK hA hP hS en5 eS_5 (Nat.le_of_ble_eq_true rfl) (Nat.le_of_ble_eq_true rfl) dX1_init_5 (fun H hP hS => ?_)
  refine W.eq (g2 := F0 m 8 ls [.ref n5, .ref a0]) rfl ?_
  refine lv_dup hx hb dX1_init_8 rfl ?_
  obtain ⟨r9, T9, hq9, Hf⟩ := c_c_some Hf
  refine r_cI (n := 0) (As := []) (rest := [.ref n5, .ref a0]) ⟨hx, hb, hml, hown, hts⟩ (s_Jx4a65c_init_da8c8 l X hq9) (lg_ps _ [352, 114, 69, 115] rfl (by decide +kernel)) (by decide +kernel) dX1_init_9 rfl rfl ⟨(Nat.le_of_ble_eq_true rfl), (Nat.le_of_ble_eq_true rfl)⟩ rfl hl.1 (Nat.le_of_ble_eq_true rfl) ⟨(Nat.le_of_ble_eq_true rfl), (Nat.le_of_ble_eq_true rfl)⟩ hK hRO hA hP hS (fun H locs hP hS => ?_)
  refine W.eq (g2 := F0 m 12 ls [.ref n5, .ref a0]) rfl ?_
  obtain ⟨hk_a0, Hf⟩ := c_g_some Hf
  refine fp_2_4 hx hb hts hown hK hP hS hnm hk_a0 lkf_X1_12 dX1_init_12 (fun H locs hP hS => ?_)
  obtain ⟨S_12, eS_12, Hf⟩ := c_l_ex Hf
  have hP : st_HP X (st_A S) S_12 H := by rw [eS_12]; exact hP
  refine lv_aload_n hx hb dX1_init_15 rfl (lv_at hl 0 rfl) ?_
  refine lv_ldc hx hb hown (hts _ lkc_X1_18) dX1_init_16 ?_
  have hk_a0 : st_K S_12 a0 = 3 := by rw [kp_pr eS_12]; exact hk_a0
  refine fp_2_5 hx hb hts hown hK hP hS hk_a0 lkf_X1_19 dX1_init_18 (fun H locs hP hS => ?_)
  obtain ⟨S_18, eS_18, Hf⟩ := c_l_ex Hf
  have hP : st_HP X (st_A S) S_18 H := by rw [eS_18]; exact hP
  refine lv_aload_n hx hb dX1_init_21 rfl (lv_at hl 0 rfl) ?_
  refine lv_iconst (v := (-1)) hx hb dX1_init_22 (by decide) ?_
  have hk_a0 : st_K S_18 a0 = 3 := by rw [kp_pi eS_18]; exact hk_a0
  refine fp_2_6 hx hb hts hown hK hP hS hk_a0 lkf_X1_23 dX1_init_23 (fun H locs hP hS => ?_)
  obtain ⟨S_23, eS_23, Hf⟩ := c_l_ex Hf
  have hP : st_HP X (st_A S) S_23 H := by rw [eS_23]; exact hP
  refine lv_aload_n hx hb dX1_init_26 rfl (lv_at hl 0 rfl) ?_
  refine lv_iload_n hx hb dX1_init_27 rfl (lv_at hl 1 rfl) ?_
  have hk_a0 : st_K S_23 a0 = 3 := by rw [kp_pi eS_23]; exact hk_a0
  refine fp_2_0 hx hb hts hown hK hP hS hnm hk_a0 lkf_X1_26 dX1_init_28 (fun H locs hP hS => ?_)
  obtain ⟨S_28, eS_28, Hf⟩ := c_l_ex Hf
  have hP : st_HP X (st_A S) S_28 H := by rw [eS_28]; exact hP
  refine lv_aload_n hx hb dX1_init_31 rfl (lv_at hl 0 rfl) ?_
  refine lv_iload_n hx hb dX1_init_32 rfl (lv_at hl 2 rfl) ?_
  have hk_a0 : st_K S_28 a0 = 3 := by rw [kp_pi eS_28]; exact hk_a0
  refine fp_2_1 hx hb hts hown hK hP hS hnm hk_a0 lkf_X1_29 dX1_init_33 (fun H locs hP hS => ?_)
  obtain ⟨S_33, eS_33, Hf⟩ := c_l_ex Hf
  have hP : st_HP X (st_A S) S_33 H := by rw [eS_33]; exact hP
  refine lv_aload_n hx hb dX1_init_36 rfl (lv_at hl 0 rfl) ?_
  refine lv_iload_n hx hb dX1_init_37 rfl (lv_at hl 3 rfl) ?_
  have hk_a0 : st_K S_33 a0 = 3 := by rw [kp_pi eS_33]; exact hk_a0
  refine fp_2_2 hx hb hts hown hK hP hS hnm hk_a0 lkf_X1_32 dX1_init_38 (fun H locs hP hS => ?_)
  obtain ⟨S_38, eS_38, Hf⟩ := c_l_ex Hf
  have hP : st_HP X (st_A S) S_38 H := by rw [eS_38]; exact hP
  refine lv_aload_n hx hb dX1_init_41 rfl (lv_at hl 0 rfl) ?_
  refine lv_iload hx hb dX1_init_42 (lv_at hl 4 rfl) ?_
  have hk_a0 : st_K S_38 a0 = 3 := by rw [kp_pi eS_38]; exact hk_a0
  refine fp_2_3 hx hb hts hown hK hP hS hnm hk_a0 lkf_X1_35 dX1_init_44 (fun H locs hP hS => ?_)
  obtain ⟨S_44, eS_44, Hf⟩ := c_l_ex Hf
  have hP : st_HP X (st_A S) S_44 H := by rw [eS_44]; exact hP
  cases Hf
  exact r_vret hx hb hr rfl hlocks dX1_init_47 (Nat.le_of_ble_eq_true rfl) (Nat.le_of_ble_eq_true rfl) hP hS

set_option maxRecDepth 100000 in
def f_X2_init (S : st_T) (a0 : Nat) (x1 : Int32) (x2 : Int32) (x3 : Int32) (x4 : Int32) (x5 : Int32) (x6 : Int32) : Option (Unit × st_T) :=
  (c_g (st_K S a0 = 4) (c_l (st_pi S 306 a0 (-1)) (fun (S_6 : st_T) => (c_l (st_pi S_6 307 a0 (-1)) (fun (S_11 : st_T) => (c_l (st_pi S_11 308 a0 0) (fun (S_16 : st_T) => (c_l (st_pi S_16 300 a0 x1) (fun (S_21 : st_T) => (c_l (st_pi S_21 301 a0 x2) (fun (S_26 : st_T) => (c_l (st_pi S_26 302 a0 x3) (fun (S_31 : st_T) => (c_l (st_pi S_31 303 a0 x4) (fun (S_37 : st_T) => (c_l (st_pi S_37 304 a0 x5) (fun (S_43 : st_T) => (c_l (st_pi S_43 305 a0 x6) (fun (S_49 : st_T) => (some ((), S_49)))))))))))))))))))))
set_option maxRecDepth 100000 in
set_option maxHeartbeats 4000000 in
theorem s_X2_init (l : Launch) (X : st_I) {S SE : st_T} {a0 : Nat} {x1 : Int32} {x2 : Int32} {x3 : Int32} {x4 : Int32} {x5 : Int32} {x6 : Int32} {rr : Unit} (Hf : f_X2_init S a0 x1 x2 x3 x4 x5 x6 = some (rr, SE)) : Met l yX2_init (Cond.code yX2_init cX2_init 7 (none) :: lw_g) { frames := 1, cells := 0, slots := 0, locals := 24 } (st_P X S [.ref a0, .int x1, .int x2, .int x3, .int x4, .int x5, .int x6]) (st_Q X (st_A S) none SE) 0 0 (st_A S) := by
  refine st_ofW (by decide) (Nat.le_of_ble_eq_true rfl) ?_
  intro p e s m args below meth c hx hb hr hml hlocks hnm hts hown hK hRO hA hP hS ls hl
  have hown : s.vm.findClass RX2 = some m.cls := hown
  have hl : lv_has ls 7 [(0, .ref a0), (1, .int x1), (2, .int x2), (3, .int x3), (4, .int x4), (5, .int x5), (6, .int x6)] := hl
  unfold f_X2_init at Hf
  refine lv_aload_n hx hb dX2_init_0 rfl (lv_at hl 0 rfl) ?_
  refine W.objInit hx hb hown (hts _ (lg_1 461 rfl rfl)) (hts _ (lg_1 98 rfl rfl)) (hts _ (lg_1 99 rfl rfl)) rfl (by rw [hml]; exact hl.1) rfl dX2_init_1 (Nat.le_of_ble_eq_true rfl) (Nat.le_of_ble_eq_true rfl) ?_
  refine W.eq (g2 := F0 m 4 ls []) rfl ?_
  refine lv_aload_n hx hb dX2_init_4 rfl (lv_at hl 0 rfl) ?_
  refine lv_iconst (v := (-1)) hx hb dX2_init_5 (by decide) ?_
  obtain ⟨hk_a0, Hf⟩ := c_g_some Hf
  refine fp_3_6 hx hb hts hown hK hP hS hk_a0 lkf_X2_9 dX2_init_6 (fun H locs hP hS => ?_)
  obtain ⟨S_6, eS_6, Hf⟩ := c_l_ex Hf
  have hP : st_HP X (st_A S) S_6 H := by rw [eS_6]; exact hP
  refine lv_aload_n hx hb dX2_init_9 rfl (lv_at hl 0 rfl) ?_
  refine lv_iconst (v := (-1)) hx hb dX2_init_10 (by decide) ?_
  have hk_a0 : st_K S_6 a0 = 4 := by rw [kp_pi eS_6]; exact hk_a0
  refine fp_3_7 hx hb hts hown hK hP hS hk_a0 lkf_X2_15 dX2_init_11 (fun H locs hP hS => ?_)
  obtain ⟨S_11, eS_11, Hf⟩ := c_l_ex Hf
  have hP : st_HP X (st_A S) S_11 H := by rw [eS_11]; exact hP
  refine lv_aload_n hx hb dX2_init_14 rfl (lv_at hl 0 rfl) ?_
  refine lv_iconst (v := 0) hx hb dX2_init_15 (by decide) ?_
  have hk_a0 : st_K S_11 a0 = 4 := by rw [kp_pi eS_11]; exact hk_a0
  refine fp_3_8 hx hb hts hown hK hP hS hk_a0 lkf_X2_18 dX2_init_16 (fun H locs hP hS => ?_)
  obtain ⟨S_16, eS_16, Hf⟩ := c_l_ex Hf
  have hP : st_HP X (st_A S) S_16 H := by rw [eS_16]; exact hP
  refine lv_aload_n hx hb dX2_init_19 rfl (lv_at hl 0 rfl) ?_
  refine lv_iload_n hx hb dX2_init_20 rfl (lv_at hl 1 rfl) ?_
  have hk_a0 : st_K S_16 a0 = 4 := by rw [kp_pi eS_16]; exact hk_a0
  refine fp_3_0 hx hb hts hown hK hP hS hnm hk_a0 lkf_X2_21 dX2_init_21 (fun H locs hP hS => ?_)
  obtain ⟨S_21, eS_21, Hf⟩ := c_l_ex Hf
  have hP : st_HP X (st_A S) S_21 H := by rw [eS_21]; exact hP
  refine lv_aload_n hx hb dX2_init_24 rfl (lv_at hl 0 rfl) ?_
  refine lv_iload_n hx hb dX2_init_25 rfl (lv_at hl 2 rfl) ?_
  have hk_a0 : st_K S_21 a0 = 4 := by rw [kp_pi eS_21]; exact hk_a0
  refine fp_3_1 hx hb hts hown hK hP hS hnm hk_a0 lkf_X2_24 dX2_init_26 (fun H locs hP hS => ?_)
  obtain ⟨S_26, eS_26, Hf⟩ := c_l_ex Hf
  have hP : st_HP X (st_A S) S_26 H := by rw [eS_26]; exact hP
  refine lv_aload_n hx hb dX2_init_29 rfl (lv_at hl 0 rfl) ?_
  refine lv_iload_n hx hb dX2_init_30 rfl (lv_at hl 3 rfl) ?_
  have hk_a0 : st_K S_26 a0 = 4 := by rw [kp_pi eS_26]; exact hk_a0
  refine fp_3_2 hx hb hts hown hK hP hS hnm hk_a0 lkf_X2_27 dX2_init_31 (fun H locs hP hS => ?_)
  obtain ⟨S_31, eS_31, Hf⟩ := c_l_ex Hf
  have hP : st_HP X (st_A S) S_31 H := by rw [eS_31]; exact hP
  refine lv_aload_n hx hb dX2_init_34 rfl (lv_at hl 0 rfl) ?_
  refine lv_iload hx hb dX2_init_35 (lv_at hl 4 rfl) ?_
  have hk_a0 : st_K S_31 a0 = 4 := by rw [kp_pi eS_31]; exact hk_a0
  refine fp_3_3 hx hb hts hown hK hP hS hnm hk_a0 lkf_X2_30 dX2_init_37 (fun H locs hP hS => ?_)
  obtain ⟨S_37, eS_37, Hf⟩ := c_l_ex Hf
  have hP : st_HP X (st_A S) S_37 H := by rw [eS_37]; exact hP
  refine lv_aload_n hx hb dX2_init_40 rfl (lv_at hl 0 rfl) ?_
  refine lv_iload hx hb dX2_init_41 (lv_at hl 5 rfl) ?_
  have hk_a0 : st_K S_37 a0 = 4 := by rw [kp_pi eS_37]; exact hk_a0
  refine fp_3_4 hx hb hts hown hK hP hS hnm hk_a0 lkf_X2_33 dX2_init_43 (fun H locs hP hS => ?_)
  obtain ⟨S_43, eS_43, Hf⟩ := c_l_ex Hf
  have hP : st_HP X (st_A S) S_43 H := by rw [eS_43]; exact hP
  refine lv_aload_n hx hb dX2_init_46 rfl (lv_at hl 0 rfl) ?_
  refine lv_iload hx hb dX2_init_47 (lv_at hl 6 rfl) ?_
  have hk_a0 : st_K S_43 a0 = 4 := by rw [kp_pi eS_43]; exact hk_a0
  refine fp_3_5 hx hb hts hown hK hP hS hnm hk_a0 lkf_X2_36 dX2_init_49 (fun H locs hP hS => ?_)
  obtain ⟨S_49, eS_49, Hf⟩ := c_l_ex Hf
  have hP : st_HP X (st_A S) S_49 H := by rw [eS_49]; exact hP
  cases Hf
  exact r_vret hx hb hr rfl hlocks dX2_init_52 (Nat.le_of_ble_eq_true rfl) (Nat.le_of_ble_eq_true rfl) hP hS

set_option maxRecDepth 100000 in
def f_X8_init (S : st_T) (a0 : Nat) : Option (Unit × st_T) :=
  (c_l (st_nx S) (fun (n5 : Nat) => (c_l (st_no S 8) (fun (S_5 : st_T) => (c_c (f_X7_init S_5 n5) (fun (r9 : Unit) (T9 : st_T) => (c_g (st_K T9 a0 = 10) (c_l (st_pr T9 900 a0 (some n5)) (fun (S_12 : st_T) => (c_l (st_nx S_12) (fun (n16 : Nat) => (c_l (st_no S_12 0) (fun (S_16 : st_T) => (c_c (f_Jx4a65c_init_da8c8 S_16 n16) (fun (r20 : Unit) (T20 : st_T) => (c_g (st_K T20 a0 = 10) (c_l (st_pr T20 901 a0 (some n16)) (fun (S_23 : st_T) => (c_l (st_nx S_23) (fun (n27 : Nat) => (c_l (st_no S_23 0) (fun (S_27 : st_T) => (c_c (f_Jx4a65c_init_da8c8 S_27 n27) (fun (r31 : Unit) (T31 : st_T) => (c_g (st_K T31 a0 = 10) (c_l (st_pr T31 902 a0 (some n27)) (fun (S_34 : st_T) => (c_l (st_nx S_34) (fun (n38 : Nat) => (c_l (st_no S_34 6) (fun (S_38 : st_T) => (c_g (¬ (0 : Int32) < 0 ∧ (0 : Int32).toNatClampNeg ≤ 0) (c_l (st_nx S_38) (fun (n43 : Nat) => (c_l (st_na S_38 20 (0 : Int32).toNatClampNeg) (fun (S_43 : st_T) => (c_g (¬ (0 : Int32) < 0 ∧ (0 : Int32).toNatClampNeg ≤ 0) (c_l (st_nx S_43) (fun (n46 : Nat) => (c_l (st_na S_43 20 (0 : Int32).toNatClampNeg) (fun (S_46 : st_T) => (c_g (¬ (0 : Int32) < 0 ∧ (0 : Int32).toNatClampNeg ≤ 0) (c_l (st_nx S_46) (fun (n49 : Nat) => (c_l (st_na S_46 20 (0 : Int32).toNatClampNeg) (fun (S_49 : st_T) => (c_g (¬ (0 : Int32) < 0 ∧ (0 : Int32).toNatClampNeg ≤ 0) (c_l (st_nx S_49) (fun (n52 : Nat) => (c_l (st_na S_49 20 (0 : Int32).toNatClampNeg) (fun (S_52 : st_T) => (c_c (f_X5_init S_52 n38 n43 n46 n49 n52 0) (fun (r55 : Unit) (T55 : st_T) => (c_g (st_K T55 a0 = 10) (c_l (st_pr T55 903 a0 (some n38)) (fun (S_58 : st_T) => (c_l (st_nx S_58) (fun (n62 : Nat) => (c_l (st_no S_58 5) (fun (S_62 : st_T) => (c_c (f_X4_init S_62 n62) (fun (r66 : Unit) (T66 : st_T) => (c_g (st_K T66 a0 = 10) (c_l (st_pr T66 904 a0 (some n62)) (fun (S_69 : st_T) => (c_l (st_nx S_69) (fun (n73 : Nat) => (c_l (st_no S_69 4) (fun (S_73 : st_T) => (c_c (f_X3_init S_73 n73) (fun (r77 : Unit) (T77 : st_T) => (c_g (st_K T77 a0 = 10) (c_l (st_pr T77 905 a0 (some n73)) (fun (S_80 : st_T) => (c_l (st_nx S_80) (fun (n84 : Nat) => (c_l (st_no S_80 1) (fun (S_84 : st_T) => (c_g (st_K S_84 a0 = 10) (c_n (st_fr S_84 900 a0) (fun (q89 : Nat) => (c_c (f_X0_init S_84 n84 q89) (fun (r92 : Unit) (T92 : st_T) => (c_g (st_K T92 a0 = 10) (c_l (st_pr T92 906 a0 (some n84)) (fun (S_95 : st_T) => (c_g (¬ (5 : Int32) < 0 ∧ (5 : Int32).toNatClampNeg ≤ 5) (c_l (st_nx S_95) (fun (n100 : Nat) => (c_l (st_na S_95 20 (5 : Int32).toNatClampNeg) (fun (S_100 : st_T) => (c_g (st_K S_100 n100 = 20) (c_g (c_in 0 (st_ln S_100 n100)) (c_l (st_wi S_100 n100 (0 : Int32).toNatClampNeg 1) (fun (S_105 : st_T) => (c_g (c_in 1 (st_ln S_105 n100)) (c_l (st_wi S_105 n100 (1 : Int32).toNatClampNeg 1) (fun (S_109 : st_T) => (c_g (c_in 2 (st_ln S_109 n100)) (c_l (st_wi S_109 n100 (2 : Int32).toNatClampNeg 1) (fun (S_113 : st_T) => (c_g (c_in 3 (st_ln S_113 n100)) (c_l (st_wi S_113 n100 (3 : Int32).toNatClampNeg 1) (fun (S_117 : st_T) => (c_g (c_in 4 (st_ln S_117 n100)) (c_l (st_wi S_117 n100 (4 : Int32).toNatClampNeg 1) (fun (S_121 : st_T) => (c_g (st_K S_121 a0 = 10) (c_l (st_pr S_121 907 a0 (some n100)) (fun (S_122 : st_T) => (c_l (st_pi S_122 908 a0 (-1)) (fun (S_127 : st_T) => (c_l (st_pi S_127 909 a0 0) (fun (S_132 : st_T) => (some ((), S_132))))))))))))))))))))))))))))))))))))))))))))))))))))))))))))))))))))))))))))))))))))))))))))))))))))))))))))))))))))
set_option maxRecDepth 100000 in
set_option maxHeartbeats 4000000 in
theorem s_X8_init (l : Launch) (X : st_I) {S SE : st_T} {a0 : Nat} {rr : Unit} (Hf : f_X8_init S a0 = some (rr, SE)) : Met l yX8_init (Cond.code yX8_init cX8_init 1 (none) :: lw_g) { frames := 4, cells := 23, slots := 5109, locals := 84 } (st_P X S [.ref a0]) (st_Q X (st_A S) none SE) 23 5109 (st_A S) := by
  refine st_ofW (by decide) (Nat.le_of_ble_eq_true rfl) ?_
  intro p e s m args below meth c hx hb hr hml hlocks hnm hts hown hK hRO hA hP hS ls hl
  have hown : s.vm.findClass RX8 = some m.cls := hown
  have hl : lv_has ls 1 [(0, .ref a0)] := hl
  unfold f_X8_init at Hf
  refine lv_aload_n hx hb dX8_init_0 rfl (lv_at hl 0 rfl) ?_
  refine W.objInit hx hb hown (hts _ (lg_1 97 rfl rfl)) (hts _ (lg_1 98 rfl rfl)) (hts _ (lg_1 99 rfl rfl)) rfl (by rw [hml]; exact hl.1) rfl dX8_init_1 (Nat.le_of_ble_eq_true rfl) (Nat.le_of_ble_eq_true rfl) ?_
  refine W.eq (g2 := F0 m 4 ls []) rfl ?_
  refine lv_aload_n hx hb dX8_init_4 rfl (lv_at hl 0 rfl) ?_
  obtain ⟨n5, en5, Hf⟩ := c_l_ex Hf
  obtain ⟨S_5, eS_5, Hf⟩ := c_l_ex Hf
  refine r_new (T := TX7) (ci := 8) hx hb hts in_8 rfl rfl (by decide) tyX7_ok df_8 (lg_1 100 rfl rfl) (lg_1 101 rfl rfl) (lg_1 66 rfl rfl) hown hK hA hP hS en5 eS_5 (Nat.le_of_ble_eq_true rfl) (Nat.le_of_ble_eq_true rfl) dX8_init_5 (fun H hP hS => ?_)
  refine W.eq (g2 := F0 m 8 ls [.ref n5, .ref a0]) rfl ?_
  refine lv_dup hx hb dX8_init_8 rfl ?_
  obtain ⟨r9, T9, hq9, Hf⟩ := c_c_some Hf
  refine r_cIN (n := 0) (As := []) (rest := [.ref n5, .ref a0]) ⟨hx, hb, hml, hown, hts⟩ (s_X7_init l X hq9) (lg_ps _ [103, 66, 104] rfl (by decide +kernel)) (List.mem_of_getElem? (i := 102) rfl) (by decide +kernel) dX8_init_9 rfl rfl ⟨(Nat.le_of_ble_eq_true rfl), (Nat.le_of_ble_eq_true rfl)⟩ rfl hl.1 (Nat.le_of_ble_eq_true rfl) ⟨(Nat.le_of_ble_eq_true rfl), (Nat.le_of_ble_eq_true rfl)⟩ hK hRO hA hP hS (fun H locs hP hS => ?_)
  refine W.eq (g2 := F0 m 12 ls [.ref n5, .ref a0]) rfl ?_
  obtain ⟨hk_a0, Hf⟩ := c_g_some Hf
  refine fp_9_0 hx hb hts hown hK hP hS hnm hk_a0 lkf_X8_12 dX8_init_12 (fun H locs hP hS => ?_)
  obtain ⟨S_12, eS_12, Hf⟩ := c_l_ex Hf
  have hP : st_HP X (st_A S) S_12 H := by rw [eS_12]; exact hP
  refine lv_aload_n hx hb dX8_init_15 rfl (lv_at hl 0 rfl) ?_
  obtain ⟨n16, en16, Hf⟩ := c_l_ex Hf
  obtain ⟨S_16, eS_16, Hf⟩ := c_l_ex Hf
  refine r_new (T := TJx4a65c) (ci := 0) hx hb hts in_0 rfl rfl (by decide) tyJx4a65c_ok df_0 (lg_1 111 rfl rfl) (lg_1 112 rfl rfl) (lg_1 69 rfl rfl) hown hK hA hP hS en16 eS_16 (Nat.le_of_ble_eq_true rfl) (Nat.le_of_ble_eq_true rfl) dX8_init_16 (fun H hP hS => ?_)
  refine W.eq (g2 := F0 m 19 ls [.ref n16, .ref a0]) rfl ?_
  refine lv_dup hx hb dX8_init_19 rfl ?_
  obtain ⟨r20, T20, hq20, Hf⟩ := c_c_some Hf
  refine r_cI (n := 0) (As := []) (rest := [.ref n16, .ref a0]) ⟨hx, hb, hml, hown, hts⟩ (s_Jx4a65c_init_da8c8 l X hq20) (lg_ps _ [113, 114, 69, 115] rfl (by decide +kernel)) (by decide +kernel) dX8_init_20 rfl rfl ⟨(Nat.le_of_ble_eq_true rfl), (Nat.le_of_ble_eq_true rfl)⟩ rfl hl.1 (Nat.le_of_ble_eq_true rfl) ⟨(Nat.le_of_ble_eq_true rfl), (Nat.le_of_ble_eq_true rfl)⟩ hK hRO hA hP hS (fun H locs hP hS => ?_)
  refine W.eq (g2 := F0 m 23 ls [.ref n16, .ref a0]) rfl ?_
  obtain ⟨hk_a0, Hf⟩ := c_g_some Hf
  refine fp_9_1 hx hb hts hown hK hP hS hnm hk_a0 lkf_X8_19 dX8_init_23 (fun H locs hP hS => ?_)
  obtain ⟨S_23, eS_23, Hf⟩ := c_l_ex Hf
  have hP : st_HP X (st_A S) S_23 H := by rw [eS_23]; exact hP
  refine lv_aload_n hx hb dX8_init_26 rfl (lv_at hl 0 rfl) ?_
  obtain ⟨n27, en27, Hf⟩ := c_l_ex Hf
  obtain ⟨S_27, eS_27, Hf⟩ := c_l_ex Hf
  refine r_new (T := TJx4a65c) (ci := 0) hx hb hts in_0 rfl rfl (by decide) tyJx4a65c_ok df_0 (lg_1 111 rfl rfl) (lg_1 112 rfl rfl) (lg_1 69 rfl rfl) hown hK hA hP hS en27 eS_27 (Nat.le_of_ble_eq_true rfl) (Nat.le_of_ble_eq_true rfl) dX8_init_27 (fun H hP hS => ?_)
  refine W.eq (g2 := F0 m 30 ls [.ref n27, .ref a0]) rfl ?_
  refine lv_dup hx hb dX8_init_30 rfl ?_
  obtain ⟨r31, T31, hq31, Hf⟩ := c_c_some Hf
  refine r_cI (n := 0) (As := []) (rest := [.ref n27, .ref a0]) ⟨hx, hb, hml, hown, hts⟩ (s_Jx4a65c_init_da8c8 l X hq31) (lg_ps _ [113, 114, 69, 115] rfl (by decide +kernel)) (by decide +kernel) dX8_init_31 rfl rfl ⟨(Nat.le_of_ble_eq_true rfl), (Nat.le_of_ble_eq_true rfl)⟩ rfl hl.1 (Nat.le_of_ble_eq_true rfl) ⟨(Nat.le_of_ble_eq_true rfl), (Nat.le_of_ble_eq_true rfl)⟩ hK hRO hA hP hS (fun H locs hP hS => ?_)
  refine W.eq (g2 := F0 m 34 ls [.ref n27, .ref a0]) rfl ?_
  obtain ⟨hk_a0, Hf⟩ := c_g_some Hf
  refine fp_9_2 hx hb hts hown hK hP hS hnm hk_a0 lkf_X8_23 dX8_init_34 (fun H locs hP hS => ?_)
  obtain ⟨S_34, eS_34, Hf⟩ := c_l_ex Hf
  have hP : st_HP X (st_A S) S_34 H := by rw [eS_34]; exact hP
  refine lv_aload_n hx hb dX8_init_37 rfl (lv_at hl 0 rfl) ?_
  obtain ⟨n38, en38, Hf⟩ := c_l_ex Hf
  obtain ⟨S_38, eS_38, Hf⟩ := c_l_ex Hf
  refine r_new (T := TX5) (ci := 6) hx hb hts in_6 rfl rfl (by decide) tyX5_ok df_6 (lg_1 137 rfl rfl) (lg_1 138 rfl rfl) (lg_1 70 rfl rfl) hown hK hA hP hS en38 eS_38 (Nat.le_of_ble_eq_true rfl) (Nat.le_of_ble_eq_true rfl) dX8_init_38 (fun H hP hS => ?_)
  refine W.eq (g2 := F0 m 41 ls [.ref n38, .ref a0]) rfl ?_
  refine lv_dup hx hb dX8_init_41 rfl ?_
  refine lv_iconst (v := 0) hx hb dX8_init_42 (by decide) ?_
  obtain ⟨hn43, Hf⟩ := c_g_some Hf
  obtain ⟨n43, en43, Hf⟩ := c_l_ex Hf
  obtain ⟨S_43, eS_43, Hf⟩ := c_l_ex Hf
  refine r_newI (B := 0) hx hb hts (lg_1 110 rfl rfl) hK hA hP hS hn43 (by decide) en43 eS_43 (Nat.le_of_ble_eq_true rfl) (Nat.le_of_ble_eq_true rfl) dX8_init_43 (fun H hP hS => ?_)
  refine W.eq (g2 := F0 m 45 ls [.ref n43, .ref n38, .ref n38, .ref a0]) rfl ?_
  refine lv_iconst (v := 0) hx hb dX8_init_45 (by decide) ?_
  obtain ⟨hn46, Hf⟩ := c_g_some Hf
  obtain ⟨n46, en46, Hf⟩ := c_l_ex Hf
  obtain ⟨S_46, eS_46, Hf⟩ := c_l_ex Hf
  refine r_newI (B := 0) hx hb hts (lg_1 110 rfl rfl) hK hA hP hS hn46 (by decide) en46 eS_46 (Nat.le_of_ble_eq_true rfl) (Nat.le_of_ble_eq_true rfl) dX8_init_46 (fun H hP hS => ?_)
  refine W.eq (g2 := F0 m 48 ls [.ref n46, .ref n43, .ref n38, .ref n38, .ref a0]) rfl ?_
  refine lv_iconst (v := 0) hx hb dX8_init_48 (by decide) ?_
  obtain ⟨hn49, Hf⟩ := c_g_some Hf
  obtain ⟨n49, en49, Hf⟩ := c_l_ex Hf
  obtain ⟨S_49, eS_49, Hf⟩ := c_l_ex Hf
  refine r_newI (B := 0) hx hb hts (lg_1 110 rfl rfl) hK hA hP hS hn49 (by decide) en49 eS_49 (Nat.le_of_ble_eq_true rfl) (Nat.le_of_ble_eq_true rfl) dX8_init_49 (fun H hP hS => ?_)
  refine W.eq (g2 := F0 m 51 ls [.ref n49, .ref n46, .ref n43, .ref n38, .ref n38, .ref a0]) rfl ?_
  refine lv_iconst (v := 0) hx hb dX8_init_51 (by decide) ?_
  obtain ⟨hn52, Hf⟩ := c_g_some Hf
  obtain ⟨n52, en52, Hf⟩ := c_l_ex Hf
  obtain ⟨S_52, eS_52, Hf⟩ := c_l_ex Hf
  refine r_newI (B := 0) hx hb hts (lg_1 110 rfl rfl) hK hA hP hS hn52 (by decide) en52 eS_52 (Nat.le_of_ble_eq_true rfl) (Nat.le_of_ble_eq_true rfl) dX8_init_52 (fun H hP hS => ?_)
  refine W.eq (g2 := F0 m 54 ls [.ref n52, .ref n49, .ref n46, .ref n43, .ref n38, .ref n38, .ref a0]) rfl ?_
  refine lv_iconst (v := 0) hx hb dX8_init_54 (by decide) ?_
  obtain ⟨r55, T55, hq55, Hf⟩ := c_c_some Hf
  refine r_cI (n := 5) (As := [.ref n43, .ref n46, .ref n49, .ref n52, .int 0]) (rest := [.ref n38, .ref a0]) ⟨hx, hb, hml, hown, hts⟩ (s_X5_init l X hq55) (lg_ps _ [139, 140, 70, 141] rfl (by decide +kernel)) (by decide +kernel) dX8_init_55 rfl rfl ⟨(Nat.le_of_ble_eq_true rfl), (Nat.le_of_ble_eq_true rfl)⟩ rfl hl.1 (Nat.le_of_ble_eq_true rfl) ⟨(Nat.le_of_ble_eq_true rfl), (Nat.le_of_ble_eq_true rfl)⟩ hK hRO hA hP hS (fun H locs hP hS => ?_)
  refine W.eq (g2 := F0 m 58 ls [.ref n38, .ref a0]) rfl ?_
  obtain ⟨hk_a0, Hf⟩ := c_g_some Hf
  refine fp_9_3 hx hb hts hown hK hP hS hnm hk_a0 lkf_X8_31 dX8_init_58 (fun H locs hP hS => ?_)
  obtain ⟨S_58, eS_58, Hf⟩ := c_l_ex Hf
  have hP : st_HP X (st_A S) S_58 H := by rw [eS_58]; exact hP
  refine lv_aload_n hx hb dX8_init_61 rfl (lv_at hl 0 rfl) ?_
  obtain ⟨n62, en62, Hf⟩ := c_l_ex Hf
  obtain ⟨S_62, eS_62, Hf⟩ := c_l_ex Hf
  refine r_new (T := TX4) (ci := 5) hx hb hts in_5 rfl rfl (by decide) tyX4_ok df_5 (lg_1 165 rfl rfl) (lg_1 166 rfl rfl) (lg_1 71 rfl rfl) hown hK hA hP hS en62 eS_62 (Nat.le_of_ble_eq_true rfl) (Nat.le_of_ble_eq_true rfl) dX8_init_62 (fun H hP hS => ?_)
  refine W.eq (g2 := F0 m 65 ls [.ref n62, .ref a0]) rfl ?_
  refine lv_dup hx hb dX8_init_65 rfl ?_
  obtain ⟨r66, T66, hq66, Hf⟩ := c_c_some Hf
  refine r_cIN (n := 0) (As := []) (rest := [.ref n62, .ref a0]) ⟨hx, hb, hml, hown, hts⟩ (s_X4_init l X hq66) (lg_ps _ [168, 71, 169] rfl (by decide +kernel)) (List.mem_of_getElem? (i := 167) rfl) (by decide +kernel) dX8_init_66 rfl rfl ⟨(Nat.le_of_ble_eq_true rfl), (Nat.le_of_ble_eq_true rfl)⟩ rfl hl.1 (Nat.le_of_ble_eq_true rfl) ⟨(Nat.le_of_ble_eq_true rfl), (Nat.le_of_ble_eq_true rfl)⟩ hK hRO hA hP hS (fun H locs hP hS => ?_)
  refine W.eq (g2 := F0 m 69 ls [.ref n62, .ref a0]) rfl ?_
  obtain ⟨hk_a0, Hf⟩ := c_g_some Hf
  refine fp_9_4 hx hb hts hown hK hP hS hnm hk_a0 lkf_X8_38 dX8_init_69 (fun H locs hP hS => ?_)
  obtain ⟨S_69, eS_69, Hf⟩ := c_l_ex Hf
  have hP : st_HP X (st_A S) S_69 H := by rw [eS_69]; exact hP
  refine lv_aload_n hx hb dX8_init_72 rfl (lv_at hl 0 rfl) ?_
  obtain ⟨n73, en73, Hf⟩ := c_l_ex Hf
  obtain ⟨S_73, eS_73, Hf⟩ := c_l_ex Hf
  refine r_new (T := TX3) (ci := 4) hx hb hts in_4 rfl rfl (by decide) tyX3_ok df_4 (lg_1 182 rfl rfl) (lg_1 183 rfl rfl) (lg_1 72 rfl rfl) hown hK hA hP hS en73 eS_73 (Nat.le_of_ble_eq_true rfl) (Nat.le_of_ble_eq_true rfl) dX8_init_73 (fun H hP hS => ?_)
  refine W.eq (g2 := F0 m 76 ls [.ref n73, .ref a0]) rfl ?_
  refine lv_dup hx hb dX8_init_76 rfl ?_
  obtain ⟨r77, T77, hq77, Hf⟩ := c_c_some Hf
  refine r_cIN (n := 0) (As := []) (rest := [.ref n73, .ref a0]) ⟨hx, hb, hml, hown, hts⟩ (s_X3_init l X hq77) (lg_ps _ [185, 72, 186] rfl (by decide +kernel)) (List.mem_of_getElem? (i := 184) rfl) (by decide +kernel) dX8_init_77 rfl rfl ⟨(Nat.le_of_ble_eq_true rfl), (Nat.le_of_ble_eq_true rfl)⟩ rfl hl.1 (Nat.le_of_ble_eq_true rfl) ⟨(Nat.le_of_ble_eq_true rfl), (Nat.le_of_ble_eq_true rfl)⟩ hK hRO hA hP hS (fun H locs hP hS => ?_)
  refine W.eq (g2 := F0 m 80 ls [.ref n73, .ref a0]) rfl ?_
  obtain ⟨hk_a0, Hf⟩ := c_g_some Hf
  refine fp_9_5 hx hb hts hown hK hP hS hnm hk_a0 lkf_X8_45 dX8_init_80 (fun H locs hP hS => ?_)
  obtain ⟨S_80, eS_80, Hf⟩ := c_l_ex Hf
  have hP : st_HP X (st_A S) S_80 H := by rw [eS_80]; exact hP
  refine lv_aload_n hx hb dX8_init_83 rfl (lv_at hl 0 rfl) ?_
  obtain ⟨n84, en84, Hf⟩ := c_l_ex Hf
  obtain ⟨S_84, eS_84, Hf⟩ := c_l_ex Hf
  refine r_new (T := TX0) (ci := 1) hx hb hts in_1 rfl rfl (by decide) tyX0_ok df_1 (lg_1 245 rfl rfl) (lg_1 246 rfl rfl) (lg_1 74 rfl rfl) hown hK hA hP hS en84 eS_84 (Nat.le_of_ble_eq_true rfl) (Nat.le_of_ble_eq_true rfl) dX8_init_84 (fun H hP hS => ?_)
  refine W.eq (g2 := F0 m 87 ls [.ref n84, .ref a0]) rfl ?_
  refine lv_dup hx hb dX8_init_87 rfl ?_
  refine lv_aload_n hx hb dX8_init_88 rfl (lv_at hl 0 rfl) ?_
  obtain ⟨hk_a0, Hf⟩ := c_g_some Hf
  obtain ⟨q89, hq89, Hf⟩ := c_n_some Hf
  refine fg_9_0 hx hb hts hown hK hP hk_a0 lkf_X8_12 hq89 dX8_init_89 ?_
  obtain ⟨r92, T92, hq92, Hf⟩ := c_c_some Hf
  refine r_cI (n := 1) (As := [.ref q89]) (rest := [.ref n84, .ref a0]) ⟨hx, hb, hml, hown, hts⟩ (s_X0_init l X hq92) (lg_ps _ [247, 248, 74, 249] rfl (by decide +kernel)) (by decide +kernel) dX8_init_92 rfl rfl ⟨(Nat.le_of_ble_eq_true rfl), (Nat.le_of_ble_eq_true rfl)⟩ rfl hl.1 (Nat.le_of_ble_eq_true rfl) ⟨(Nat.le_of_ble_eq_true rfl), (Nat.le_of_ble_eq_true rfl)⟩ hK hRO hA hP hS (fun H locs hP hS => ?_)
  refine W.eq (g2 := F0 m 95 ls [.ref n84, .ref a0]) rfl ?_
  obtain ⟨hk_a0, Hf⟩ := c_g_some Hf
  refine fp_9_6 hx hb hts hown hK hP hS hnm hk_a0 lkf_X8_54 dX8_init_95 (fun H locs hP hS => ?_)
  obtain ⟨S_95, eS_95, Hf⟩ := c_l_ex Hf
  have hP : st_HP X (st_A S) S_95 H := by rw [eS_95]; exact hP
  refine lv_aload_n hx hb dX8_init_98 rfl (lv_at hl 0 rfl) ?_
  refine lv_iconst (v := 5) hx hb dX8_init_99 (by decide) ?_
  obtain ⟨hn100, Hf⟩ := c_g_some Hf
  obtain ⟨n100, en100, Hf⟩ := c_l_ex Hf
  obtain ⟨S_100, eS_100, Hf⟩ := c_l_ex Hf
  refine r_newI (B := 5) hx hb hts (lg_1 110 rfl rfl) hK hA hP hS hn100 (by decide) en100 eS_100 (Nat.le_of_ble_eq_true rfl) (Nat.le_of_ble_eq_true rfl) dX8_init_100 (fun H hP hS => ?_)
  refine W.eq (g2 := F0 m 102 ls [.ref n100, .ref a0]) rfl ?_
  refine lv_dup hx hb dX8_init_102 rfl ?_
  refine lv_iconst (v := 0) hx hb dX8_init_103 (by decide) ?_
  refine lv_iconst (v := 1) hx hb dX8_init_104 (by decide) ?_
  obtain ⟨hk_n100, Hf⟩ := c_g_some Hf
  obtain ⟨hi105, Hf⟩ := c_g_some Hf
  refine r_iast hx hb hK hP hS hk_n100 hi105 dX8_init_105 (fun H locs hP hS => ?_)
  obtain ⟨S_105, eS_105, Hf⟩ := c_l_ex Hf
  have hP : st_HP X (st_A S) S_105 H := by rw [eS_105]; exact hP
  refine lv_dup hx hb dX8_init_106 rfl ?_
  refine lv_iconst (v := 1) hx hb dX8_init_107 (by decide) ?_
  refine lv_iconst (v := 1) hx hb dX8_init_108 (by decide) ?_
  have hk_n100 : st_K S_105 n100 = 20 := by rw [kp_wi eS_105]; exact hk_n100
  obtain ⟨hi109, Hf⟩ := c_g_some Hf
  refine r_iast hx hb hK hP hS hk_n100 hi109 dX8_init_109 (fun H locs hP hS => ?_)
  obtain ⟨S_109, eS_109, Hf⟩ := c_l_ex Hf
  have hP : st_HP X (st_A S) S_109 H := by rw [eS_109]; exact hP
  refine lv_dup hx hb dX8_init_110 rfl ?_
  refine lv_iconst (v := 2) hx hb dX8_init_111 (by decide) ?_
  refine lv_iconst (v := 1) hx hb dX8_init_112 (by decide) ?_
  have hk_n100 : st_K S_109 n100 = 20 := by rw [kp_wi eS_109]; exact hk_n100
  obtain ⟨hi113, Hf⟩ := c_g_some Hf
  refine r_iast hx hb hK hP hS hk_n100 hi113 dX8_init_113 (fun H locs hP hS => ?_)
  obtain ⟨S_113, eS_113, Hf⟩ := c_l_ex Hf
  have hP : st_HP X (st_A S) S_113 H := by rw [eS_113]; exact hP
  refine lv_dup hx hb dX8_init_114 rfl ?_
  refine lv_iconst (v := 3) hx hb dX8_init_115 (by decide) ?_
  refine lv_iconst (v := 1) hx hb dX8_init_116 (by decide) ?_
  have hk_n100 : st_K S_113 n100 = 20 := by rw [kp_wi eS_113]; exact hk_n100
  obtain ⟨hi117, Hf⟩ := c_g_some Hf
  refine r_iast hx hb hK hP hS hk_n100 hi117 dX8_init_117 (fun H locs hP hS => ?_)
  obtain ⟨S_117, eS_117, Hf⟩ := c_l_ex Hf
  have hP : st_HP X (st_A S) S_117 H := by rw [eS_117]; exact hP
  refine lv_dup hx hb dX8_init_118 rfl ?_
  refine lv_iconst (v := 4) hx hb dX8_init_119 (by decide) ?_
  refine lv_iconst (v := 1) hx hb dX8_init_120 (by decide) ?_
  have hk_n100 : st_K S_117 n100 = 20 := by rw [kp_wi eS_117]; exact hk_n100
  obtain ⟨hi121, Hf⟩ := c_g_some Hf
  refine r_iast hx hb hK hP hS hk_n100 hi121 dX8_init_121 (fun H locs hP hS => ?_)
  obtain ⟨S_121, eS_121, Hf⟩ := c_l_ex Hf
  have hP : st_HP X (st_A S) S_121 H := by rw [eS_121]; exact hP
  obtain ⟨hk_a0, Hf⟩ := c_g_some Hf
  refine fp_9_7 hx hb hts hown hK hP hS hnm hk_a0 lkf_X8_58 dX8_init_122 (fun H locs hP hS => ?_)
  obtain ⟨S_122, eS_122, Hf⟩ := c_l_ex Hf
  have hP : st_HP X (st_A S) S_122 H := by rw [eS_122]; exact hP
  refine lv_aload_n hx hb dX8_init_125 rfl (lv_at hl 0 rfl) ?_
  refine lv_iconst (v := (-1)) hx hb dX8_init_126 (by decide) ?_
  have hk_a0 : st_K S_122 a0 = 10 := by rw [kp_pr eS_122]; exact hk_a0
  refine fp_9_8 hx hb hts hown hK hP hS hk_a0 lkf_X8_62 dX8_init_127 (fun H locs hP hS => ?_)
  obtain ⟨S_127, eS_127, Hf⟩ := c_l_ex Hf
  have hP : st_HP X (st_A S) S_127 H := by rw [eS_127]; exact hP
  refine lv_aload_n hx hb dX8_init_130 rfl (lv_at hl 0 rfl) ?_
  refine lv_iconst (v := 0) hx hb dX8_init_131 (by decide) ?_
  have hk_a0 : st_K S_127 a0 = 10 := by rw [kp_pi eS_127]; exact hk_a0
  refine fp_9_9 hx hb hts hown hK hP hS hk_a0 lkf_X8_66 dX8_init_132 (fun H locs hP hS => ?_)
  obtain ⟨S_132, eS_132, Hf⟩ := c_l_ex Hf
  have hP : st_HP X (st_A S) S_132 H := by rw [eS_132]; exact hP
  cases Hf
  exact r_vret hx hb hr rfl hlocks dX8_init_135 (Nat.le_of_ble_eq_true rfl) (Nat.le_of_ble_eq_true rfl) hP hS

set_option maxRecDepth 100000 in
def f_X9_init (S : st_T) (a0 : Nat) : Option (Unit × st_T) :=
  (c_g (¬ (800 : Int32) < 0 ∧ (800 : Int32).toNatClampNeg ≤ 800) (c_l (st_nx S) (fun (n8 : Nat) => (c_l (st_na S 20 (800 : Int32).toNatClampNeg) (fun (S_8 : st_T) => (c_g (st_K S_8 a0 = 11) (c_l (st_pr S_8 1001 a0 (some n8)) (fun (S_10 : st_T) => (c_g (¬ (802 : Int32) < 0 ∧ (802 : Int32).toNatClampNeg ≤ 802) (c_l (st_nx S_10) (fun (n17 : Nat) => (c_l (st_na S_10 20 (802 : Int32).toNatClampNeg) (fun (S_17 : st_T) => (c_g (st_K S_17 a0 = 11) (c_l (st_pr S_17 1004 a0 (some n17)) (fun (S_19 : st_T) => (c_g (¬ (802 : Int32) < 0 ∧ (802 : Int32).toNatClampNeg ≤ 802) (c_l (st_nx S_19) (fun (n26 : Nat) => (c_l (st_na S_19 20 (802 : Int32).toNatClampNeg) (fun (S_26 : st_T) => (c_g (st_K S_26 a0 = 11) (c_l (st_pr S_26 1005 a0 (some n26)) (fun (S_28 : st_T) => (c_g (¬ (802 : Int32) < 0 ∧ (802 : Int32).toNatClampNeg ≤ 802) (c_l (st_nx S_28) (fun (n35 : Nat) => (c_l (st_na S_28 21 (802 : Int32).toNatClampNeg) (fun (S_35 : st_T) => (c_g (st_K S_35 a0 = 11) (c_l (st_pr S_35 1006 a0 (some n35)) (fun (S_37 : st_T) => (c_g (¬ (14 : Int32) < 0 ∧ (14 : Int32).toNatClampNeg ≤ 14) (c_l (st_nx S_37) (fun (n43 : Nat) => (c_l (st_na S_37 21 (14 : Int32).toNatClampNeg) (fun (S_43 : st_T) => (c_g (st_K S_43 n43 = 21) (c_g (c_in 0 (st_ln S_43 n43)) (c_l (st_wl S_43 n43 (0 : Int32).toNatClampNeg 172647) (fun (S_50 : st_T) => (c_g (c_in 1 (st_ln S_50 n43)) (c_l (st_wl S_50 n43 (1 : Int32).toNatClampNeg 665856) (fun (S_56 : st_T) => (c_g (c_in 2 (st_ln S_56 n43)) (c_l (st_wl S_56 n43 (2 : Int32).toNatClampNeg 1176170) (fun (S_62 : st_T) => (c_g (c_in 3 (st_ln S_62 n43)) (c_l (st_wl S_62 n43 (3 : Int32).toNatClampNeg 1891) (fun (S_68 : st_T) => (c_g (c_in 4 (st_ln S_68 n43)) (c_l (st_wl S_68 n43 (4 : Int32).toNatClampNeg 1186224) (fun (S_74 : st_T) => (c_g (c_in 5 (st_ln S_74 n43)) (c_l (st_wl S_74 n43 (5 : Int32).toNatClampNeg 1327079004) (fun (S_80 : st_T) => (c_g (c_in 6 (st_ln S_80 n43)) (c_l (st_wl S_80 n43 (6 : Int32).toNatClampNeg 716895) (fun (S_87 : st_T) => (c_g (c_in 7 (st_ln S_87 n43)) (c_l (st_wl S_87 n43 (7 : Int32).toNatClampNeg 30595897) (fun (S_94 : st_T) => (c_g (c_in 8 (st_ln S_94 n43)) (c_l (st_wl S_94 n43 (8 : Int32).toNatClampNeg 1178088) (fun (S_101 : st_T) => (c_g (c_in 9 (st_ln S_101 n43)) (c_l (st_wl S_101 n43 (9 : Int32).toNatClampNeg 329128) (fun (S_108 : st_T) => (c_g (c_in 10 (st_ln S_108 n43)) (c_l (st_wl S_108 n43 (10 : Int32).toNatClampNeg 628896) (fun (S_115 : st_T) => (c_g (c_in 11 (st_ln S_115 n43)) (c_l (st_wl S_115 n43 (11 : Int32).toNatClampNeg 2286271) (fun (S_122 : st_T) => (c_g (c_in 12 (st_ln S_122 n43)) (c_l (st_wl S_122 n43 (12 : Int32).toNatClampNeg 1633) (fun (S_129 : st_T) => (c_g (c_in 13 (st_ln S_129 n43)) (c_l (st_wl S_129 n43 (13 : Int32).toNatClampNeg 5538) (fun (S_136 : st_T) => (c_g (st_K S_136 a0 = 11) (c_l (st_pr S_136 1009 a0 (some n43)) (fun (S_137 : st_T) => (c_l (st_pi S_137 1011 a0 (-1)) (fun (S_142 : st_T) => (c_g (¬ (9 : Int32) < 0 ∧ (9 : Int32).toNatClampNeg ≤ 9) (c_l (st_nx S_142) (fun (n148 : Nat) => (c_l (st_na S_142 20 (9 : Int32).toNatClampNeg) (fun (S_148 : st_T) => (c_g (st_K S_148 a0 = 11) (c_l (st_pr S_148 1012 a0 (some n148)) (fun (S_150 : st_T) => (c_g (¬ (9 : Int32) < 0 ∧ (9 : Int32).toNatClampNeg ≤ 9) (c_l (st_nx S_150) (fun (n156 : Nat) => (c_l (st_na S_150 20 (9 : Int32).toNatClampNeg) (fun (S_156 : st_T) => (c_g (st_K S_156 a0 = 11) (c_l (st_pr S_156 1013 a0 (some n156)) (fun (S_158 : st_T) => (c_g (¬ (216 : Int32) < 0 ∧ (216 : Int32).toNatClampNeg ≤ 216) (c_l (st_nx S_158) (fun (n165 : Nat) => (c_l (st_na S_158 20 (216 : Int32).toNatClampNeg) (fun (S_165 : st_T) => (c_g (st_K S_165 a0 = 11) (c_l (st_pr S_165 1014 a0 (some n165)) (fun (S_167 : st_T) => (c_g (¬ (216 : Int32) < 0 ∧ (216 : Int32).toNatClampNeg ≤ 216) (c_l (st_nx S_167) (fun (n174 : Nat) => (c_l (st_na S_167 20 (216 : Int32).toNatClampNeg) (fun (S_174 : st_T) => (c_g (st_K S_174 a0 = 11) (c_l (st_pr S_174 1015 a0 (some n174)) (fun (S_176 : st_T) => (c_g (¬ (7920 : Int32) < 0 ∧ (7920 : Int32).toNatClampNeg ≤ 7920) (c_l (st_nx S_176) (fun (n183 : Nat) => (c_l (st_na S_176 20 (7920 : Int32).toNatClampNeg) (fun (S_183 : st_T) => (c_g (st_K S_183 a0 = 11) (c_l (st_pr S_183 1016 a0 (some n183)) (fun (S_185 : st_T) => (c_g (¬ (7920 : Int32) < 0 ∧ (7920 : Int32).toNatClampNeg ≤ 7920) (c_l (st_nx S_185) (fun (n192 : Nat) => (c_l (st_na S_185 20 (7920 : Int32).toNatClampNeg) (fun (S_192 : st_T) => (c_g (st_K S_192 a0 = 11) (c_l (st_pr S_192 1017 a0 (some n192)) (fun (S_194 : st_T) => (c_g (¬ (7 : Int32) < 0 ∧ (7 : Int32).toNatClampNeg ≤ 7) (c_l (st_nx S_194) (fun (n200 : Nat) => (c_l (st_na S_194 20 (7 : Int32).toNatClampNeg) (fun (S_200 : st_T) => (c_g (st_K S_200 a0 = 11) (c_l (st_pr S_200 1020 a0 (some n200)) (fun (S_202 : st_T) => (c_g (¬ (7 : Int32) < 0 ∧ (7 : Int32).toNatClampNeg ≤ 7) (c_l (st_nx S_202) (fun (n208 : Nat) => (c_l (st_na S_202 20 (7 : Int32).toNatClampNeg) (fun (S_208 : st_T) => (c_g (st_K S_208 a0 = 11) (c_l (st_pr S_208 1021 a0 (some n208)) (fun (S_210 : st_T) => (c_g (¬ (7 : Int32) < 0 ∧ (7 : Int32).toNatClampNeg ≤ 7) (c_l (st_nx S_210) (fun (n216 : Nat) => (c_l (st_na S_210 20 (7 : Int32).toNatClampNeg) (fun (S_216 : st_T) => (c_g (st_K S_216 a0 = 11) (c_l (st_pr S_216 1022 a0 (some n216)) (fun (S_218 : st_T) => (c_g (¬ (7 : Int32) < 0 ∧ (7 : Int32).toNatClampNeg ≤ 7) (c_l (st_nx S_218) (fun (n224 : Nat) => (c_l (st_na S_218 20 (7 : Int32).toNatClampNeg) (fun (S_224 : st_T) => (c_g (st_K S_224 a0 = 11) (c_l (st_pr S_224 1023 a0 (some n224)) (fun (S_226 : st_T) => (c_g (¬ (3 : Int32) < 0 ∧ (3 : Int32).toNatClampNeg ≤ 3) (c_l (st_nx S_226) (fun (n231 : Nat) => (c_l (st_na S_226 20 (3 : Int32).toNatClampNeg) (fun (S_231 : st_T) => (c_g (st_K S_231 a0 = 11) (c_l (st_pr S_231 1024 a0 (some n231)) (fun (S_233 : st_T) => (c_g (¬ (880 : Int32) < 0 ∧ (880 : Int32).toNatClampNeg ≤ 880) (c_l (st_nx S_233) (fun (n240 : Nat) => (c_l (st_na S_233 20 (880 : Int32).toNatClampNeg) (fun (S_240 : st_T) => (c_g (st_K S_240 a0 = 11) (c_l (st_pr S_240 1025 a0 (some n240)) (fun (S_242 : st_T) => (c_g (¬ (201 : Int32) < 0 ∧ (201 : Int32).toNatClampNeg ≤ 201) (c_l (st_nx S_242) (fun (n249 : Nat) => (c_l (st_na S_242 20 (201 : Int32).toNatClampNeg) (fun (S_249 : st_T) => (c_g (st_K S_249 a0 = 11) (c_l (st_pr S_249 1026 a0 (some n249)) (fun (S_251 : st_T) => (c_g (¬ (40 : Int32) < 0 ∧ (40 : Int32).toNatClampNeg ≤ 40) (c_l (st_nx S_251) (fun (n257 : Nat) => (c_l (st_na S_251 20 (40 : Int32).toNatClampNeg) (fun (S_257 : st_T) => (c_g (st_K S_257 a0 = 11) (c_l (st_pr S_257 1028 a0 (some n257)) (fun (S_259 : st_T) => (c_g (¬ (40 : Int32) < 0 ∧ (40 : Int32).toNatClampNeg ≤ 40) (c_l (st_nx S_259) (fun (n265 : Nat) => (c_l (st_na S_259 20 (40 : Int32).toNatClampNeg) (fun (S_265 : st_T) => (c_g (st_K S_265 a0 = 11) (c_l (st_pr S_265 1029 a0 (some n265)) (fun (S_267 : st_T) => (c_g (¬ (40 : Int32) < 0 ∧ (40 : Int32).toNatClampNeg ≤ 40) (c_l (st_nx S_267) (fun (n273 : Nat) => (c_l (st_na S_267 20 (40 : Int32).toNatClampNeg) (fun (S_273 : st_T) => (c_g (st_K S_273 a0 = 11) (c_l (st_pr S_273 1030 a0 (some n273)) (fun (S_275 : st_T) => (c_g (¬ (40 : Int32) < 0 ∧ (40 : Int32).toNatClampNeg ≤ 40) (c_l (st_nx S_275) (fun (n281 : Nat) => (c_l (st_na S_275 20 (40 : Int32).toNatClampNeg) (fun (S_281 : st_T) => (c_g (st_K S_281 a0 = 11) (c_l (st_pr S_281 1031 a0 (some n281)) (fun (S_283 : st_T) => (c_g (¬ (40 : Int32) < 0 ∧ (40 : Int32).toNatClampNeg ≤ 40) (c_l (st_nx S_283) (fun (n289 : Nat) => (c_l (st_na S_283 20 (40 : Int32).toNatClampNeg) (fun (S_289 : st_T) => (c_g (st_K S_289 a0 = 11) (c_l (st_pr S_289 1032 a0 (some n289)) (fun (S_291 : st_T) => (c_g (¬ (40 : Int32) < 0 ∧ (40 : Int32).toNatClampNeg ≤ 40) (c_l (st_nx S_291) (fun (n297 : Nat) => (c_l (st_na S_291 20 (40 : Int32).toNatClampNeg) (fun (S_297 : st_T) => (c_g (st_K S_297 a0 = 11) (c_l (st_pr S_297 1033 a0 (some n297)) (fun (S_299 : st_T) => (c_g (¬ (5760 : Int32) < 0 ∧ (5760 : Int32).toNatClampNeg ≤ 5760) (c_l (st_nx S_299) (fun (n306 : Nat) => (c_l (st_na S_299 20 (5760 : Int32).toNatClampNeg) (fun (S_306 : st_T) => (c_g (st_K S_306 a0 = 11) (c_l (st_pr S_306 1034 a0 (some n306)) (fun (S_308 : st_T) => (c_g (¬ (24 : Int32) < 0 ∧ (24 : Int32).toNatClampNeg ≤ 24) (c_l (st_nx S_308) (fun (n314 : Nat) => (c_l (st_na S_308 20 (24 : Int32).toNatClampNeg) (fun (S_314 : st_T) => (c_g (st_K S_314 a0 = 11) (c_l (st_pr S_314 1035 a0 (some n314)) (fun (S_316 : st_T) => (c_g (¬ (24 : Int32) < 0 ∧ (24 : Int32).toNatClampNeg ≤ 24) (c_l (st_nx S_316) (fun (n322 : Nat) => (c_l (st_na S_316 20 (24 : Int32).toNatClampNeg) (fun (S_322 : st_T) => (c_g (st_K S_322 a0 = 11) (c_l (st_pr S_322 1036 a0 (some n322)) (fun (S_324 : st_T) => (c_g (¬ (24 : Int32) < 0 ∧ (24 : Int32).toNatClampNeg ≤ 24) (c_l (st_nx S_324) (fun (n330 : Nat) => (c_l (st_na S_324 23 (24 : Int32).toNatClampNeg) (fun (S_330 : st_T) => (c_g (st_K S_330 a0 = 11) (c_l (st_pr S_330 1037 a0 (some n330)) (fun (S_332 : st_T) => (c_g (¬ (5 : Int32) < 0 ∧ (5 : Int32).toNatClampNeg ≤ 5) (c_l (st_nx S_332) (fun (n337 : Nat) => (c_l (st_na S_332 20 (5 : Int32).toNatClampNeg) (fun (S_337 : st_T) => (c_g (st_K S_337 n337 = 20) (c_g (c_in 0 (st_ln S_337 n337)) (c_l (st_wi S_337 n337 (0 : Int32).toNatClampNeg 1) (fun (S_342 : st_T) => (c_g (c_in 1 (st_ln S_342 n337)) (c_l (st_wi S_342 n337 (1 : Int32).toNatClampNeg 1) (fun (S_346 : st_T) => (c_g (c_in 2 (st_ln S_346 n337)) (c_l (st_wi S_346 n337 (2 : Int32).toNatClampNeg 1) (fun (S_350 : st_T) => (c_g (c_in 3 (st_ln S_350 n337)) (c_l (st_wi S_350 n337 (3 : Int32).toNatClampNeg 1) (fun (S_354 : st_T) => (c_g (c_in 4 (st_ln S_354 n337)) (c_l (st_wi S_354 n337 (4 : Int32).toNatClampNeg 1) (fun (S_358 : st_T) => (c_g (st_K S_358 a0 = 11) (c_l (st_pr S_358 1038 a0 (some n337)) (fun (S_359 : st_T) => (some ((), S_359)))))))))))))))))))))))))))))))))))))))))))))))))))))))))))))))))))))))))))))))))))))))))))))))))))))))))))))))))))))))))))))))))))))))))))))))))))))))))))))))))))))))))))))))))))))))))))))))))))))))))))))))))))))))))))))))))))))))))))))))))))))))))))))))))))))))))))))))))))))))))))))))))))))))
set_option maxRecDepth 100000 in
set_option maxHeartbeats 4000000 in
theorem s_X9_init (l : Launch) (X : st_I) {S SE : st_T} {a0 : Nat} {rr : Unit} (Hf : f_X9_init S a0 = some (rr, SE)) : Met l yX9_init (Cond.code yX9_init cX9_init 1 (none) :: lw_g) { frames := 1, cells := 29, slots := 26699, locals := 24 } (st_P X S [.ref a0]) (st_Q X (st_A S) none SE) 29 26699 (st_A S) := by
  refine st_ofW (by decide) (Nat.le_of_ble_eq_true rfl) ?_
  intro p e s m args below meth c hx hb hr hml hlocks hnm hts hown hK hRO hA hP hS ls hl
  have hown : s.vm.findClass RX9 = some m.cls := hown
  have hl : lv_has ls 1 [(0, .ref a0)] := hl
  unfold f_X9_init at Hf
  refine lv_aload_n hx hb dX9_init_0 rfl (lv_at hl 0 rfl) ?_
  refine W.objInit hx hb hown (hts _ (lg_1 967 rfl rfl)) (hts _ (lg_1 98 rfl rfl)) (hts _ (lg_1 99 rfl rfl)) rfl (by rw [hml]; exact hl.1) rfl dX9_init_1 (Nat.le_of_ble_eq_true rfl) (Nat.le_of_ble_eq_true rfl) ?_
  refine W.eq (g2 := F0 m 4 ls []) rfl ?_
  refine lv_aload_n hx hb dX9_init_4 rfl (lv_at hl 0 rfl) ?_
  refine lv_sipush (v := 800) hx hb dX9_init_5 (by decide) ?_
  obtain ⟨hn8, Hf⟩ := c_g_some Hf
  obtain ⟨n8, en8, Hf⟩ := c_l_ex Hf
  obtain ⟨S_8, eS_8, Hf⟩ := c_l_ex Hf
  refine r_newI (B := 800) hx hb hts (lg_1 110 rfl rfl) hK hA hP hS hn8 (by decide) en8 eS_8 (Nat.le_of_ble_eq_true rfl) (Nat.le_of_ble_eq_true rfl) dX9_init_8 (fun H hP hS => ?_)
  refine W.eq (g2 := F0 m 10 ls [.ref n8, .ref a0]) rfl ?_
  obtain ⟨hk_a0, Hf⟩ := c_g_some Hf
  refine fp_10_1 hx hb hts hown hK hP hS hnm hk_a0 lkf_X9_7 dX9_init_10 (fun H locs hP hS => ?_)
  obtain ⟨S_10, eS_10, Hf⟩ := c_l_ex Hf
  have hP : st_HP X (st_A S) S_10 H := by rw [eS_10]; exact hP
  refine lv_aload_n hx hb dX9_init_13 rfl (lv_at hl 0 rfl) ?_
  refine lv_sipush (v := 802) hx hb dX9_init_14 (by decide) ?_
  obtain ⟨hn17, Hf⟩ := c_g_some Hf
  obtain ⟨n17, en17, Hf⟩ := c_l_ex Hf
  obtain ⟨S_17, eS_17, Hf⟩ := c_l_ex Hf
  refine r_newI (B := 802) hx hb hts (lg_1 110 rfl rfl) hK hA hP hS hn17 (by decide) en17 eS_17 (Nat.le_of_ble_eq_true rfl) (Nat.le_of_ble_eq_true rfl) dX9_init_17 (fun H hP hS => ?_)
  refine W.eq (g2 := F0 m 19 ls [.ref n17, .ref a0]) rfl ?_
  obtain ⟨hk_a0, Hf⟩ := c_g_some Hf
  refine fp_10_4 hx hb hts hown hK hP hS hnm hk_a0 lkf_X9_13 dX9_init_19 (fun H locs hP hS => ?_)
  obtain ⟨S_19, eS_19, Hf⟩ := c_l_ex Hf
  have hP : st_HP X (st_A S) S_19 H := by rw [eS_19]; exact hP
  refine lv_aload_n hx hb dX9_init_22 rfl (lv_at hl 0 rfl) ?_
  refine lv_sipush (v := 802) hx hb dX9_init_23 (by decide) ?_
  obtain ⟨hn26, Hf⟩ := c_g_some Hf
  obtain ⟨n26, en26, Hf⟩ := c_l_ex Hf
  obtain ⟨S_26, eS_26, Hf⟩ := c_l_ex Hf
  refine r_newI (B := 802) hx hb hts (lg_1 110 rfl rfl) hK hA hP hS hn26 (by decide) en26 eS_26 (Nat.le_of_ble_eq_true rfl) (Nat.le_of_ble_eq_true rfl) dX9_init_26 (fun H hP hS => ?_)
  refine W.eq (g2 := F0 m 28 ls [.ref n26, .ref a0]) rfl ?_
  obtain ⟨hk_a0, Hf⟩ := c_g_some Hf
  refine fp_10_5 hx hb hts hown hK hP hS hnm hk_a0 lkf_X9_16 dX9_init_28 (fun H locs hP hS => ?_)
  obtain ⟨S_28, eS_28, Hf⟩ := c_l_ex Hf
  have hP : st_HP X (st_A S) S_28 H := by rw [eS_28]; exact hP
  refine lv_aload_n hx hb dX9_init_31 rfl (lv_at hl 0 rfl) ?_
  refine lv_sipush (v := 802) hx hb dX9_init_32 (by decide) ?_
  obtain ⟨hn35, Hf⟩ := c_g_some Hf
  obtain ⟨n35, en35, Hf⟩ := c_l_ex Hf
  obtain ⟨S_35, eS_35, Hf⟩ := c_l_ex Hf
  refine r_newJ (B := 802) hx hb hts (lg_1 1100 rfl rfl) hK hA hP hS hn35 (by decide) en35 eS_35 (Nat.le_of_ble_eq_true rfl) (Nat.le_of_ble_eq_true rfl) dX9_init_35 (fun H hP hS => ?_)
  refine W.eq (g2 := F0 m 37 ls [.ref n35, .ref a0]) rfl ?_
  obtain ⟨hk_a0, Hf⟩ := c_g_some Hf
  refine fp_10_6 hx hb hts hown hK hP hS hnm hk_a0 lkf_X9_19 dX9_init_37 (fun H locs hP hS => ?_)
  obtain ⟨S_37, eS_37, Hf⟩ := c_l_ex Hf
  have hP : st_HP X (st_A S) S_37 H := by rw [eS_37]; exact hP
  refine lv_aload_n hx hb dX9_init_40 rfl (lv_at hl 0 rfl) ?_
  refine lv_bipush (v := 14) hx hb dX9_init_41 (by decide) ?_
  obtain ⟨hn43, Hf⟩ := c_g_some Hf
  obtain ⟨n43, en43, Hf⟩ := c_l_ex Hf
  obtain ⟨S_43, eS_43, Hf⟩ := c_l_ex Hf
  refine r_newJ (B := 14) hx hb hts (lg_1 1100 rfl rfl) hK hA hP hS hn43 (by decide) en43 eS_43 (Nat.le_of_ble_eq_true rfl) (Nat.le_of_ble_eq_true rfl) dX9_init_43 (fun H hP hS => ?_)
  refine W.eq (g2 := F0 m 45 ls [.ref n43, .ref a0]) rfl ?_
  refine lv_dup hx hb dX9_init_45 rfl ?_
  refine lv_iconst (v := 0) hx hb dX9_init_46 (by decide) ?_
  refine lv_ldc2 hx hb hown (hts _ lkc_X9_23) dX9_init_47 ?_
  obtain ⟨hk_n43, Hf⟩ := c_g_some Hf
  obtain ⟨hi50, Hf⟩ := c_g_some Hf
  refine r_last hx hb hK hP hS hk_n43 hi50 dX9_init_50 (fun H locs hP hS => ?_)
  obtain ⟨S_50, eS_50, Hf⟩ := c_l_ex Hf
  have hP : st_HP X (st_A S) S_50 H := by rw [eS_50]; exact hP
  refine lv_dup hx hb dX9_init_51 rfl ?_
  refine lv_iconst (v := 1) hx hb dX9_init_52 (by decide) ?_
  refine lv_ldc2 hx hb hown (hts _ lkc_X9_25) dX9_init_53 ?_
  have hk_n43 : st_K S_50 n43 = 21 := by rw [kp_wl eS_50]; exact hk_n43
  obtain ⟨hi56, Hf⟩ := c_g_some Hf
  refine r_last hx hb hK hP hS hk_n43 hi56 dX9_init_56 (fun H locs hP hS => ?_)
  obtain ⟨S_56, eS_56, Hf⟩ := c_l_ex Hf
  have hP : st_HP X (st_A S) S_56 H := by rw [eS_56]; exact hP
  refine lv_dup hx hb dX9_init_57 rfl ?_
  refine lv_iconst (v := 2) hx hb dX9_init_58 (by decide) ?_
  refine lv_ldc2 hx hb hown (hts _ lkc_X9_27) dX9_init_59 ?_
  have hk_n43 : st_K S_56 n43 = 21 := by rw [kp_wl eS_56]; exact hk_n43
  obtain ⟨hi62, Hf⟩ := c_g_some Hf
  refine r_last hx hb hK hP hS hk_n43 hi62 dX9_init_62 (fun H locs hP hS => ?_)
  obtain ⟨S_62, eS_62, Hf⟩ := c_l_ex Hf
  have hP : st_HP X (st_A S) S_62 H := by rw [eS_62]; exact hP
  refine lv_dup hx hb dX9_init_63 rfl ?_
  refine lv_iconst (v := 3) hx hb dX9_init_64 (by decide) ?_
  refine lv_ldc2 hx hb hown (hts _ lkc_X9_29) dX9_init_65 ?_
  have hk_n43 : st_K S_62 n43 = 21 := by rw [kp_wl eS_62]; exact hk_n43
  obtain ⟨hi68, Hf⟩ := c_g_some Hf
  refine r_last hx hb hK hP hS hk_n43 hi68 dX9_init_68 (fun H locs hP hS => ?_)
  obtain ⟨S_68, eS_68, Hf⟩ := c_l_ex Hf
  have hP : st_HP X (st_A S) S_68 H := by rw [eS_68]; exact hP
  refine lv_dup hx hb dX9_init_69 rfl ?_
  refine lv_iconst (v := 4) hx hb dX9_init_70 (by decide) ?_
  refine lv_ldc2 hx hb hown (hts _ lkc_X9_31) dX9_init_71 ?_
  have hk_n43 : st_K S_68 n43 = 21 := by rw [kp_wl eS_68]; exact hk_n43
  obtain ⟨hi74, Hf⟩ := c_g_some Hf
  refine r_last hx hb hK hP hS hk_n43 hi74 dX9_init_74 (fun H locs hP hS => ?_)
  obtain ⟨S_74, eS_74, Hf⟩ := c_l_ex Hf
  have hP : st_HP X (st_A S) S_74 H := by rw [eS_74]; exact hP
  refine lv_dup hx hb dX9_init_75 rfl ?_
  refine lv_iconst (v := 5) hx hb dX9_init_76 (by decide) ?_
  refine lv_ldc2 hx hb hown (hts _ lkc_X9_33) dX9_init_77 ?_
  have hk_n43 : st_K S_74 n43 = 21 := by rw [kp_wl eS_74]; exact hk_n43
  obtain ⟨hi80, Hf⟩ := c_g_some Hf
  refine r_last hx hb hK hP hS hk_n43 hi80 dX9_init_80 (fun H locs hP hS => ?_)
  obtain ⟨S_80, eS_80, Hf⟩ := c_l_ex Hf
  have hP : st_HP X (st_A S) S_80 H := by rw [eS_80]; exact hP
  refine lv_dup hx hb dX9_init_81 rfl ?_
  refine lv_bipush (v := 6) hx hb dX9_init_82 (by decide) ?_
  refine lv_ldc2 hx hb hown (hts _ lkc_X9_35) dX9_init_84 ?_
  have hk_n43 : st_K S_80 n43 = 21 := by rw [kp_wl eS_80]; exact hk_n43
  obtain ⟨hi87, Hf⟩ := c_g_some Hf
  refine r_last hx hb hK hP hS hk_n43 hi87 dX9_init_87 (fun H locs hP hS => ?_)
  obtain ⟨S_87, eS_87, Hf⟩ := c_l_ex Hf
  have hP : st_HP X (st_A S) S_87 H := by rw [eS_87]; exact hP
  refine lv_dup hx hb dX9_init_88 rfl ?_
  refine lv_bipush (v := 7) hx hb dX9_init_89 (by decide) ?_
  refine lv_ldc2 hx hb hown (hts _ lkc_X9_37) dX9_init_91 ?_
  have hk_n43 : st_K S_87 n43 = 21 := by rw [kp_wl eS_87]; exact hk_n43
  obtain ⟨hi94, Hf⟩ := c_g_some Hf
  refine r_last hx hb hK hP hS hk_n43 hi94 dX9_init_94 (fun H locs hP hS => ?_)
  obtain ⟨S_94, eS_94, Hf⟩ := c_l_ex Hf
  have hP : st_HP X (st_A S) S_94 H := by rw [eS_94]; exact hP
  refine lv_dup hx hb dX9_init_95 rfl ?_
  refine lv_bipush (v := 8) hx hb dX9_init_96 (by decide) ?_
  refine lv_ldc2 hx hb hown (hts _ lkc_X9_39) dX9_init_98 ?_
  have hk_n43 : st_K S_94 n43 = 21 := by rw [kp_wl eS_94]; exact hk_n43
  obtain ⟨hi101, Hf⟩ := c_g_some Hf
  refine r_last hx hb hK hP hS hk_n43 hi101 dX9_init_101 (fun H locs hP hS => ?_)
  obtain ⟨S_101, eS_101, Hf⟩ := c_l_ex Hf
  have hP : st_HP X (st_A S) S_101 H := by rw [eS_101]; exact hP
  refine lv_dup hx hb dX9_init_102 rfl ?_
  refine lv_bipush (v := 9) hx hb dX9_init_103 (by decide) ?_
  refine lv_ldc2 hx hb hown (hts _ lkc_X9_41) dX9_init_105 ?_
  have hk_n43 : st_K S_101 n43 = 21 := by rw [kp_wl eS_101]; exact hk_n43
  obtain ⟨hi108, Hf⟩ := c_g_some Hf
  refine r_last hx hb hK hP hS hk_n43 hi108 dX9_init_108 (fun H locs hP hS => ?_)
  obtain ⟨S_108, eS_108, Hf⟩ := c_l_ex Hf
  have hP : st_HP X (st_A S) S_108 H := by rw [eS_108]; exact hP
  refine lv_dup hx hb dX9_init_109 rfl ?_
  refine lv_bipush (v := 10) hx hb dX9_init_110 (by decide) ?_
  refine lv_ldc2 hx hb hown (hts _ lkc_X9_43) dX9_init_112 ?_
  have hk_n43 : st_K S_108 n43 = 21 := by rw [kp_wl eS_108]; exact hk_n43
  obtain ⟨hi115, Hf⟩ := c_g_some Hf
  refine r_last hx hb hK hP hS hk_n43 hi115 dX9_init_115 (fun H locs hP hS => ?_)
  obtain ⟨S_115, eS_115, Hf⟩ := c_l_ex Hf
  have hP : st_HP X (st_A S) S_115 H := by rw [eS_115]; exact hP
  refine lv_dup hx hb dX9_init_116 rfl ?_
  refine lv_bipush (v := 11) hx hb dX9_init_117 (by decide) ?_
  refine lv_ldc2 hx hb hown (hts _ lkc_X9_45) dX9_init_119 ?_
  have hk_n43 : st_K S_115 n43 = 21 := by rw [kp_wl eS_115]; exact hk_n43
  obtain ⟨hi122, Hf⟩ := c_g_some Hf
  refine r_last hx hb hK hP hS hk_n43 hi122 dX9_init_122 (fun H locs hP hS => ?_)
  obtain ⟨S_122, eS_122, Hf⟩ := c_l_ex Hf
  have hP : st_HP X (st_A S) S_122 H := by rw [eS_122]; exact hP
  refine lv_dup hx hb dX9_init_123 rfl ?_
  refine lv_bipush (v := 12) hx hb dX9_init_124 (by decide) ?_
  refine lv_ldc2 hx hb hown (hts _ lkc_X9_47) dX9_init_126 ?_
  have hk_n43 : st_K S_122 n43 = 21 := by rw [kp_wl eS_122]; exact hk_n43
  obtain ⟨hi129, Hf⟩ := c_g_some Hf
  refine r_last hx hb hK hP hS hk_n43 hi129 dX9_init_129 (fun H locs hP hS => ?_)
  obtain ⟨S_129, eS_129, Hf⟩ := c_l_ex Hf
  have hP : st_HP X (st_A S) S_129 H := by rw [eS_129]; exact hP
  refine lv_dup hx hb dX9_init_130 rfl ?_
  refine lv_bipush (v := 13) hx hb dX9_init_131 (by decide) ?_
  refine lv_ldc2 hx hb hown (hts _ lkc_X9_49) dX9_init_133 ?_
  have hk_n43 : st_K S_129 n43 = 21 := by rw [kp_wl eS_129]; exact hk_n43
  obtain ⟨hi136, Hf⟩ := c_g_some Hf
  refine r_last hx hb hK hP hS hk_n43 hi136 dX9_init_136 (fun H locs hP hS => ?_)
  obtain ⟨S_136, eS_136, Hf⟩ := c_l_ex Hf
  have hP : st_HP X (st_A S) S_136 H := by rw [eS_136]; exact hP
  obtain ⟨hk_a0, Hf⟩ := c_g_some Hf
  refine fp_10_9 hx hb hts hown hK hP hS hnm hk_a0 lkf_X9_51 dX9_init_137 (fun H locs hP hS => ?_)
  obtain ⟨S_137, eS_137, Hf⟩ := c_l_ex Hf
  have hP : st_HP X (st_A S) S_137 H := by rw [eS_137]; exact hP
  refine lv_aload_n hx hb dX9_init_140 rfl (lv_at hl 0 rfl) ?_
  refine lv_iconst (v := (-1)) hx hb dX9_init_141 (by decide) ?_
  have hk_a0 : st_K S_137 a0 = 11 := by rw [kp_pr eS_137]; exact hk_a0
  refine fp_10_11 hx hb hts hown hK hP hS hk_a0 lkf_X9_54 dX9_init_142 (fun H locs hP hS => ?_)
  obtain ⟨S_142, eS_142, Hf⟩ := c_l_ex Hf
  have hP : st_HP X (st_A S) S_142 H := by rw [eS_142]; exact hP
  refine lv_aload_n hx hb dX9_init_145 rfl (lv_at hl 0 rfl) ?_
  refine lv_bipush (v := 9) hx hb dX9_init_146 (by decide) ?_
  obtain ⟨hn148, Hf⟩ := c_g_some Hf
  obtain ⟨n148, en148, Hf⟩ := c_l_ex Hf
  obtain ⟨S_148, eS_148, Hf⟩ := c_l_ex Hf
  refine r_newI (B := 9) hx hb hts (lg_1 110 rfl rfl) hK hA hP hS hn148 (by decide) en148 eS_148 (Nat.le_of_ble_eq_true rfl) (Nat.le_of_ble_eq_true rfl) dX9_init_148 (fun H hP hS => ?_)
  refine W.eq (g2 := F0 m 150 ls [.ref n148, .ref a0]) rfl ?_
  obtain ⟨hk_a0, Hf⟩ := c_g_some Hf
  refine fp_10_12 hx hb hts hown hK hP hS hnm hk_a0 lkf_X9_58 dX9_init_150 (fun H locs hP hS => ?_)
  obtain ⟨S_150, eS_150, Hf⟩ := c_l_ex Hf
  have hP : st_HP X (st_A S) S_150 H := by rw [eS_150]; exact hP
  refine lv_aload_n hx hb dX9_init_153 rfl (lv_at hl 0 rfl) ?_
  refine lv_bipush (v := 9) hx hb dX9_init_154 (by decide) ?_
  obtain ⟨hn156, Hf⟩ := c_g_some Hf
  obtain ⟨n156, en156, Hf⟩ := c_l_ex Hf
  obtain ⟨S_156, eS_156, Hf⟩ := c_l_ex Hf
  refine r_newI (B := 9) hx hb hts (lg_1 110 rfl rfl) hK hA hP hS hn156 (by decide) en156 eS_156 (Nat.le_of_ble_eq_true rfl) (Nat.le_of_ble_eq_true rfl) dX9_init_156 (fun H hP hS => ?_)
  refine W.eq (g2 := F0 m 158 ls [.ref n156, .ref a0]) rfl ?_
  obtain ⟨hk_a0, Hf⟩ := c_g_some Hf
  refine fp_10_13 hx hb hts hown hK hP hS hnm hk_a0 lkf_X9_61 dX9_init_158 (fun H locs hP hS => ?_)
  obtain ⟨S_158, eS_158, Hf⟩ := c_l_ex Hf
  have hP : st_HP X (st_A S) S_158 H := by rw [eS_158]; exact hP
  refine lv_aload_n hx hb dX9_init_161 rfl (lv_at hl 0 rfl) ?_
  refine lv_sipush (v := 216) hx hb dX9_init_162 (by decide) ?_
  obtain ⟨hn165, Hf⟩ := c_g_some Hf
  obtain ⟨n165, en165, Hf⟩ := c_l_ex Hf
  obtain ⟨S_165, eS_165, Hf⟩ := c_l_ex Hf
  refine r_newI (B := 216) hx hb hts (lg_1 110 rfl rfl) hK hA hP hS hn165 (by decide) en165 eS_165 (Nat.le_of_ble_eq_true rfl) (Nat.le_of_ble_eq_true rfl) dX9_init_165 (fun H hP hS => ?_)
  refine W.eq (g2 := F0 m 167 ls [.ref n165, .ref a0]) rfl ?_
  obtain ⟨hk_a0, Hf⟩ := c_g_some Hf
  refine fp_10_14 hx hb hts hown hK hP hS hnm hk_a0 lkf_X9_64 dX9_init_167 (fun H locs hP hS => ?_)
  obtain ⟨S_167, eS_167, Hf⟩ := c_l_ex Hf
  have hP : st_HP X (st_A S) S_167 H := by rw [eS_167]; exact hP
  refine lv_aload_n hx hb dX9_init_170 rfl (lv_at hl 0 rfl) ?_
  refine lv_sipush (v := 216) hx hb dX9_init_171 (by decide) ?_
  obtain ⟨hn174, Hf⟩ := c_g_some Hf
  obtain ⟨n174, en174, Hf⟩ := c_l_ex Hf
  obtain ⟨S_174, eS_174, Hf⟩ := c_l_ex Hf
  refine r_newI (B := 216) hx hb hts (lg_1 110 rfl rfl) hK hA hP hS hn174 (by decide) en174 eS_174 (Nat.le_of_ble_eq_true rfl) (Nat.le_of_ble_eq_true rfl) dX9_init_174 (fun H hP hS => ?_)
  refine W.eq (g2 := F0 m 176 ls [.ref n174, .ref a0]) rfl ?_
  obtain ⟨hk_a0, Hf⟩ := c_g_some Hf
  refine fp_10_15 hx hb hts hown hK hP hS hnm hk_a0 lkf_X9_67 dX9_init_176 (fun H locs hP hS => ?_)
  obtain ⟨S_176, eS_176, Hf⟩ := c_l_ex Hf
  have hP : st_HP X (st_A S) S_176 H := by rw [eS_176]; exact hP
  refine lv_aload_n hx hb dX9_init_179 rfl (lv_at hl 0 rfl) ?_
  refine lv_sipush (v := 7920) hx hb dX9_init_180 (by decide) ?_
  obtain ⟨hn183, Hf⟩ := c_g_some Hf
  obtain ⟨n183, en183, Hf⟩ := c_l_ex Hf
  obtain ⟨S_183, eS_183, Hf⟩ := c_l_ex Hf
  refine r_newI (B := 7920) hx hb hts (lg_1 110 rfl rfl) hK hA hP hS hn183 (by decide) en183 eS_183 (Nat.le_of_ble_eq_true rfl) (Nat.le_of_ble_eq_true rfl) dX9_init_183 (fun H hP hS => ?_)
  refine W.eq (g2 := F0 m 185 ls [.ref n183, .ref a0]) rfl ?_
  obtain ⟨hk_a0, Hf⟩ := c_g_some Hf
  refine fp_10_16 hx hb hts hown hK hP hS hnm hk_a0 lkf_X9_70 dX9_init_185 (fun H locs hP hS => ?_)
  obtain ⟨S_185, eS_185, Hf⟩ := c_l_ex Hf
  have hP : st_HP X (st_A S) S_185 H := by rw [eS_185]; exact hP
  refine lv_aload_n hx hb dX9_init_188 rfl (lv_at hl 0 rfl) ?_
  refine lv_sipush (v := 7920) hx hb dX9_init_189 (by decide) ?_
  obtain ⟨hn192, Hf⟩ := c_g_some Hf
  obtain ⟨n192, en192, Hf⟩ := c_l_ex Hf
  obtain ⟨S_192, eS_192, Hf⟩ := c_l_ex Hf
  refine r_newI (B := 7920) hx hb hts (lg_1 110 rfl rfl) hK hA hP hS hn192 (by decide) en192 eS_192 (Nat.le_of_ble_eq_true rfl) (Nat.le_of_ble_eq_true rfl) dX9_init_192 (fun H hP hS => ?_)
  refine W.eq (g2 := F0 m 194 ls [.ref n192, .ref a0]) rfl ?_
  obtain ⟨hk_a0, Hf⟩ := c_g_some Hf
  refine fp_10_17 hx hb hts hown hK hP hS hnm hk_a0 lkf_X9_73 dX9_init_194 (fun H locs hP hS => ?_)
  obtain ⟨S_194, eS_194, Hf⟩ := c_l_ex Hf
  have hP : st_HP X (st_A S) S_194 H := by rw [eS_194]; exact hP
  refine lv_aload_n hx hb dX9_init_197 rfl (lv_at hl 0 rfl) ?_
  refine lv_bipush (v := 7) hx hb dX9_init_198 (by decide) ?_
  obtain ⟨hn200, Hf⟩ := c_g_some Hf
  obtain ⟨n200, en200, Hf⟩ := c_l_ex Hf
  obtain ⟨S_200, eS_200, Hf⟩ := c_l_ex Hf
  refine r_newI (B := 7) hx hb hts (lg_1 110 rfl rfl) hK hA hP hS hn200 (by decide) en200 eS_200 (Nat.le_of_ble_eq_true rfl) (Nat.le_of_ble_eq_true rfl) dX9_init_200 (fun H hP hS => ?_)
  refine W.eq (g2 := F0 m 202 ls [.ref n200, .ref a0]) rfl ?_
  obtain ⟨hk_a0, Hf⟩ := c_g_some Hf
  refine fp_10_20 hx hb hts hown hK hP hS hnm hk_a0 lkf_X9_76 dX9_init_202 (fun H locs hP hS => ?_)
  obtain ⟨S_202, eS_202, Hf⟩ := c_l_ex Hf
  have hP : st_HP X (st_A S) S_202 H := by rw [eS_202]; exact hP
  refine lv_aload_n hx hb dX9_init_205 rfl (lv_at hl 0 rfl) ?_
  refine lv_bipush (v := 7) hx hb dX9_init_206 (by decide) ?_
  obtain ⟨hn208, Hf⟩ := c_g_some Hf
  obtain ⟨n208, en208, Hf⟩ := c_l_ex Hf
  obtain ⟨S_208, eS_208, Hf⟩ := c_l_ex Hf
  refine r_newI (B := 7) hx hb hts (lg_1 110 rfl rfl) hK hA hP hS hn208 (by decide) en208 eS_208 (Nat.le_of_ble_eq_true rfl) (Nat.le_of_ble_eq_true rfl) dX9_init_208 (fun H hP hS => ?_)
  refine W.eq (g2 := F0 m 210 ls [.ref n208, .ref a0]) rfl ?_
  obtain ⟨hk_a0, Hf⟩ := c_g_some Hf
  refine fp_10_21 hx hb hts hown hK hP hS hnm hk_a0 lkf_X9_79 dX9_init_210 (fun H locs hP hS => ?_)
  obtain ⟨S_210, eS_210, Hf⟩ := c_l_ex Hf
  have hP : st_HP X (st_A S) S_210 H := by rw [eS_210]; exact hP
  refine lv_aload_n hx hb dX9_init_213 rfl (lv_at hl 0 rfl) ?_
  refine lv_bipush (v := 7) hx hb dX9_init_214 (by decide) ?_
  obtain ⟨hn216, Hf⟩ := c_g_some Hf
  obtain ⟨n216, en216, Hf⟩ := c_l_ex Hf
  obtain ⟨S_216, eS_216, Hf⟩ := c_l_ex Hf
  refine r_newI (B := 7) hx hb hts (lg_1 110 rfl rfl) hK hA hP hS hn216 (by decide) en216 eS_216 (Nat.le_of_ble_eq_true rfl) (Nat.le_of_ble_eq_true rfl) dX9_init_216 (fun H hP hS => ?_)
  refine W.eq (g2 := F0 m 218 ls [.ref n216, .ref a0]) rfl ?_
  obtain ⟨hk_a0, Hf⟩ := c_g_some Hf
  refine fp_10_22 hx hb hts hown hK hP hS hnm hk_a0 lkf_X9_82 dX9_init_218 (fun H locs hP hS => ?_)
  obtain ⟨S_218, eS_218, Hf⟩ := c_l_ex Hf
  have hP : st_HP X (st_A S) S_218 H := by rw [eS_218]; exact hP
  refine lv_aload_n hx hb dX9_init_221 rfl (lv_at hl 0 rfl) ?_
  refine lv_bipush (v := 7) hx hb dX9_init_222 (by decide) ?_
  obtain ⟨hn224, Hf⟩ := c_g_some Hf
  obtain ⟨n224, en224, Hf⟩ := c_l_ex Hf
  obtain ⟨S_224, eS_224, Hf⟩ := c_l_ex Hf
  refine r_newI (B := 7) hx hb hts (lg_1 110 rfl rfl) hK hA hP hS hn224 (by decide) en224 eS_224 (Nat.le_of_ble_eq_true rfl) (Nat.le_of_ble_eq_true rfl) dX9_init_224 (fun H hP hS => ?_)
  refine W.eq (g2 := F0 m 226 ls [.ref n224, .ref a0]) rfl ?_
  obtain ⟨hk_a0, Hf⟩ := c_g_some Hf
  refine fp_10_23 hx hb hts hown hK hP hS hnm hk_a0 lkf_X9_85 dX9_init_226 (fun H locs hP hS => ?_)
  obtain ⟨S_226, eS_226, Hf⟩ := c_l_ex Hf
  have hP : st_HP X (st_A S) S_226 H := by rw [eS_226]; exact hP
  refine lv_aload_n hx hb dX9_init_229 rfl (lv_at hl 0 rfl) ?_
  refine lv_iconst (v := 3) hx hb dX9_init_230 (by decide) ?_
  obtain ⟨hn231, Hf⟩ := c_g_some Hf
  obtain ⟨n231, en231, Hf⟩ := c_l_ex Hf
  obtain ⟨S_231, eS_231, Hf⟩ := c_l_ex Hf
  refine r_newI (B := 3) hx hb hts (lg_1 110 rfl rfl) hK hA hP hS hn231 (by decide) en231 eS_231 (Nat.le_of_ble_eq_true rfl) (Nat.le_of_ble_eq_true rfl) dX9_init_231 (fun H hP hS => ?_)
  refine W.eq (g2 := F0 m 233 ls [.ref n231, .ref a0]) rfl ?_
  obtain ⟨hk_a0, Hf⟩ := c_g_some Hf
  refine fp_10_24 hx hb hts hown hK hP hS hnm hk_a0 lkf_X9_88 dX9_init_233 (fun H locs hP hS => ?_)
  obtain ⟨S_233, eS_233, Hf⟩ := c_l_ex Hf
  have hP : st_HP X (st_A S) S_233 H := by rw [eS_233]; exact hP
  refine lv_aload_n hx hb dX9_init_236 rfl (lv_at hl 0 rfl) ?_
  refine lv_sipush (v := 880) hx hb dX9_init_237 (by decide) ?_
  obtain ⟨hn240, Hf⟩ := c_g_some Hf
  obtain ⟨n240, en240, Hf⟩ := c_l_ex Hf
  obtain ⟨S_240, eS_240, Hf⟩ := c_l_ex Hf
  refine r_newI (B := 880) hx hb hts (lg_1 110 rfl rfl) hK hA hP hS hn240 (by decide) en240 eS_240 (Nat.le_of_ble_eq_true rfl) (Nat.le_of_ble_eq_true rfl) dX9_init_240 (fun H hP hS => ?_)
  refine W.eq (g2 := F0 m 242 ls [.ref n240, .ref a0]) rfl ?_
  obtain ⟨hk_a0, Hf⟩ := c_g_some Hf
  refine fp_10_25 hx hb hts hown hK hP hS hnm hk_a0 lkf_X9_91 dX9_init_242 (fun H locs hP hS => ?_)
  obtain ⟨S_242, eS_242, Hf⟩ := c_l_ex Hf
  have hP : st_HP X (st_A S) S_242 H := by rw [eS_242]; exact hP
  refine lv_aload_n hx hb dX9_init_245 rfl (lv_at hl 0 rfl) ?_
  refine lv_sipush (v := 201) hx hb dX9_init_246 (by decide) ?_
  obtain ⟨hn249, Hf⟩ := c_g_some Hf
  obtain ⟨n249, en249, Hf⟩ := c_l_ex Hf
  obtain ⟨S_249, eS_249, Hf⟩ := c_l_ex Hf
  refine r_newI (B := 201) hx hb hts (lg_1 110 rfl rfl) hK hA hP hS hn249 (by decide) en249 eS_249 (Nat.le_of_ble_eq_true rfl) (Nat.le_of_ble_eq_true rfl) dX9_init_249 (fun H hP hS => ?_)
  refine W.eq (g2 := F0 m 251 ls [.ref n249, .ref a0]) rfl ?_
  obtain ⟨hk_a0, Hf⟩ := c_g_some Hf
  refine fp_10_26 hx hb hts hown hK hP hS hnm hk_a0 lkf_X9_94 dX9_init_251 (fun H locs hP hS => ?_)
  obtain ⟨S_251, eS_251, Hf⟩ := c_l_ex Hf
  have hP : st_HP X (st_A S) S_251 H := by rw [eS_251]; exact hP
  refine lv_aload_n hx hb dX9_init_254 rfl (lv_at hl 0 rfl) ?_
  refine lv_bipush (v := 40) hx hb dX9_init_255 (by decide) ?_
  obtain ⟨hn257, Hf⟩ := c_g_some Hf
  obtain ⟨n257, en257, Hf⟩ := c_l_ex Hf
  obtain ⟨S_257, eS_257, Hf⟩ := c_l_ex Hf
  refine r_newI (B := 40) hx hb hts (lg_1 110 rfl rfl) hK hA hP hS hn257 (by decide) en257 eS_257 (Nat.le_of_ble_eq_true rfl) (Nat.le_of_ble_eq_true rfl) dX9_init_257 (fun H hP hS => ?_)
  refine W.eq (g2 := F0 m 259 ls [.ref n257, .ref a0]) rfl ?_
  obtain ⟨hk_a0, Hf⟩ := c_g_some Hf
  refine fp_10_28 hx hb hts hown hK hP hS hnm hk_a0 lkf_X9_97 dX9_init_259 (fun H locs hP hS => ?_)
  obtain ⟨S_259, eS_259, Hf⟩ := c_l_ex Hf
  have hP : st_HP X (st_A S) S_259 H := by rw [eS_259]; exact hP
  refine lv_aload_n hx hb dX9_init_262 rfl (lv_at hl 0 rfl) ?_
  refine lv_bipush (v := 40) hx hb dX9_init_263 (by decide) ?_
  obtain ⟨hn265, Hf⟩ := c_g_some Hf
  obtain ⟨n265, en265, Hf⟩ := c_l_ex Hf
  obtain ⟨S_265, eS_265, Hf⟩ := c_l_ex Hf
  refine r_newI (B := 40) hx hb hts (lg_1 110 rfl rfl) hK hA hP hS hn265 (by decide) en265 eS_265 (Nat.le_of_ble_eq_true rfl) (Nat.le_of_ble_eq_true rfl) dX9_init_265 (fun H hP hS => ?_)
  refine W.eq (g2 := F0 m 267 ls [.ref n265, .ref a0]) rfl ?_
  obtain ⟨hk_a0, Hf⟩ := c_g_some Hf
  refine fp_10_29 hx hb hts hown hK hP hS hnm hk_a0 lkf_X9_100 dX9_init_267 (fun H locs hP hS => ?_)
  obtain ⟨S_267, eS_267, Hf⟩ := c_l_ex Hf
  have hP : st_HP X (st_A S) S_267 H := by rw [eS_267]; exact hP
  refine lv_aload_n hx hb dX9_init_270 rfl (lv_at hl 0 rfl) ?_
  refine lv_bipush (v := 40) hx hb dX9_init_271 (by decide) ?_
  obtain ⟨hn273, Hf⟩ := c_g_some Hf
  obtain ⟨n273, en273, Hf⟩ := c_l_ex Hf
  obtain ⟨S_273, eS_273, Hf⟩ := c_l_ex Hf
  refine r_newI (B := 40) hx hb hts (lg_1 110 rfl rfl) hK hA hP hS hn273 (by decide) en273 eS_273 (Nat.le_of_ble_eq_true rfl) (Nat.le_of_ble_eq_true rfl) dX9_init_273 (fun H hP hS => ?_)
  refine W.eq (g2 := F0 m 275 ls [.ref n273, .ref a0]) rfl ?_
  obtain ⟨hk_a0, Hf⟩ := c_g_some Hf
  refine fp_10_30 hx hb hts hown hK hP hS hnm hk_a0 lkf_X9_103 dX9_init_275 (fun H locs hP hS => ?_)
  obtain ⟨S_275, eS_275, Hf⟩ := c_l_ex Hf
  have hP : st_HP X (st_A S) S_275 H := by rw [eS_275]; exact hP
  refine lv_aload_n hx hb dX9_init_278 rfl (lv_at hl 0 rfl) ?_
  refine lv_bipush (v := 40) hx hb dX9_init_279 (by decide) ?_
  obtain ⟨hn281, Hf⟩ := c_g_some Hf
  obtain ⟨n281, en281, Hf⟩ := c_l_ex Hf
  obtain ⟨S_281, eS_281, Hf⟩ := c_l_ex Hf
  refine r_newI (B := 40) hx hb hts (lg_1 110 rfl rfl) hK hA hP hS hn281 (by decide) en281 eS_281 (Nat.le_of_ble_eq_true rfl) (Nat.le_of_ble_eq_true rfl) dX9_init_281 (fun H hP hS => ?_)
  refine W.eq (g2 := F0 m 283 ls [.ref n281, .ref a0]) rfl ?_
  obtain ⟨hk_a0, Hf⟩ := c_g_some Hf
  refine fp_10_31 hx hb hts hown hK hP hS hnm hk_a0 lkf_X9_106 dX9_init_283 (fun H locs hP hS => ?_)
  obtain ⟨S_283, eS_283, Hf⟩ := c_l_ex Hf
  have hP : st_HP X (st_A S) S_283 H := by rw [eS_283]; exact hP
  refine lv_aload_n hx hb dX9_init_286 rfl (lv_at hl 0 rfl) ?_
  refine lv_bipush (v := 40) hx hb dX9_init_287 (by decide) ?_
  obtain ⟨hn289, Hf⟩ := c_g_some Hf
  obtain ⟨n289, en289, Hf⟩ := c_l_ex Hf
  obtain ⟨S_289, eS_289, Hf⟩ := c_l_ex Hf
  refine r_newI (B := 40) hx hb hts (lg_1 110 rfl rfl) hK hA hP hS hn289 (by decide) en289 eS_289 (Nat.le_of_ble_eq_true rfl) (Nat.le_of_ble_eq_true rfl) dX9_init_289 (fun H hP hS => ?_)
  refine W.eq (g2 := F0 m 291 ls [.ref n289, .ref a0]) rfl ?_
  obtain ⟨hk_a0, Hf⟩ := c_g_some Hf
  refine fp_10_32 hx hb hts hown hK hP hS hnm hk_a0 lkf_X9_109 dX9_init_291 (fun H locs hP hS => ?_)
  obtain ⟨S_291, eS_291, Hf⟩ := c_l_ex Hf
  have hP : st_HP X (st_A S) S_291 H := by rw [eS_291]; exact hP
  refine lv_aload_n hx hb dX9_init_294 rfl (lv_at hl 0 rfl) ?_
  refine lv_bipush (v := 40) hx hb dX9_init_295 (by decide) ?_
  obtain ⟨hn297, Hf⟩ := c_g_some Hf
  obtain ⟨n297, en297, Hf⟩ := c_l_ex Hf
  obtain ⟨S_297, eS_297, Hf⟩ := c_l_ex Hf
  refine r_newI (B := 40) hx hb hts (lg_1 110 rfl rfl) hK hA hP hS hn297 (by decide) en297 eS_297 (Nat.le_of_ble_eq_true rfl) (Nat.le_of_ble_eq_true rfl) dX9_init_297 (fun H hP hS => ?_)
  refine W.eq (g2 := F0 m 299 ls [.ref n297, .ref a0]) rfl ?_
  obtain ⟨hk_a0, Hf⟩ := c_g_some Hf
  refine fp_10_33 hx hb hts hown hK hP hS hnm hk_a0 lkf_X9_112 dX9_init_299 (fun H locs hP hS => ?_)
  obtain ⟨S_299, eS_299, Hf⟩ := c_l_ex Hf
  have hP : st_HP X (st_A S) S_299 H := by rw [eS_299]; exact hP
  refine lv_aload_n hx hb dX9_init_302 rfl (lv_at hl 0 rfl) ?_
  refine lv_sipush (v := 5760) hx hb dX9_init_303 (by decide) ?_
  obtain ⟨hn306, Hf⟩ := c_g_some Hf
  obtain ⟨n306, en306, Hf⟩ := c_l_ex Hf
  obtain ⟨S_306, eS_306, Hf⟩ := c_l_ex Hf
  refine r_newI (B := 5760) hx hb hts (lg_1 110 rfl rfl) hK hA hP hS hn306 (by decide) en306 eS_306 (Nat.le_of_ble_eq_true rfl) (Nat.le_of_ble_eq_true rfl) dX9_init_306 (fun H hP hS => ?_)
  refine W.eq (g2 := F0 m 308 ls [.ref n306, .ref a0]) rfl ?_
  obtain ⟨hk_a0, Hf⟩ := c_g_some Hf
  refine fp_10_34 hx hb hts hown hK hP hS hnm hk_a0 lkf_X9_115 dX9_init_308 (fun H locs hP hS => ?_)
  obtain ⟨S_308, eS_308, Hf⟩ := c_l_ex Hf
  have hP : st_HP X (st_A S) S_308 H := by rw [eS_308]; exact hP
  refine lv_aload_n hx hb dX9_init_311 rfl (lv_at hl 0 rfl) ?_
  refine lv_bipush (v := 24) hx hb dX9_init_312 (by decide) ?_
  obtain ⟨hn314, Hf⟩ := c_g_some Hf
  obtain ⟨n314, en314, Hf⟩ := c_l_ex Hf
  obtain ⟨S_314, eS_314, Hf⟩ := c_l_ex Hf
  refine r_newI (B := 24) hx hb hts (lg_1 110 rfl rfl) hK hA hP hS hn314 (by decide) en314 eS_314 (Nat.le_of_ble_eq_true rfl) (Nat.le_of_ble_eq_true rfl) dX9_init_314 (fun H hP hS => ?_)
  refine W.eq (g2 := F0 m 316 ls [.ref n314, .ref a0]) rfl ?_
  obtain ⟨hk_a0, Hf⟩ := c_g_some Hf
  refine fp_10_35 hx hb hts hown hK hP hS hnm hk_a0 lkf_X9_118 dX9_init_316 (fun H locs hP hS => ?_)
  obtain ⟨S_316, eS_316, Hf⟩ := c_l_ex Hf
  have hP : st_HP X (st_A S) S_316 H := by rw [eS_316]; exact hP
  refine lv_aload_n hx hb dX9_init_319 rfl (lv_at hl 0 rfl) ?_
  refine lv_bipush (v := 24) hx hb dX9_init_320 (by decide) ?_
  obtain ⟨hn322, Hf⟩ := c_g_some Hf
  obtain ⟨n322, en322, Hf⟩ := c_l_ex Hf
  obtain ⟨S_322, eS_322, Hf⟩ := c_l_ex Hf
  refine r_newI (B := 24) hx hb hts (lg_1 110 rfl rfl) hK hA hP hS hn322 (by decide) en322 eS_322 (Nat.le_of_ble_eq_true rfl) (Nat.le_of_ble_eq_true rfl) dX9_init_322 (fun H hP hS => ?_)
  refine W.eq (g2 := F0 m 324 ls [.ref n322, .ref a0]) rfl ?_
  obtain ⟨hk_a0, Hf⟩ := c_g_some Hf
  refine fp_10_36 hx hb hts hown hK hP hS hnm hk_a0 lkf_X9_121 dX9_init_324 (fun H locs hP hS => ?_)
  obtain ⟨S_324, eS_324, Hf⟩ := c_l_ex Hf
  have hP : st_HP X (st_A S) S_324 H := by rw [eS_324]; exact hP
  refine lv_aload_n hx hb dX9_init_327 rfl (lv_at hl 0 rfl) ?_
  refine lv_bipush (v := 24) hx hb dX9_init_328 (by decide) ?_
  obtain ⟨hn330, Hf⟩ := c_g_some Hf
  obtain ⟨n330, en330, Hf⟩ := c_l_ex Hf
  obtain ⟨S_330, eS_330, Hf⟩ := c_l_ex Hf
  refine r_newZ (B := 24) hx hb hts (lg_1 1101 rfl rfl) hK hA hP hS hn330 (by decide) en330 eS_330 (Nat.le_of_ble_eq_true rfl) (Nat.le_of_ble_eq_true rfl) dX9_init_330 (fun H hP hS => ?_)
  refine W.eq (g2 := F0 m 332 ls [.ref n330, .ref a0]) rfl ?_
  obtain ⟨hk_a0, Hf⟩ := c_g_some Hf
  refine fp_10_37 hx hb hts hown hK hP hS hnm hk_a0 lkf_X9_124 dX9_init_332 (fun H locs hP hS => ?_)
  obtain ⟨S_332, eS_332, Hf⟩ := c_l_ex Hf
  have hP : st_HP X (st_A S) S_332 H := by rw [eS_332]; exact hP
  refine lv_aload_n hx hb dX9_init_335 rfl (lv_at hl 0 rfl) ?_
  refine lv_iconst (v := 5) hx hb dX9_init_336 (by decide) ?_
  obtain ⟨hn337, Hf⟩ := c_g_some Hf
  obtain ⟨n337, en337, Hf⟩ := c_l_ex Hf
  obtain ⟨S_337, eS_337, Hf⟩ := c_l_ex Hf
  refine r_newI (B := 5) hx hb hts (lg_1 110 rfl rfl) hK hA hP hS hn337 (by decide) en337 eS_337 (Nat.le_of_ble_eq_true rfl) (Nat.le_of_ble_eq_true rfl) dX9_init_337 (fun H hP hS => ?_)
  refine W.eq (g2 := F0 m 339 ls [.ref n337, .ref a0]) rfl ?_
  refine lv_dup hx hb dX9_init_339 rfl ?_
  refine lv_iconst (v := 0) hx hb dX9_init_340 (by decide) ?_
  refine lv_iconst (v := 1) hx hb dX9_init_341 (by decide) ?_
  obtain ⟨hk_n337, Hf⟩ := c_g_some Hf
  obtain ⟨hi342, Hf⟩ := c_g_some Hf
  refine r_iast hx hb hK hP hS hk_n337 hi342 dX9_init_342 (fun H locs hP hS => ?_)
  obtain ⟨S_342, eS_342, Hf⟩ := c_l_ex Hf
  have hP : st_HP X (st_A S) S_342 H := by rw [eS_342]; exact hP
  refine lv_dup hx hb dX9_init_343 rfl ?_
  refine lv_iconst (v := 1) hx hb dX9_init_344 (by decide) ?_
  refine lv_iconst (v := 1) hx hb dX9_init_345 (by decide) ?_
  have hk_n337 : st_K S_342 n337 = 20 := by rw [kp_wi eS_342]; exact hk_n337
  obtain ⟨hi346, Hf⟩ := c_g_some Hf
  refine r_iast hx hb hK hP hS hk_n337 hi346 dX9_init_346 (fun H locs hP hS => ?_)
  obtain ⟨S_346, eS_346, Hf⟩ := c_l_ex Hf
  have hP : st_HP X (st_A S) S_346 H := by rw [eS_346]; exact hP
  refine lv_dup hx hb dX9_init_347 rfl ?_
  refine lv_iconst (v := 2) hx hb dX9_init_348 (by decide) ?_
  refine lv_iconst (v := 1) hx hb dX9_init_349 (by decide) ?_
  have hk_n337 : st_K S_346 n337 = 20 := by rw [kp_wi eS_346]; exact hk_n337
  obtain ⟨hi350, Hf⟩ := c_g_some Hf
  refine r_iast hx hb hK hP hS hk_n337 hi350 dX9_init_350 (fun H locs hP hS => ?_)
  obtain ⟨S_350, eS_350, Hf⟩ := c_l_ex Hf
  have hP : st_HP X (st_A S) S_350 H := by rw [eS_350]; exact hP
  refine lv_dup hx hb dX9_init_351 rfl ?_
  refine lv_iconst (v := 3) hx hb dX9_init_352 (by decide) ?_
  refine lv_iconst (v := 1) hx hb dX9_init_353 (by decide) ?_
  have hk_n337 : st_K S_350 n337 = 20 := by rw [kp_wi eS_350]; exact hk_n337
  obtain ⟨hi354, Hf⟩ := c_g_some Hf
  refine r_iast hx hb hK hP hS hk_n337 hi354 dX9_init_354 (fun H locs hP hS => ?_)
  obtain ⟨S_354, eS_354, Hf⟩ := c_l_ex Hf
  have hP : st_HP X (st_A S) S_354 H := by rw [eS_354]; exact hP
  refine lv_dup hx hb dX9_init_355 rfl ?_
  refine lv_iconst (v := 4) hx hb dX9_init_356 (by decide) ?_
  refine lv_iconst (v := 1) hx hb dX9_init_357 (by decide) ?_
  have hk_n337 : st_K S_354 n337 = 20 := by rw [kp_wi eS_354]; exact hk_n337
  obtain ⟨hi358, Hf⟩ := c_g_some Hf
  refine r_iast hx hb hK hP hS hk_n337 hi358 dX9_init_358 (fun H locs hP hS => ?_)
  obtain ⟨S_358, eS_358, Hf⟩ := c_l_ex Hf
  have hP : st_HP X (st_A S) S_358 H := by rw [eS_358]; exact hP
  obtain ⟨hk_a0, Hf⟩ := c_g_some Hf
  refine fp_10_38 hx hb hts hown hK hP hS hnm hk_a0 lkf_X9_128 dX9_init_359 (fun H locs hP hS => ?_)
  obtain ⟨S_359, eS_359, Hf⟩ := c_l_ex Hf
  have hP : st_HP X (st_A S) S_359 H := by rw [eS_359]; exact hP
  cases Hf
  exact r_vret hx hb hr rfl hlocks dX9_init_362 (Nat.le_of_ble_eq_true rfl) (Nat.le_of_ble_eq_true rfl) hP hS

def j_X1_insert_57 (rec4 : st_T × Int32 × Int32 → Option (Int32 × st_T)) (y2_4 : Int32) (y3_4 : Int32) (S57 : st_T) (u0_57 : Int32) : Option (Int32 × st_T) :=
  (c_l (y2_4 + u0_57) (fun (z2_58 : Int32) => (rec4 (S57, z2_58, (y3_4 + 1)))))
def b_X1_insert_4 (a0 : Nat) (x1 : Nat) (rec4 : st_T × Int32 × Int32 → Option (Int32 × st_T)) (q : st_T × Int32 × Int32) : Option (Int32 × st_T) :=
  (fun (S4 : st_T) (y2_4 : Int32) (y3_4 : Int32) =>
  (c_g (st_K S4 a0 = 3) (c_n (st_fr S4 204 a0) (fun (q6 : Nat) => (c_g (st_K S4 q6 = 1) (c_c (f_Jx4a65c_size_8abf5 S4 q6) (fun (r9 : Int32) (T9 : st_T) => (c_i (r9 ≤ y3_4) (c_g (st_K T9 a0 = 3) (c_n (st_fr T9 204 a0) (fun (q66 : Nat) => (c_g (st_K T9 q66 = 1) (c_c (f_Jx4a65c_add_7a177 T9 q66 y2_4 x1) (fun (r71 : Unit) (T71 : st_T) => (c_g (st_K T71 a0 = 3) (c_l (st_pi T71 206 a0 (-1)) (fun (S_76 : st_T) => (some (1, S_76))))))))))) (c_g (st_K T9 a0 = 3) (c_n (st_fr T9 204 a0) (fun (q16 : Nat) => (c_g (st_K T9 q16 = 1) (c_c (f_Jx4a65c_get_915e3 T9 q16 y3_4) (fun (r20 : Option Nat) (T20 : st_T) => (c_n r20 (fun (p20 : Nat) => (c_g (st_K T20 p20 = 4) (c_c (f_X2_tensInCommon T20 p20 x1) (fun (r31 : Int32) (T31 : st_T) => (c_i (r31 ≤ 0) (c_g (st_K T31 p20 = 4) (c_g (st_K T31 x1 = 4) (c_i ((st_fi T31 300 x1) ≤ (st_fi T31 301 p20)) (j_X1_insert_57 rec4 y2_4 y3_4 T31 0) (j_X1_insert_57 rec4 y2_4 y3_4 T31 1)))) (some (0, T31)))))))))))))))))))))) q.1 q.2.1 q.2.2
set_option maxRecDepth 100000 in
def f_X1_insert (S : st_T) (a0 : Nat) (x1 : Nat) : Option (Int32 × st_T) :=
  (c_w (b_X1_insert_4 a0 x1) c_N (S, 0, 0))
set_option maxRecDepth 100000 in
set_option maxHeartbeats 4000000 in
theorem s_X1_insert (l : Launch) (X : st_I) {S SE : st_T} {a0 : Nat} {x1 : Nat} {rr : Int32} (Hf : f_X1_insert S a0 x1 = some (rr, SE)) : Met l yX1_insert (Cond.code yX1_insert cX1_insert 5 (some .boolean) :: lw_g) { frames := 6, cells := 1, slots := 64, locals := 207 } (st_P X S [.ref a0, .ref x1]) (st_Q X (st_A S) (some (.int rr)) SE) 1 64 (st_A S) := by
  refine st_ofW (by decide) (Nat.le_of_ble_eq_true rfl) ?_
  intro p e s m args below meth c hx hb hr hml hlocks hnm hts hown hK hRO hA hP hS ls hl
  have hown : s.vm.findClass RX1 = some m.cls := hown
  have hl : lv_has ls 5 [(0, .ref a0), (1, .ref x1)] := hl
  unfold f_X1_insert at Hf
  refine lv_iconst (v := 0) hx hb dX1_insert_0 (by decide) ?_
  refine lv_istore_n (lv' := [(2, .int 0), (0, .ref a0), (1, .ref x1)]) hx hb dX1_insert_1 rfl hl (by decide) rfl (fun ls hl => ?_)
  refine lv_iconst (v := 0) hx hb dX1_insert_2 (by decide) ?_
  refine lv_istore_n (lv' := [(3, .int 0), (2, .int 0), (0, .ref a0), (1, .ref x1)]) hx hb dX1_insert_3 rfl hl (by decide) rfl (fun ls hl => ?_)
  refine (c_w_ind (P := fun (q : st_T × Int32 × Int32) => ∀ (H : Heap) (locs : List Loc) (ls : Array Slot), st_HP X (st_A S) q.1 H → va_S (st_A S) s.heap H locs → lv_has ls 5 [(0, .ref a0), (1, .ref x1), (2, .int q.2.1), (3, .int q.2.2)] → W p l e { frames := 6, cells := 1, slots := 64, locals := 207 } s m args below meth c H locs 0 0 (MQ below (st_Q X (st_A S) (some (.int rr)) SE) args s 1 64 (st_A S)) (F0 m 4 ls [])) ?_ _ _ Hf) _ _ _ hP hS (lv_sub hl [2, 3, 1, 0] rfl)
  intro rec4 hrec4 q Hf H locs ls hP hS hl
  obtain ⟨S4, y2_4, y3_4⟩ := q
  unfold b_X1_insert_4 at Hf
  try dsimp only at Hf
  try dsimp only at hP
  try dsimp only at hl
  try dsimp only
  refine lv_iload_n hx hb dX1_insert_4 rfl (lv_at hl 3 rfl) ?_
  refine lv_aload_n hx hb dX1_insert_5 rfl (lv_at hl 0 rfl) ?_
  obtain ⟨hk_a0, Hf⟩ := c_g_some Hf
  obtain ⟨q6, hq6, Hf⟩ := c_n_some Hf
  refine fg_2_4 hx hb hts hown hK hP hk_a0 lkf_X1_12 hq6 dX1_insert_6 ?_
  obtain ⟨hk_q6, Hf⟩ := c_g_some Hf
  obtain ⟨r9, T9, hq9, Hf⟩ := c_c_some Hf
  refine r_cV (n := 0) (As := []) (rest := [.int y3_4]) ⟨hx, hb, hml, hown, hts⟩ (s_Jx4a65c_size_8abf5 l X hq9) lkm_X1_38 (by decide +kernel) rfl (by decide) dX1_insert_9 rfl rfl ⟨Nat.le_of_ble_eq_true rfl, Nat.le_of_ble_eq_true rfl⟩ hk_q6 rfl hl.1 (Nat.le_of_ble_eq_true rfl) ⟨Nat.le_of_ble_eq_true rfl, Nat.le_of_ble_eq_true rfl⟩ hK hRO hA hP hS (fun H locs hP hS => ?_)
  refine W.eq (g2 := F0 m 12 ls [.int r9, .int y3_4]) rfl ?_
  refine lv_icmp_ge hx hb dX1_insert_12 (tgt := 65) (by decide) (fun hc => ?_) (fun hc => ?_)
  · have Hf := c_i_t Hf hc
    refine lv_aload_n hx hb dX1_insert_65 rfl (lv_at hl 0 rfl) ?_
    obtain ⟨hk_a0, Hf⟩ := c_g_some Hf
    obtain ⟨q66, hq66, Hf⟩ := c_n_some Hf
    refine fg_2_4 hx hb hts hown hK hP hk_a0 lkf_X1_12 hq66 dX1_insert_66 ?_
    refine lv_iload_n hx hb dX1_insert_69 rfl (lv_at hl 2 rfl) ?_
    refine lv_aload_n hx hb dX1_insert_70 rfl (lv_at hl 1 rfl) ?_
    obtain ⟨hk_q66, Hf⟩ := c_g_some Hf
    obtain ⟨r71, T71, hq71, Hf⟩ := c_c_some Hf
    refine r_cV (n := 2) (As := [.int y2_4, .ref x1]) (rest := []) ⟨hx, hb, hml, hown, hts⟩ (s_Jx4a65c_add_7a177 l X hq71) lkm_X1_58 (by decide +kernel) rfl (by decide) dX1_insert_71 rfl rfl ⟨Nat.le_of_ble_eq_true rfl, Nat.le_of_ble_eq_true rfl⟩ hk_q66 rfl hl.1 (Nat.le_of_ble_eq_true rfl) ⟨Nat.le_of_ble_eq_true rfl, Nat.le_of_ble_eq_true rfl⟩ hK hRO hA hP hS (fun H locs hP hS => ?_)
    refine W.eq (g2 := F0 m 74 ls []) rfl ?_
    refine lv_aload_n hx hb dX1_insert_74 rfl (lv_at hl 0 rfl) ?_
    refine lv_iconst (v := (-1)) hx hb dX1_insert_75 (by decide) ?_
    obtain ⟨hk_a0, Hf⟩ := c_g_some Hf
    refine fp_2_6 hx hb hts hown hK hP hS hk_a0 lkf_X1_23 dX1_insert_76 (fun H locs hP hS => ?_)
    obtain ⟨S_76, eS_76, Hf⟩ := c_l_ex Hf
    have hP : st_HP X (st_A S) S_76 H := by rw [eS_76]; exact hP
    refine lv_iconst (v := 1) hx hb dX1_insert_79 (by decide) ?_
    cases Hf
    exact r_zret hx hb hr rfl (Or.inr rfl) hlocks dX1_insert_80 (Nat.le_of_ble_eq_true rfl) (Nat.le_of_ble_eq_true rfl) hP hS
  have Hf := c_i_f Hf hc
  refine lv_aload_n hx hb dX1_insert_15 rfl (lv_at hl 0 rfl) ?_
  obtain ⟨hk_a0, Hf⟩ := c_g_some Hf
  obtain ⟨q16, hq16, Hf⟩ := c_n_some Hf
  refine fg_2_4 hx hb hts hown hK hP hk_a0 lkf_X1_12 hq16 dX1_insert_16 ?_
  refine lv_iload_n hx hb dX1_insert_19 rfl (lv_at hl 3 rfl) ?_
  obtain ⟨hk_q16, Hf⟩ := c_g_some Hf
  obtain ⟨r20, T20, hq20, Hf⟩ := c_c_some Hf
  refine r_cV (n := 1) (As := [.int y3_4]) (rest := []) ⟨hx, hb, hml, hown, hts⟩ (s_Jx4a65c_get_915e3 l X hq20) lkm_X1_42 (by decide +kernel) rfl (by decide) dX1_insert_20 rfl rfl ⟨Nat.le_of_ble_eq_true rfl, Nat.le_of_ble_eq_true rfl⟩ hk_q16 rfl hl.1 (Nat.le_of_ble_eq_true rfl) ⟨Nat.le_of_ble_eq_true rfl, Nat.le_of_ble_eq_true rfl⟩ hK hRO hA hP hS (fun H locs hP hS => ?_)
  obtain ⟨p20, ep20, Hf⟩ := c_n_some Hf
  subst ep20
  refine W.eq (g2 := F0 m 23 ls [.ref p20]) rfl ?_
  obtain ⟨hk_p20, Hf⟩ := c_g_some Hf
  refine va_castE hx hb hown (hts _ (lg_1 518 rfl rfl)) (st_recv hK hP hk_p20 (by decide) rfl) dX1_insert_23 ?_
  refine lv_astore (lv' := [(4, .ref p20), (0, .ref a0), (1, .ref x1), (2, .int y2_4), (3, .int y3_4)]) hx hb dX1_insert_26 hl (by decide) rfl (fun ls hl => ?_)
  refine lv_aload hx hb dX1_insert_28 (lv_at hl 0 rfl) ?_
  refine lv_aload_n hx hb dX1_insert_30 rfl (lv_at hl 2 rfl) ?_
  obtain ⟨r31, T31, hq31, Hf⟩ := c_c_some Hf
  refine r_cV (n := 1) (As := [.ref x1]) (rest := []) ⟨hx, hb, hml, hown, hts⟩ (s_X2_tensInCommon l X hq31) lkm_X1_48 (by decide +kernel) rfl (by decide) dX1_insert_31 rfl rfl ⟨Nat.le_of_ble_eq_true rfl, Nat.le_of_ble_eq_true rfl⟩ hk_p20 rfl hl.1 (Nat.le_of_ble_eq_true rfl) ⟨Nat.le_of_ble_eq_true rfl, Nat.le_of_ble_eq_true rfl⟩ hK hRO hA hP hS (fun H locs hP hS => ?_)
  refine W.eq (g2 := F0 m 34 ls [.int r31]) rfl ?_
  refine lv_if_le hx hb dX1_insert_34 (tgt := 39) (by decide) (fun hc => ?_) (fun hc => ?_)
  · have Hf := c_i_t Hf hc
    refine lv_iload_n hx hb dX1_insert_39 rfl (lv_at hl 3 rfl) ?_
    refine lv_aload hx hb dX1_insert_40 (lv_at hl 0 rfl) ?_
    obtain ⟨hk_p20, Hf⟩ := c_g_some Hf
    refine fg_3_1 hx hb hts hown hK hP hk_p20 lkf_X1_52 dX1_insert_42 ?_
    refine lv_aload_n hx hb dX1_insert_45 rfl (lv_at hl 2 rfl) ?_
    obtain ⟨hk_x1, Hf⟩ := c_g_some Hf
    refine fg_3_0 hx hb hts hown hK hP hk_x1 lkf_X1_55 dX1_insert_46 ?_
    have hJ57 : ∀ (S57 : st_T) (u0_57 : Int32), j_X1_insert_57 rec4 y2_4 y3_4 S57 u0_57 = some (rr, SE) → ∀ (H : Heap) (locs : List Loc) (ls : Array Slot), st_HP X (st_A S) S57 H → va_S (st_A S) s.heap H locs → lv_has ls 5 [(0, .ref a0), (1, .ref x1), (3, .int y3_4)] → W p l e { frames := 6, cells := 1, slots := 64, locals := 207 } s m args below meth c H locs 0 0 (MQ below (st_Q X (st_A S) (some (.int rr)) SE) args s 1 64 (st_A S)) (F0 m 57 ls [.int u0_57, .int y2_4]) := by
      intro S57 u0_57 Hf H locs ls hP hS hl
      unfold j_X1_insert_57 at Hf
      refine lv_iadd hx hb dX1_insert_57 ?_
      refine lv_topi (fun z2_58 ez2_58 => ?_)
      have Hf := c_l_ren Hf ez2_58
      refine lv_istore_n (lv' := [(2, .int z2_58), (0, .ref a0), (1, .ref x1), (3, .int y3_4)]) hx hb dX1_insert_58 rfl hl (by decide) rfl (fun ls hl => ?_)
      refine lv_iinc (v := (y3_4 + 1)) (lv' := [(3, .int (y3_4 + 1)), (2, .int z2_58), (0, .ref a0), (1, .ref x1)]) hx hb dX1_insert_59 hl (k := 3) rfl rfl (by decide) rfl (fun ls hl => ?_)
      refine lv_goto hx hb dX1_insert_62 (tgt := 4) (by decide) ?_
      exact hrec4 (S57, z2_58, (y3_4 + 1)) Hf _ _ _ hP hS (lv_sub hl [2, 3, 1, 0] rfl)
    refine lv_icmp_ge hx hb dX1_insert_49 (tgt := 56) (by decide) (fun hc => ?_) (fun hc => ?_)
    · have Hf := c_i_t Hf hc
      refine lv_iconst (v := 0) hx hb dX1_insert_56 (by decide) ?_
      exact hJ57 T31 0 Hf _ _ _ hP hS (lv_sub hl [1, 2, 4] rfl)
    have Hf := c_i_f Hf hc
    refine lv_iconst (v := 1) hx hb dX1_insert_52 (by decide) ?_
    refine lv_goto hx hb dX1_insert_53 (tgt := 57) (by decide) ?_
    exact hJ57 T31 1 Hf _ _ _ hP hS (lv_sub hl [1, 2, 4] rfl)
  have Hf := c_i_f Hf hc
  refine lv_iconst (v := 0) hx hb dX1_insert_37 (by decide) ?_
  cases Hf
  exact r_zret hx hb hr rfl (Or.inl rfl) hlocks dX1_insert_38 (Nat.le_of_ble_eq_true rfl) (Nat.le_of_ble_eq_true rfl) hP hS

def j_X8_diary_92 (rec45 : st_T × Int32 → Option (Int32 × st_T)) (y5_45 : Int32) (S92 : st_T) : Option (Int32 × st_T) :=
  (rec45 (S92, (y5_45 + 1)))
def b_X8_diary_45 (a0 : Nat) (x1 : Int32) (x2 : Int32) (x3 : Int32) (x4 : Int32) (rec45 : st_T × Int32 → Option (Int32 × st_T)) (q : st_T × Int32) : Option (Int32 × st_T) :=
  (fun (S45 : st_T) (y5_45 : Int32) =>
  (c_g (st_K S45 a0 = 10) (c_n (st_fr S45 901 a0) (fun (q48 : Nat) => (c_g (st_K S45 q48 = 1) (c_c (f_Jx4a65c_size_8abf5 S45 q48) (fun (r51 : Int32) (T51 : st_T) => (c_i (r51 ≤ y5_45) (c_g (st_K T51 a0 = 10) (c_n (st_fr T51 901 a0) (fun (q99 : Nat) => (c_l (st_nx T51) (fun (n102 : Nat) => (c_l (st_no T51 2) (fun (S_102 : st_T) => (c_c (f_X1_init S_102 n102 x1 x2 x3 x4) (fun (r111 : Unit) (T111 : st_T) => (c_g (st_K T111 q99 = 1) (c_c (f_Jx4a65c_add_9ea2d T111 q99 n102) (fun (r114 : Int32) (T114 : st_T) => (c_g (st_K T114 a0 = 10) (c_n (st_fr T114 901 a0) (fun (q119 : Nat) => (c_g (st_K T114 q119 = 1) (c_c (f_Jx4a65c_size_8abf5 T114 q119) (fun (r122 : Int32) (T122 : st_T) => (some ((r122 - 1), T122)))))))))))))))))))) (c_g (st_K T51 a0 = 10) (c_n (st_fr T51 901 a0) (fun (q58 : Nat) => (c_g (st_K T51 q58 = 1) (c_c (f_Jx4a65c_get_915e3 T51 q58 y5_45) (fun (r63 : Option Nat) (T63 : st_T) => (c_n r63 (fun (p63 : Nat) => (c_g (st_K T63 p63 = 3) (c_c (f_X1_isOf T63 p63 x1 x3) (fun (r75 : Int32) (T75 : st_T) => (c_i (r75 = 0) (j_X8_diary_92 rec45 y5_45 T75) (c_g (st_K T75 p63 = 3) (c_i ((st_fi T75 201 p63) = x2) (some ((-1), T75)) (j_X8_diary_92 rec45 y5_45 T75))))))))))))))))))))))) q.1 q.2
set_option maxRecDepth 100000 in
def f_X8_diary (S : st_T) (a0 : Nat) (x1 : Int32) (x2 : Int32) (x3 : Int32) (x4 : Int32) : Option (Int32 × st_T) :=
  (c_c (f_X8_isHouseAndDay S x1 x3) (fun (r2 : Int32) (T2 : st_T) => (c_i (r2 = 0) (some ((-1), T2)) (c_c (f_X8_isWithin T2 x2 0 7) (fun (r12 : Int32) (T12 : st_T) => (c_i (r12 = 0) (some ((-1), T12)) (c_c (f_X8_isWithin T12 x4 0 2) (fun (r22 : Int32) (T22 : st_T) => (c_i (r22 = 0) (some ((-1), T22)) (c_g (st_K T22 a0 = 10) (c_n (st_fr T22 901 a0) (fun (q29 : Nat) => (c_g (st_K T22 q29 = 1) (c_c (f_Jx4a65c_size_8abf5 T22 q29) (fun (r32 : Int32) (T32 : st_T) => (c_i (r32 < 40) (c_w (b_X8_diary_45 a0 x1 x2 x3 x4) c_N (T32, 0)) (some ((-1), T32))))))))))))))))))
set_option maxRecDepth 100000 in
set_option maxHeartbeats 4000000 in
theorem s_X8_diary (l : Launch) (X : st_I) {S SE : st_T} {a0 : Nat} {x1 : Int32} {x2 : Int32} {x3 : Int32} {x4 : Int32} {rr : Int32} (Hf : f_X8_diary S a0 x1 x2 x3 x4 = some (rr, SE)) : Met l yX8_diary (Cond.code yX8_diary cX8_diary 7 (some .int) :: lw_g) { frames := 7, cells := 3, slots := 74, locals := 227 } (st_P X S [.ref a0, .int x1, .int x2, .int x3, .int x4]) (st_Q X (st_A S) (some (.int rr)) SE) 3 74 (st_A S) := by
  refine st_ofW (by decide) (Nat.le_of_ble_eq_true rfl) ?_
  intro p e s m args below meth c hx hb hr hml hlocks hnm hts hown hK hRO hA hP hS ls hl
  have hown : s.vm.findClass RX8 = some m.cls := hown
  have hl : lv_has ls 7 [(0, .ref a0), (1, .int x1), (2, .int x2), (3, .int x3), (4, .int x4)] := hl
  unfold f_X8_diary at Hf
  refine lv_iload_n hx hb dX8_diary_0 rfl (lv_at hl 1 rfl) ?_
  refine lv_iload_n hx hb dX8_diary_1 rfl (lv_at hl 3 rfl) ?_
  obtain ⟨r2, T2, hq2, Hf⟩ := c_c_some Hf
  refine r_cS (n := 2) (As := [.int x1, .int x3]) (rest := []) ⟨hx, hb, hml, hown, hts⟩ (s_X8_isHouseAndDay l X hq2) lkm_X8_77 (by decide +kernel) dX8_diary_2 rfl rfl ⟨Nat.le_of_ble_eq_true rfl, Nat.le_of_ble_eq_true rfl⟩ rfl hl.1 (Nat.le_of_ble_eq_true rfl) ⟨Nat.le_of_ble_eq_true rfl, Nat.le_of_ble_eq_true rfl⟩ hK hRO hA hP hS (fun H locs hP hS => ?_)
  refine W.eq (g2 := F0 m 5 ls [.int r2]) rfl ?_
  refine lv_if_eq hx hb dX8_diary_5 (tgt := 40) (by decide) (fun hc => ?_) (fun hc => ?_)
  · have Hf := c_i_t Hf hc
    refine lv_iconst (v := (-1)) hx hb dX8_diary_40 (by decide) ?_
    cases Hf
    exact r_iret hx hb hr rfl hlocks dX8_diary_41 (Nat.le_of_ble_eq_true rfl) (Nat.le_of_ble_eq_true rfl) hP hS
  have Hf := c_i_f Hf hc
  refine lv_iload_n hx hb dX8_diary_8 rfl (lv_at hl 2 rfl) ?_
  refine lv_iconst (v := 0) hx hb dX8_diary_9 (by decide) ?_
  refine lv_bipush (v := 7) hx hb dX8_diary_10 (by decide) ?_
  obtain ⟨r12, T12, hq12, Hf⟩ := c_c_some Hf
  refine r_cS (n := 3) (As := [.int x2, .int 0, .int 7]) (rest := []) ⟨hx, hb, hml, hown, hts⟩ (s_X8_isWithin l X hq12) lkm_X8_69 (by decide +kernel) dX8_diary_12 rfl rfl ⟨Nat.le_of_ble_eq_true rfl, Nat.le_of_ble_eq_true rfl⟩ rfl hl.1 (Nat.le_of_ble_eq_true rfl) ⟨Nat.le_of_ble_eq_true rfl, Nat.le_of_ble_eq_true rfl⟩ hK hRO hA hP hS (fun H locs hP hS => ?_)
  refine W.eq (g2 := F0 m 15 ls [.int r12]) rfl ?_
  refine lv_if_eq hx hb dX8_diary_15 (tgt := 40) (by decide) (fun hc => ?_) (fun hc => ?_)
  · have Hf := c_i_t Hf hc
    refine lv_iconst (v := (-1)) hx hb dX8_diary_40 (by decide) ?_
    cases Hf
    exact r_iret hx hb hr rfl hlocks dX8_diary_41 (Nat.le_of_ble_eq_true rfl) (Nat.le_of_ble_eq_true rfl) hP hS
  have Hf := c_i_f Hf hc
  refine lv_iload hx hb dX8_diary_18 (lv_at hl 4 rfl) ?_
  refine lv_iconst (v := 0) hx hb dX8_diary_20 (by decide) ?_
  refine lv_iconst (v := 2) hx hb dX8_diary_21 (by decide) ?_
  obtain ⟨r22, T22, hq22, Hf⟩ := c_c_some Hf
  refine r_cS (n := 3) (As := [.int x4, .int 0, .int 2]) (rest := []) ⟨hx, hb, hml, hown, hts⟩ (s_X8_isWithin l X hq22) lkm_X8_69 (by decide +kernel) dX8_diary_22 rfl rfl ⟨Nat.le_of_ble_eq_true rfl, Nat.le_of_ble_eq_true rfl⟩ rfl hl.1 (Nat.le_of_ble_eq_true rfl) ⟨Nat.le_of_ble_eq_true rfl, Nat.le_of_ble_eq_true rfl⟩ hK hRO hA hP hS (fun H locs hP hS => ?_)
  refine W.eq (g2 := F0 m 25 ls [.int r22]) rfl ?_
  refine lv_if_eq hx hb dX8_diary_25 (tgt := 40) (by decide) (fun hc => ?_) (fun hc => ?_)
  · have Hf := c_i_t Hf hc
    refine lv_iconst (v := (-1)) hx hb dX8_diary_40 (by decide) ?_
    cases Hf
    exact r_iret hx hb hr rfl hlocks dX8_diary_41 (Nat.le_of_ble_eq_true rfl) (Nat.le_of_ble_eq_true rfl) hP hS
  have Hf := c_i_f Hf hc
  refine lv_aload_n hx hb dX8_diary_28 rfl (lv_at hl 0 rfl) ?_
  obtain ⟨hk_a0, Hf⟩ := c_g_some Hf
  obtain ⟨q29, hq29, Hf⟩ := c_n_some Hf
  refine fg_9_1 hx hb hts hown hK hP hk_a0 lkf_X8_19 hq29 dX8_diary_29 ?_
  obtain ⟨hk_q29, Hf⟩ := c_g_some Hf
  obtain ⟨r32, T32, hq32, Hf⟩ := c_c_some Hf
  refine r_cV (n := 0) (As := []) (rest := []) ⟨hx, hb, hml, hown, hts⟩ (s_Jx4a65c_size_8abf5 l X hq32) lkm_X8_81 (by decide +kernel) rfl (by decide) dX8_diary_32 rfl rfl ⟨Nat.le_of_ble_eq_true rfl, Nat.le_of_ble_eq_true rfl⟩ hk_q29 rfl hl.1 (Nat.le_of_ble_eq_true rfl) ⟨Nat.le_of_ble_eq_true rfl, Nat.le_of_ble_eq_true rfl⟩ hK hRO hA hP hS (fun H locs hP hS => ?_)
  refine W.eq (g2 := F0 m 35 ls [.int r32]) rfl ?_
  refine lv_bipush (v := 40) hx hb dX8_diary_35 (by decide) ?_
  refine lv_icmp_lt hx hb dX8_diary_37 (tgt := 42) (by decide) (fun hc => ?_) (fun hc => ?_)
  · have Hf := c_i_t Hf hc
    refine lv_iconst (v := 0) hx hb dX8_diary_42 (by decide) ?_
    refine lv_istore (lv' := [(5, .int 0), (0, .ref a0), (1, .int x1), (2, .int x2), (3, .int x3), (4, .int x4)]) hx hb dX8_diary_43 hl (by decide) rfl (fun ls hl => ?_)
    refine (c_w_ind (P := fun (q : st_T × Int32) => ∀ (H : Heap) (locs : List Loc) (ls : Array Slot), st_HP X (st_A S) q.1 H → va_S (st_A S) s.heap H locs → lv_has ls 7 [(0, .ref a0), (1, .int x1), (2, .int x2), (3, .int x3), (4, .int x4), (5, .int q.2)] → W p l e { frames := 7, cells := 3, slots := 74, locals := 227 } s m args below meth c H locs 0 0 (MQ below (st_Q X (st_A S) (some (.int rr)) SE) args s 3 74 (st_A S)) (F0 m 45 ls [])) ?_ _ _ Hf) _ _ _ hP hS (lv_sub hl [1, 2, 3, 4, 5, 0] rfl)
    intro rec45 hrec45 q Hf H locs ls hP hS hl
    obtain ⟨S45, y5_45⟩ := q
    unfold b_X8_diary_45 at Hf
    try dsimp only at Hf
    try dsimp only at hP
    try dsimp only at hl
    try dsimp only
    refine lv_iload hx hb dX8_diary_45 (lv_at hl 5 rfl) ?_
    refine lv_aload_n hx hb dX8_diary_47 rfl (lv_at hl 0 rfl) ?_
    obtain ⟨hk_a0, Hf⟩ := c_g_some Hf
    obtain ⟨q48, hq48, Hf⟩ := c_n_some Hf
    refine fg_9_1 hx hb hts hown hK hP hk_a0 lkf_X8_19 hq48 dX8_diary_48 ?_
    obtain ⟨hk_q48, Hf⟩ := c_g_some Hf
    obtain ⟨r51, T51, hq51, Hf⟩ := c_c_some Hf
    refine r_cV (n := 0) (As := []) (rest := [.int y5_45]) ⟨hx, hb, hml, hown, hts⟩ (s_Jx4a65c_size_8abf5 l X hq51) lkm_X8_81 (by decide +kernel) rfl (by decide) dX8_diary_51 rfl rfl ⟨Nat.le_of_ble_eq_true rfl, Nat.le_of_ble_eq_true rfl⟩ hk_q48 rfl hl.1 (Nat.le_of_ble_eq_true rfl) ⟨Nat.le_of_ble_eq_true rfl, Nat.le_of_ble_eq_true rfl⟩ hK hRO hA hP hS (fun H locs hP hS => ?_)
    refine W.eq (g2 := F0 m 54 ls [.int r51, .int y5_45]) rfl ?_
    refine lv_icmp_ge hx hb dX8_diary_54 (tgt := 98) (by decide) (fun hc => ?_) (fun hc => ?_)
    · have Hf := c_i_t Hf hc
      refine lv_aload_n hx hb dX8_diary_98 rfl (lv_at hl 0 rfl) ?_
      obtain ⟨hk_a0, Hf⟩ := c_g_some Hf
      obtain ⟨q99, hq99, Hf⟩ := c_n_some Hf
      refine fg_9_1 hx hb hts hown hK hP hk_a0 lkf_X8_19 hq99 dX8_diary_99 ?_
      obtain ⟨n102, en102, Hf⟩ := c_l_ex Hf
      obtain ⟨S_102, eS_102, Hf⟩ := c_l_ex Hf
      refine r_new (T := TX1) (ci := 2) hx hb hts in_2 rfl rfl (by decide) tyX1_ok df_2 (lg_1 341 rfl rfl) (lg_1 346 rfl rfl) (lg_1 78 rfl rfl) hown hK hA hP hS en102 eS_102 (Nat.le_of_ble_eq_true rfl) (Nat.le_of_ble_eq_true rfl) dX8_diary_102 (fun H hP hS => ?_)
      refine W.eq (g2 := F0 m 105 ls [.ref n102, .ref q99]) rfl ?_
      refine lv_dup hx hb dX8_diary_105 rfl ?_
      refine lv_iload_n hx hb dX8_diary_106 rfl (lv_at hl 1 rfl) ?_
      refine lv_iload_n hx hb dX8_diary_107 rfl (lv_at hl 2 rfl) ?_
      refine lv_iload_n hx hb dX8_diary_108 rfl (lv_at hl 3 rfl) ?_
      refine lv_iload hx hb dX8_diary_109 (lv_at hl 4 rfl) ?_
      obtain ⟨r111, T111, hq111, Hf⟩ := c_c_some Hf
      refine r_cI (n := 4) (As := [.int x1, .int x2, .int x3, .int x4]) (rest := [.ref n102, .ref q99]) ⟨hx, hb, hml, hown, hts⟩ (s_X1_init l X hq111) (lg_ps _ [347, 348, 78, 349] rfl (by decide +kernel)) (by decide +kernel) dX8_diary_111 rfl rfl ⟨(Nat.le_of_ble_eq_true rfl), (Nat.le_of_ble_eq_true rfl)⟩ rfl hl.1 (Nat.le_of_ble_eq_true rfl) ⟨(Nat.le_of_ble_eq_true rfl), (Nat.le_of_ble_eq_true rfl)⟩ hK hRO hA hP hS (fun H locs hP hS => ?_)
      refine W.eq (g2 := F0 m 114 ls [.ref n102, .ref q99]) rfl ?_
      obtain ⟨hk_q99, Hf⟩ := c_g_some Hf
      obtain ⟨r114, T114, hq114, Hf⟩ := c_c_some Hf
      refine r_cV (n := 1) (As := [.ref n102]) (rest := []) ⟨hx, hb, hml, hown, hts⟩ (s_Jx4a65c_add_9ea2d l X hq114) lkm_X8_100 (by decide +kernel) rfl (by decide) dX8_diary_114 rfl rfl ⟨Nat.le_of_ble_eq_true rfl, Nat.le_of_ble_eq_true rfl⟩ hk_q99 rfl hl.1 (Nat.le_of_ble_eq_true rfl) ⟨Nat.le_of_ble_eq_true rfl, Nat.le_of_ble_eq_true rfl⟩ hK hRO hA hP hS (fun H locs hP hS => ?_)
      refine W.eq (g2 := F0 m 117 ls [.int r114]) rfl ?_
      refine lv_pop hx hb dX8_diary_117 rfl ?_
      refine lv_aload_n hx hb dX8_diary_118 rfl (lv_at hl 0 rfl) ?_
      obtain ⟨hk_a0, Hf⟩ := c_g_some Hf
      obtain ⟨q119, hq119, Hf⟩ := c_n_some Hf
      refine fg_9_1 hx hb hts hown hK hP hk_a0 lkf_X8_19 hq119 dX8_diary_119 ?_
      obtain ⟨hk_q119, Hf⟩ := c_g_some Hf
      obtain ⟨r122, T122, hq122, Hf⟩ := c_c_some Hf
      refine r_cV (n := 0) (As := []) (rest := []) ⟨hx, hb, hml, hown, hts⟩ (s_Jx4a65c_size_8abf5 l X hq122) lkm_X8_81 (by decide +kernel) rfl (by decide) dX8_diary_122 rfl rfl ⟨Nat.le_of_ble_eq_true rfl, Nat.le_of_ble_eq_true rfl⟩ hk_q119 rfl hl.1 (Nat.le_of_ble_eq_true rfl) ⟨Nat.le_of_ble_eq_true rfl, Nat.le_of_ble_eq_true rfl⟩ hK hRO hA hP hS (fun H locs hP hS => ?_)
      refine W.eq (g2 := F0 m 125 ls [.int r122]) rfl ?_
      refine lv_iconst (v := 1) hx hb dX8_diary_125 (by decide) ?_
      refine lv_isub hx hb dX8_diary_126 ?_
      cases Hf
      exact r_iret hx hb hr rfl hlocks dX8_diary_127 (Nat.le_of_ble_eq_true rfl) (Nat.le_of_ble_eq_true rfl) hP hS
    have Hf := c_i_f Hf hc
    refine lv_aload_n hx hb dX8_diary_57 rfl (lv_at hl 0 rfl) ?_
    obtain ⟨hk_a0, Hf⟩ := c_g_some Hf
    obtain ⟨q58, hq58, Hf⟩ := c_n_some Hf
    refine fg_9_1 hx hb hts hown hK hP hk_a0 lkf_X8_19 hq58 dX8_diary_58 ?_
    refine lv_iload hx hb dX8_diary_61 (lv_at hl 5 rfl) ?_
    obtain ⟨hk_q58, Hf⟩ := c_g_some Hf
    obtain ⟨r63, T63, hq63, Hf⟩ := c_c_some Hf
    refine r_cV (n := 1) (As := [.int y5_45]) (rest := []) ⟨hx, hb, hml, hown, hts⟩ (s_Jx4a65c_get_915e3 l X hq63) lkm_X8_85 (by decide +kernel) rfl (by decide) dX8_diary_63 rfl rfl ⟨Nat.le_of_ble_eq_true rfl, Nat.le_of_ble_eq_true rfl⟩ hk_q58 rfl hl.1 (Nat.le_of_ble_eq_true rfl) ⟨Nat.le_of_ble_eq_true rfl, Nat.le_of_ble_eq_true rfl⟩ hK hRO hA hP hS (fun H locs hP hS => ?_)
    obtain ⟨p63, ep63, Hf⟩ := c_n_some Hf
    subst ep63
    refine W.eq (g2 := F0 m 66 ls [.ref p63]) rfl ?_
    obtain ⟨hk_p63, Hf⟩ := c_g_some Hf
    refine va_castE hx hb hown (hts _ (lg_1 341 rfl rfl)) (st_recv hK hP hk_p63 (by decide) rfl) dX8_diary_66 ?_
    refine lv_astore (lv' := [(6, .ref p63), (0, .ref a0), (1, .int x1), (2, .int x2), (3, .int x3), (4, .int x4), (5, .int y5_45)]) hx hb dX8_diary_69 hl (by decide) rfl (fun ls hl => ?_)
    refine lv_aload hx hb dX8_diary_71 (lv_at hl 0 rfl) ?_
    refine lv_iload_n hx hb dX8_diary_73 rfl (lv_at hl 2 rfl) ?_
    refine lv_iload_n hx hb dX8_diary_74 rfl (lv_at hl 4 rfl) ?_
    obtain ⟨r75, T75, hq75, Hf⟩ := c_c_some Hf
    refine r_cV (n := 2) (As := [.int x1, .int x3]) (rest := []) ⟨hx, hb, hml, hown, hts⟩ (s_X1_isOf l X hq75) lkm_X8_91 (by decide +kernel) rfl (by decide) dX8_diary_75 rfl rfl ⟨Nat.le_of_ble_eq_true rfl, Nat.le_of_ble_eq_true rfl⟩ hk_p63 rfl hl.1 (Nat.le_of_ble_eq_true rfl) ⟨Nat.le_of_ble_eq_true rfl, Nat.le_of_ble_eq_true rfl⟩ hK hRO hA hP hS (fun H locs hP hS => ?_)
    refine W.eq (g2 := F0 m 78 ls [.int r75]) rfl ?_
    have hJ92 : ∀ (S92 : st_T), j_X8_diary_92 rec45 y5_45 S92 = some (rr, SE) → ∀ (H : Heap) (locs : List Loc) (ls : Array Slot), st_HP X (st_A S) S92 H → va_S (st_A S) s.heap H locs → lv_has ls 7 [(0, .ref a0), (1, .int x1), (2, .int x2), (3, .int x3), (4, .int x4), (5, .int y5_45)] → W p l e { frames := 7, cells := 3, slots := 74, locals := 227 } s m args below meth c H locs 0 0 (MQ below (st_Q X (st_A S) (some (.int rr)) SE) args s 3 74 (st_A S)) (F0 m 92 ls []) := by
      intro S92 Hf H locs ls hP hS hl
      unfold j_X8_diary_92 at Hf
      refine lv_iinc (v := (y5_45 + 1)) (lv' := [(5, .int (y5_45 + 1)), (0, .ref a0), (1, .int x1), (2, .int x2), (3, .int x3), (4, .int x4)]) hx hb dX8_diary_92 hl (k := 5) rfl rfl (by decide) rfl (fun ls hl => ?_)
      refine lv_goto hx hb dX8_diary_95 (tgt := 45) (by decide) ?_
      exact hrec45 (S92, (y5_45 + 1)) Hf _ _ _ hP hS (lv_sub hl [1, 2, 3, 4, 5, 0] rfl)
    refine lv_if_eq hx hb dX8_diary_78 (tgt := 92) (by decide) (fun hc => ?_) (fun hc => ?_)
    · have Hf := c_i_t Hf hc
      exact hJ92 T75 Hf _ _ _ hP hS (lv_sub hl [1, 2, 3, 4, 5, 6] rfl)
    have Hf := c_i_f Hf hc
    refine lv_aload hx hb dX8_diary_81 (lv_at hl 0 rfl) ?_
    obtain ⟨hk_p63, Hf⟩ := c_g_some Hf
    refine fg_2_1 hx hb hts hown hK hP hk_p63 lkf_X8_94 dX8_diary_83 ?_
    refine lv_iload_n hx hb dX8_diary_86 rfl (lv_at hl 3 rfl) ?_
    refine lv_icmp_ne hx hb dX8_diary_87 (tgt := 92) (by decide) (fun hc => ?_) (fun hc => ?_)
    · have Hf := c_i_f Hf hc
      exact hJ92 T75 Hf _ _ _ hP hS (lv_sub hl [1, 2, 3, 4, 5, 6] rfl)
    have Hf := c_i_t Hf hc
    refine lv_iconst (v := (-1)) hx hb dX8_diary_90 (by decide) ?_
    cases Hf
    exact r_iret hx hb hr rfl hlocks dX8_diary_91 (Nat.le_of_ble_eq_true rfl) (Nat.le_of_ble_eq_true rfl) hP hS
  have Hf := c_i_f Hf hc
  refine lv_iconst (v := (-1)) hx hb dX8_diary_40 (by decide) ?_
  cases Hf
  exact r_iret hx hb hr rfl hlocks dX8_diary_41 (Nat.le_of_ble_eq_true rfl) (Nat.le_of_ble_eq_true rfl) hP hS

set_option maxRecDepth 100000 in
def f_X8_line (S : st_T) (a0 : Nat) (x1 : Int32) (x2 : Int32) (x3 : Int32) (x4 : Int32) (x5 : Int32) (x6 : Int32) (x7 : Int32) : Option (Int32 × st_T) :=
  (c_g (st_K S a0 = 10) (c_c (f_X8_find S a0 x1) (fun (r2 : Option Nat) (T2 : st_T) => (c_o r2 (some ((-1), T2)) (fun (p2 : Nat) => (c_g (st_K T2 p2 = 3) (c_n (st_fr T2 204 p2) (fun (q14 : Nat) => (c_g (st_K T2 q14 = 1) (c_c (f_Jx4a65c_size_8abf5 T2 q14) (fun (r17 : Int32) (T17 : st_T) => (c_i (r17 < 24) (c_c (f_X8_isWithin T17 x2 0 143) (fun (r32 : Int32) (T32 : st_T) => (c_i (r32 = 0) (some ((-1), T32)) (c_c (f_X8_isWithin T32 x3 x2 143) (fun (r43 : Int32) (T43 : st_T) => (c_i (r43 = 0) (some ((-1), T43)) (c_c (f_X8_isWithin T43 x4 1 200) (fun (r55 : Int32) (T55 : st_T) => (c_i (r55 = 0) (some ((-1), T55)) (c_c (f_X8_isWithin T55 x5 0 200) (fun (r67 : Int32) (T67 : st_T) => (c_i (r67 = 0) (some ((-1), T67)) (c_c (f_X8_isWithin T67 x6 0 9) (fun (r78 : Int32) (T78 : st_T) => (c_i (r78 = 0) (some ((-1), T78)) (c_c (f_X8_isWithin T78 x7 0 255) (fun (r90 : Int32) (T90 : st_T) => (c_i (r90 = 0) (some ((-1), T90)) (c_g (st_K T90 p2 = 3) (c_c (f_X8_holds T90 x7 (st_fi T90 201 p2)) (fun (r103 : Int32) (T103 : st_T) => (c_i (r103 = 0) (c_l (st_nx T103) (fun (n113 : Nat) => (c_l (st_no T103 3) (fun (S_113 : st_T) => (c_c (f_X2_init S_113 n113 x2 x3 x4 x5 x6 x7) (fun (r127 : Unit) (T127 : st_T) => (c_g (st_K T127 p2 = 3) (c_c (f_X1_insert T127 p2 n113) (fun (r130 : Int32) (T130 : st_T) => (c_i (r130 = 0) (some ((-1), T130)) (c_g (st_K T130 p2 = 3) (c_n (st_fr T130 204 p2) (fun (q140 : Nat) => (c_g (st_K T130 q140 = 1) (c_c (f_Jx4a65c_size_8abf5 T130 q140) (fun (r143 : Int32) (T143 : st_T) => (some (r143, T143)))))))))))))))))) (some ((-1), T103)))))))))))))))))))))))) (some ((-1), T17))))))))))))))
set_option maxRecDepth 100000 in
set_option maxHeartbeats 4000000 in
theorem s_X8_line (l : Launch) (X : st_I) {S SE : st_T} {a0 : Nat} {x1 : Int32} {x2 : Int32} {x3 : Int32} {x4 : Int32} {x5 : Int32} {x6 : Int32} {x7 : Int32} {rr : Int32} (Hf : f_X8_line S a0 x1 x2 x3 x4 x5 x6 x7 = some (rr, SE)) : Met l yX8_line (Cond.code yX8_line cX8_line 9 (some .int) :: lw_g) { frames := 7, cells := 2, slots := 73, locals := 231 } (st_P X S [.ref a0, .int x1, .int x2, .int x3, .int x4, .int x5, .int x6, .int x7]) (st_Q X (st_A S) (some (.int rr)) SE) 2 73 (st_A S) := by
  refine st_ofW (by decide) (Nat.le_of_ble_eq_true rfl) ?_
  intro p e s m args below meth c hx hb hr hml hlocks hnm hts hown hK hRO hA hP hS ls hl
  have hown : s.vm.findClass RX8 = some m.cls := hown
  have hl : lv_has ls 9 [(0, .ref a0), (1, .int x1), (2, .int x2), (3, .int x3), (4, .int x4), (5, .int x5), (6, .int x6), (7, .int x7)] := hl
  unfold f_X8_line at Hf
  refine lv_aload_n hx hb dX8_line_0 rfl (lv_at hl 0 rfl) ?_
  refine lv_iload_n hx hb dX8_line_1 rfl (lv_at hl 1 rfl) ?_
  obtain ⟨hk_a0, Hf⟩ := c_g_some Hf
  obtain ⟨r2, T2, hq2, Hf⟩ := c_c_some Hf
  refine r_cV (n := 1) (As := [.int x1]) (rest := []) ⟨hx, hb, hml, hown, hts⟩ (s_X8_find l X hq2) lkm_X8_104 (by decide +kernel) rfl (by decide) dX8_line_2 rfl rfl ⟨Nat.le_of_ble_eq_true rfl, Nat.le_of_ble_eq_true rfl⟩ hk_a0 rfl hl.1 (Nat.le_of_ble_eq_true rfl) ⟨Nat.le_of_ble_eq_true rfl, Nat.le_of_ble_eq_true rfl⟩ hK hRO hA hP hS (fun H locs hP hS => ?_)
  rcases r2 with _ | p2
  · have Hf := c_o_n Hf
    refine W.eq (g2 := F0 m 5 ls [.null]) rfl ?_
    refine lv_astoreN (lv' := [(8, .null), (0, .ref a0), (1, .int x1), (2, .int x2), (3, .int x3), (4, .int x4), (5, .int x5), (6, .int x6), (7, .int x7)]) hx hb dX8_line_5 hl (by decide) rfl (fun ls hl => ?_)
    refine lv_aloadN hx hb dX8_line_7 (lv_at hl 0 rfl) ?_
    refine lv_ifnullN hx hb dX8_line_9 (tgt := 25) (by decide) ?_
    refine lv_iconst (v := (-1)) hx hb dX8_line_25 (by decide) ?_
    cases Hf
    exact r_iret hx hb hr rfl hlocks dX8_line_26 (Nat.le_of_ble_eq_true rfl) (Nat.le_of_ble_eq_true rfl) hP hS
  have Hf := c_o_s Hf
  refine W.eq (g2 := F0 m 5 ls [.ref p2]) rfl ?_
  refine lv_astore (lv' := [(8, .ref p2), (0, .ref a0), (1, .int x1), (2, .int x2), (3, .int x3), (4, .int x4), (5, .int x5), (6, .int x6), (7, .int x7)]) hx hb dX8_line_5 hl (by decide) rfl (fun ls hl => ?_)
  refine lv_aload hx hb dX8_line_7 (lv_at hl 0 rfl) ?_
  refine lv_ifnull hx hb dX8_line_9 ?_
  refine lv_aload hx hb dX8_line_12 (lv_at hl 0 rfl) ?_
  obtain ⟨hk_p2, Hf⟩ := c_g_some Hf
  obtain ⟨q14, hq14, Hf⟩ := c_n_some Hf
  refine fg_2_4 hx hb hts hown hK hP hk_p2 lkf_X8_108 hq14 dX8_line_14 ?_
  obtain ⟨hk_q14, Hf⟩ := c_g_some Hf
  obtain ⟨r17, T17, hq17, Hf⟩ := c_c_some Hf
  refine r_cV (n := 0) (As := []) (rest := []) ⟨hx, hb, hml, hown, hts⟩ (s_Jx4a65c_size_8abf5 l X hq17) lkm_X8_81 (by decide +kernel) rfl (by decide) dX8_line_17 rfl rfl ⟨Nat.le_of_ble_eq_true rfl, Nat.le_of_ble_eq_true rfl⟩ hk_q14 rfl hl.1 (Nat.le_of_ble_eq_true rfl) ⟨Nat.le_of_ble_eq_true rfl, Nat.le_of_ble_eq_true rfl⟩ hK hRO hA hP hS (fun H locs hP hS => ?_)
  refine W.eq (g2 := F0 m 20 ls [.int r17]) rfl ?_
  refine lv_bipush (v := 24) hx hb dX8_line_20 (by decide) ?_
  refine lv_icmp_lt hx hb dX8_line_22 (tgt := 27) (by decide) (fun hc => ?_) (fun hc => ?_)
  · have Hf := c_i_t Hf hc
    refine lv_iload_n hx hb dX8_line_27 rfl (lv_at hl 3 rfl) ?_
    refine lv_iconst (v := 0) hx hb dX8_line_28 (by decide) ?_
    refine lv_sipush (v := 143) hx hb dX8_line_29 (by decide) ?_
    obtain ⟨r32, T32, hq32, Hf⟩ := c_c_some Hf
    refine r_cS (n := 3) (As := [.int x2, .int 0, .int 143]) (rest := []) ⟨hx, hb, hml, hown, hts⟩ (s_X8_isWithin l X hq32) lkm_X8_69 (by decide +kernel) dX8_line_32 rfl rfl ⟨Nat.le_of_ble_eq_true rfl, Nat.le_of_ble_eq_true rfl⟩ rfl hl.1 (Nat.le_of_ble_eq_true rfl) ⟨Nat.le_of_ble_eq_true rfl, Nat.le_of_ble_eq_true rfl⟩ hK hRO hA hP hS (fun H locs hP hS => ?_)
    refine W.eq (g2 := F0 m 35 ls [.int r32]) rfl ?_
    refine lv_if_eq hx hb dX8_line_35 (tgt := 109) (by decide) (fun hc => ?_) (fun hc => ?_)
    · have Hf := c_i_t Hf hc
      refine lv_iconst (v := (-1)) hx hb dX8_line_109 (by decide) ?_
      cases Hf
      exact r_iret hx hb hr rfl hlocks dX8_line_110 (Nat.le_of_ble_eq_true rfl) (Nat.le_of_ble_eq_true rfl) hP hS
    have Hf := c_i_f Hf hc
    refine lv_iload_n hx hb dX8_line_38 rfl (lv_at hl 4 rfl) ?_
    refine lv_iload_n hx hb dX8_line_39 rfl (lv_at hl 3 rfl) ?_
    refine lv_sipush (v := 143) hx hb dX8_line_40 (by decide) ?_
    obtain ⟨r43, T43, hq43, Hf⟩ := c_c_some Hf
    refine r_cS (n := 3) (As := [.int x3, .int x2, .int 143]) (rest := []) ⟨hx, hb, hml, hown, hts⟩ (s_X8_isWithin l X hq43) lkm_X8_69 (by decide +kernel) dX8_line_43 rfl rfl ⟨Nat.le_of_ble_eq_true rfl, Nat.le_of_ble_eq_true rfl⟩ rfl hl.1 (Nat.le_of_ble_eq_true rfl) ⟨Nat.le_of_ble_eq_true rfl, Nat.le_of_ble_eq_true rfl⟩ hK hRO hA hP hS (fun H locs hP hS => ?_)
    refine W.eq (g2 := F0 m 46 ls [.int r43]) rfl ?_
    refine lv_if_eq hx hb dX8_line_46 (tgt := 109) (by decide) (fun hc => ?_) (fun hc => ?_)
    · have Hf := c_i_t Hf hc
      refine lv_iconst (v := (-1)) hx hb dX8_line_109 (by decide) ?_
      cases Hf
      exact r_iret hx hb hr rfl hlocks dX8_line_110 (Nat.le_of_ble_eq_true rfl) (Nat.le_of_ble_eq_true rfl) hP hS
    have Hf := c_i_f Hf hc
    refine lv_iload hx hb dX8_line_49 (lv_at hl 5 rfl) ?_
    refine lv_iconst (v := 1) hx hb dX8_line_51 (by decide) ?_
    refine lv_sipush (v := 200) hx hb dX8_line_52 (by decide) ?_
    obtain ⟨r55, T55, hq55, Hf⟩ := c_c_some Hf
    refine r_cS (n := 3) (As := [.int x4, .int 1, .int 200]) (rest := []) ⟨hx, hb, hml, hown, hts⟩ (s_X8_isWithin l X hq55) lkm_X8_69 (by decide +kernel) dX8_line_55 rfl rfl ⟨Nat.le_of_ble_eq_true rfl, Nat.le_of_ble_eq_true rfl⟩ rfl hl.1 (Nat.le_of_ble_eq_true rfl) ⟨Nat.le_of_ble_eq_true rfl, Nat.le_of_ble_eq_true rfl⟩ hK hRO hA hP hS (fun H locs hP hS => ?_)
    refine W.eq (g2 := F0 m 58 ls [.int r55]) rfl ?_
    refine lv_if_eq hx hb dX8_line_58 (tgt := 109) (by decide) (fun hc => ?_) (fun hc => ?_)
    · have Hf := c_i_t Hf hc
      refine lv_iconst (v := (-1)) hx hb dX8_line_109 (by decide) ?_
      cases Hf
      exact r_iret hx hb hr rfl hlocks dX8_line_110 (Nat.le_of_ble_eq_true rfl) (Nat.le_of_ble_eq_true rfl) hP hS
    have Hf := c_i_f Hf hc
    refine lv_iload hx hb dX8_line_61 (lv_at hl 6 rfl) ?_
    refine lv_iconst (v := 0) hx hb dX8_line_63 (by decide) ?_
    refine lv_sipush (v := 200) hx hb dX8_line_64 (by decide) ?_
    obtain ⟨r67, T67, hq67, Hf⟩ := c_c_some Hf
    refine r_cS (n := 3) (As := [.int x5, .int 0, .int 200]) (rest := []) ⟨hx, hb, hml, hown, hts⟩ (s_X8_isWithin l X hq67) lkm_X8_69 (by decide +kernel) dX8_line_67 rfl rfl ⟨Nat.le_of_ble_eq_true rfl, Nat.le_of_ble_eq_true rfl⟩ rfl hl.1 (Nat.le_of_ble_eq_true rfl) ⟨Nat.le_of_ble_eq_true rfl, Nat.le_of_ble_eq_true rfl⟩ hK hRO hA hP hS (fun H locs hP hS => ?_)
    refine W.eq (g2 := F0 m 70 ls [.int r67]) rfl ?_
    refine lv_if_eq hx hb dX8_line_70 (tgt := 109) (by decide) (fun hc => ?_) (fun hc => ?_)
    · have Hf := c_i_t Hf hc
      refine lv_iconst (v := (-1)) hx hb dX8_line_109 (by decide) ?_
      cases Hf
      exact r_iret hx hb hr rfl hlocks dX8_line_110 (Nat.le_of_ble_eq_true rfl) (Nat.le_of_ble_eq_true rfl) hP hS
    have Hf := c_i_f Hf hc
    refine lv_iload hx hb dX8_line_73 (lv_at hl 7 rfl) ?_
    refine lv_iconst (v := 0) hx hb dX8_line_75 (by decide) ?_
    refine lv_bipush (v := 9) hx hb dX8_line_76 (by decide) ?_
    obtain ⟨r78, T78, hq78, Hf⟩ := c_c_some Hf
    refine r_cS (n := 3) (As := [.int x6, .int 0, .int 9]) (rest := []) ⟨hx, hb, hml, hown, hts⟩ (s_X8_isWithin l X hq78) lkm_X8_69 (by decide +kernel) dX8_line_78 rfl rfl ⟨Nat.le_of_ble_eq_true rfl, Nat.le_of_ble_eq_true rfl⟩ rfl hl.1 (Nat.le_of_ble_eq_true rfl) ⟨Nat.le_of_ble_eq_true rfl, Nat.le_of_ble_eq_true rfl⟩ hK hRO hA hP hS (fun H locs hP hS => ?_)
    refine W.eq (g2 := F0 m 81 ls [.int r78]) rfl ?_
    refine lv_if_eq hx hb dX8_line_81 (tgt := 109) (by decide) (fun hc => ?_) (fun hc => ?_)
    · have Hf := c_i_t Hf hc
      refine lv_iconst (v := (-1)) hx hb dX8_line_109 (by decide) ?_
      cases Hf
      exact r_iret hx hb hr rfl hlocks dX8_line_110 (Nat.le_of_ble_eq_true rfl) (Nat.le_of_ble_eq_true rfl) hP hS
    have Hf := c_i_f Hf hc
    refine lv_iload hx hb dX8_line_84 (lv_at hl 8 rfl) ?_
    refine lv_iconst (v := 0) hx hb dX8_line_86 (by decide) ?_
    refine lv_sipush (v := 255) hx hb dX8_line_87 (by decide) ?_
    obtain ⟨r90, T90, hq90, Hf⟩ := c_c_some Hf
    refine r_cS (n := 3) (As := [.int x7, .int 0, .int 255]) (rest := []) ⟨hx, hb, hml, hown, hts⟩ (s_X8_isWithin l X hq90) lkm_X8_69 (by decide +kernel) dX8_line_90 rfl rfl ⟨Nat.le_of_ble_eq_true rfl, Nat.le_of_ble_eq_true rfl⟩ rfl hl.1 (Nat.le_of_ble_eq_true rfl) ⟨Nat.le_of_ble_eq_true rfl, Nat.le_of_ble_eq_true rfl⟩ hK hRO hA hP hS (fun H locs hP hS => ?_)
    refine W.eq (g2 := F0 m 93 ls [.int r90]) rfl ?_
    refine lv_if_eq hx hb dX8_line_93 (tgt := 109) (by decide) (fun hc => ?_) (fun hc => ?_)
    · have Hf := c_i_t Hf hc
      refine lv_iconst (v := (-1)) hx hb dX8_line_109 (by decide) ?_
      cases Hf
      exact r_iret hx hb hr rfl hlocks dX8_line_110 (Nat.le_of_ble_eq_true rfl) (Nat.le_of_ble_eq_true rfl) hP hS
    have Hf := c_i_f Hf hc
    refine lv_iload hx hb dX8_line_96 (lv_at hl 8 rfl) ?_
    refine lv_aload hx hb dX8_line_98 (lv_at hl 0 rfl) ?_
    obtain ⟨hk_p2, Hf⟩ := c_g_some Hf
    refine fg_2_1 hx hb hts hown hK hP hk_p2 lkf_X8_94 dX8_line_100 ?_
    obtain ⟨r103, T103, hq103, Hf⟩ := c_c_some Hf
    refine r_cS (n := 2) (As := [.int x7, .int (st_fi T90 201 p2)]) (rest := []) ⟨hx, hb, hml, hown, hts⟩ (s_X8_holds l X hq103) lkm_X8_111 (by decide +kernel) dX8_line_103 rfl rfl ⟨Nat.le_of_ble_eq_true rfl, Nat.le_of_ble_eq_true rfl⟩ rfl hl.1 (Nat.le_of_ble_eq_true rfl) ⟨Nat.le_of_ble_eq_true rfl, Nat.le_of_ble_eq_true rfl⟩ hK hRO hA hP hS (fun H locs hP hS => ?_)
    refine W.eq (g2 := F0 m 106 ls [.int r103]) rfl ?_
    refine lv_if_eq hx hb dX8_line_106 (tgt := 111) (by decide) (fun hc => ?_) (fun hc => ?_)
    · have Hf := c_i_t Hf hc
      refine lv_aload hx hb dX8_line_111 (lv_at hl 0 rfl) ?_
      obtain ⟨n113, en113, Hf⟩ := c_l_ex Hf
      obtain ⟨S_113, eS_113, Hf⟩ := c_l_ex Hf
      refine r_new (T := TX2) (ci := 3) hx hb hts in_3 rfl rfl (by decide) tyX2_ok df_3 (lg_1 456 rfl rfl) (lg_1 457 rfl rfl) (lg_1 83 rfl rfl) hown hK hA hP hS en113 eS_113 (Nat.le_of_ble_eq_true rfl) (Nat.le_of_ble_eq_true rfl) dX8_line_113 (fun H hP hS => ?_)
      refine W.eq (g2 := F0 m 116 ls [.ref n113, .ref p2]) rfl ?_
      refine lv_dup hx hb dX8_line_116 rfl ?_
      refine lv_iload_n hx hb dX8_line_117 rfl (lv_at hl 3 rfl) ?_
      refine lv_iload_n hx hb dX8_line_118 rfl (lv_at hl 4 rfl) ?_
      refine lv_iload hx hb dX8_line_119 (lv_at hl 5 rfl) ?_
      refine lv_iload hx hb dX8_line_121 (lv_at hl 6 rfl) ?_
      refine lv_iload hx hb dX8_line_123 (lv_at hl 7 rfl) ?_
      refine lv_iload hx hb dX8_line_125 (lv_at hl 8 rfl) ?_
      obtain ⟨r127, T127, hq127, Hf⟩ := c_c_some Hf
      refine r_cI (n := 6) (As := [.int x2, .int x3, .int x4, .int x5, .int x6, .int x7]) (rest := [.ref n113, .ref p2]) ⟨hx, hb, hml, hown, hts⟩ (s_X2_init l X hq127) (lg_ps _ [458, 459, 83, 460] rfl (by decide +kernel)) (by decide +kernel) dX8_line_127 rfl rfl ⟨(Nat.le_of_ble_eq_true rfl), (Nat.le_of_ble_eq_true rfl)⟩ rfl hl.1 (Nat.le_of_ble_eq_true rfl) ⟨(Nat.le_of_ble_eq_true rfl), (Nat.le_of_ble_eq_true rfl)⟩ hK hRO hA hP hS (fun H locs hP hS => ?_)
      refine W.eq (g2 := F0 m 130 ls [.ref n113, .ref p2]) rfl ?_
      obtain ⟨hk_p2, Hf⟩ := c_g_some Hf
      obtain ⟨r130, T130, hq130, Hf⟩ := c_c_some Hf
      refine r_cV (n := 1) (As := [.ref n113]) (rest := []) ⟨hx, hb, hml, hown, hts⟩ (s_X1_insert l X hq130) lkm_X8_119 (by decide +kernel) rfl (by decide) dX8_line_130 rfl rfl ⟨Nat.le_of_ble_eq_true rfl, Nat.le_of_ble_eq_true rfl⟩ hk_p2 rfl hl.1 (Nat.le_of_ble_eq_true rfl) ⟨Nat.le_of_ble_eq_true rfl, Nat.le_of_ble_eq_true rfl⟩ hK hRO hA hP hS (fun H locs hP hS => ?_)
      refine W.eq (g2 := F0 m 133 ls [.int r130]) rfl ?_
      refine lv_if_ne hx hb dX8_line_133 (tgt := 138) (by decide) (fun hc => ?_) (fun hc => ?_)
      · have Hf := c_i_f Hf hc
        refine lv_aload hx hb dX8_line_138 (lv_at hl 0 rfl) ?_
        obtain ⟨hk_p2, Hf⟩ := c_g_some Hf
        obtain ⟨q140, hq140, Hf⟩ := c_n_some Hf
        refine fg_2_4 hx hb hts hown hK hP hk_p2 lkf_X8_108 hq140 dX8_line_140 ?_
        obtain ⟨hk_q140, Hf⟩ := c_g_some Hf
        obtain ⟨r143, T143, hq143, Hf⟩ := c_c_some Hf
        refine r_cV (n := 0) (As := []) (rest := []) ⟨hx, hb, hml, hown, hts⟩ (s_Jx4a65c_size_8abf5 l X hq143) lkm_X8_81 (by decide +kernel) rfl (by decide) dX8_line_143 rfl rfl ⟨Nat.le_of_ble_eq_true rfl, Nat.le_of_ble_eq_true rfl⟩ hk_q140 rfl hl.1 (Nat.le_of_ble_eq_true rfl) ⟨Nat.le_of_ble_eq_true rfl, Nat.le_of_ble_eq_true rfl⟩ hK hRO hA hP hS (fun H locs hP hS => ?_)
        refine W.eq (g2 := F0 m 146 ls [.int r143]) rfl ?_
        cases Hf
        exact r_iret hx hb hr rfl hlocks dX8_line_146 (Nat.le_of_ble_eq_true rfl) (Nat.le_of_ble_eq_true rfl) hP hS
      have Hf := c_i_t Hf hc
      refine lv_iconst (v := (-1)) hx hb dX8_line_136 (by decide) ?_
      cases Hf
      exact r_iret hx hb hr rfl hlocks dX8_line_137 (Nat.le_of_ble_eq_true rfl) (Nat.le_of_ble_eq_true rfl) hP hS
    have Hf := c_i_f Hf hc
    refine lv_iconst (v := (-1)) hx hb dX8_line_109 (by decide) ?_
    cases Hf
    exact r_iret hx hb hr rfl hlocks dX8_line_110 (Nat.le_of_ble_eq_true rfl) (Nat.le_of_ble_eq_true rfl) hP hS
  have Hf := c_i_f Hf hc
  refine lv_iconst (v := (-1)) hx hb dX8_line_25 (by decide) ?_
  cases Hf
  exact r_iret hx hb hr rfl hlocks dX8_line_26 (Nat.le_of_ble_eq_true rfl) (Nat.le_of_ble_eq_true rfl) hP hS

set_option maxRecDepth 100000 in
def f_X3_makeText (S : st_T) (a0 : Nat) : Option (Option Nat × st_T) :=
  (c_l (st_nx S) (fun (n0 : Nat) => (c_l (st_no S 6) (fun (S_0 : st_T) => (c_g (st_K S_0 a0 = 5) (c_n (st_fr S_0 401 a0) (fun (q5 : Nat) => (c_c (f_J7_copyOf_59c91 S_0 q5 (st_fi S_0 405 a0)) (fun (r12 : Option Nat) (T12 : st_T) => (c_n r12 (fun (p12 : Nat) => (c_g (st_K T12 a0 = 5) (c_n (st_fr T12 402 a0) (fun (q16 : Nat) => (c_c (f_J7_copyOf_59c91 T12 q16 (st_fi T12 405 a0)) (fun (r23 : Option Nat) (T23 : st_T) => (c_n r23 (fun (p23 : Nat) => (c_g (st_K T23 a0 = 5) (c_n (st_fr T23 403 a0) (fun (q27 : Nat) => (c_c (f_J7_copyOf_59c91 T23 q27 (st_fi T23 406 a0)) (fun (r34 : Option Nat) (T34 : st_T) => (c_n r34 (fun (p34 : Nat) => (c_g (st_K T34 a0 = 5) (c_n (st_fr T34 404 a0) (fun (q38 : Nat) => (c_c (f_J7_copyOf_59c91 T34 q38 (st_fi T34 406 a0)) (fun (r45 : Option Nat) (T45 : st_T) => (c_n r45 (fun (p45 : Nat) => (c_g (st_K T45 a0 = 5) (c_c (f_X5_init T45 n0 p12 p23 p34 p45 (st_fi T45 407 a0)) (fun (r52 : Unit) (T52 : st_T) => (some ((some n0), T52)))))))))))))))))))))))))))))))))))))
set_option maxRecDepth 100000 in
set_option maxHeartbeats 4000000 in
theorem s_X3_makeText (l : Launch) (X : st_I) {S SE : st_T} {a0 : Nat} {rr : Option Nat} (Hf : f_X3_makeText S a0 = some (rr, SE)) : Met l yX3_makeText (Cond.code yX3_makeText cX3_makeText 1 (some (.object "DayDiary$Text")) :: lw_g) { frames := 2, cells := 5, slots := 3205, locals := 118 } (st_P X S [.ref a0]) (st_Q X (st_A S) (some (va_rf rr)) SE) 5 3205 (st_A S) := by
  refine st_ofW (by decide) (Nat.le_of_ble_eq_true rfl) ?_
  intro p e s m args below meth c hx hb hr hml hlocks hnm hts hown hK hRO hA hP hS ls hl
  have hown : s.vm.findClass RX3 = some m.cls := hown
  have hl : lv_has ls 1 [(0, .ref a0)] := hl
  unfold f_X3_makeText at Hf
  obtain ⟨n0, en0, Hf⟩ := c_l_ex Hf
  obtain ⟨S_0, eS_0, Hf⟩ := c_l_ex Hf
  refine r_new (T := TX5) (ci := 6) hx hb hts in_6 rfl rfl (by decide) tyX5_ok df_6 (lg_1 689 rfl rfl) (lg_1 138 rfl rfl) (lg_1 70 rfl rfl) hown hK hA hP hS en0 eS_0 (Nat.le_of_ble_eq_true rfl) (Nat.le_of_ble_eq_true rfl) dX3_makeText_0 (fun H hP hS => ?_)
  refine W.eq (g2 := F0 m 3 ls [.ref n0]) rfl ?_
  refine lv_dup hx hb dX3_makeText_3 rfl ?_
  refine lv_aload_n hx hb dX3_makeText_4 rfl (lv_at hl 0 rfl) ?_
  obtain ⟨hk_a0, Hf⟩ := c_g_some Hf
  obtain ⟨q5, hq5, Hf⟩ := c_n_some Hf
  refine fg_4_1 hx hb hts hown hK hP hk_a0 lkf_X3_18 hq5 dX3_makeText_5 ?_
  refine lv_aload_n hx hb dX3_makeText_8 rfl (lv_at hl 0 rfl) ?_
  refine fg_4_5 hx hb hts hown hK hP hk_a0 lkf_X3_31 dX3_makeText_9 ?_
  obtain ⟨r12, T12, hq12, Hf⟩ := c_c_some Hf
  refine r_cX (n := 2) (As := [.ref q5, .int (st_fi S_0 405 a0)]) (rest := [.ref n0, .ref n0]) ⟨hx, hb, hml, hown, hts⟩ (s_J7_copyOf_59c91 l X hq12) lkm_X3_76 (by decide +kernel) dX3_makeText_12 rfl rfl ⟨Nat.le_of_ble_eq_true rfl, Nat.le_of_ble_eq_true rfl⟩ rfl hl.1 (Nat.le_of_ble_eq_true rfl) ⟨Nat.le_of_ble_eq_true rfl, Nat.le_of_ble_eq_true rfl⟩ hK hRO hA hP hS (fun H locs hP hS => ?_)
  obtain ⟨p12, ep12, Hf⟩ := c_n_some Hf
  subst ep12
  refine W.eq (g2 := F0 m 15 ls [.ref p12, .ref n0, .ref n0]) rfl ?_
  refine lv_aload_n hx hb dX3_makeText_15 rfl (lv_at hl 0 rfl) ?_
  obtain ⟨hk_a0, Hf⟩ := c_g_some Hf
  obtain ⟨q16, hq16, Hf⟩ := c_n_some Hf
  refine fg_4_2 hx hb hts hown hK hP hk_a0 lkf_X3_22 hq16 dX3_makeText_16 ?_
  refine lv_aload_n hx hb dX3_makeText_19 rfl (lv_at hl 0 rfl) ?_
  refine fg_4_5 hx hb hts hown hK hP hk_a0 lkf_X3_31 dX3_makeText_20 ?_
  obtain ⟨r23, T23, hq23, Hf⟩ := c_c_some Hf
  refine r_cX (n := 2) (As := [.ref q16, .int (st_fi T12 405 a0)]) (rest := [.ref p12, .ref n0, .ref n0]) ⟨hx, hb, hml, hown, hts⟩ (s_J7_copyOf_59c91 l X hq23) lkm_X3_76 (by decide +kernel) dX3_makeText_23 rfl rfl ⟨Nat.le_of_ble_eq_true rfl, Nat.le_of_ble_eq_true rfl⟩ rfl hl.1 (Nat.le_of_ble_eq_true rfl) ⟨Nat.le_of_ble_eq_true rfl, Nat.le_of_ble_eq_true rfl⟩ hK hRO hA hP hS (fun H locs hP hS => ?_)
  obtain ⟨p23, ep23, Hf⟩ := c_n_some Hf
  subst ep23
  refine W.eq (g2 := F0 m 26 ls [.ref p23, .ref p12, .ref n0, .ref n0]) rfl ?_
  refine lv_aload_n hx hb dX3_makeText_26 rfl (lv_at hl 0 rfl) ?_
  obtain ⟨hk_a0, Hf⟩ := c_g_some Hf
  obtain ⟨q27, hq27, Hf⟩ := c_n_some Hf
  refine fg_4_3 hx hb hts hown hK hP hk_a0 lkf_X3_25 hq27 dX3_makeText_27 ?_
  refine lv_aload_n hx hb dX3_makeText_30 rfl (lv_at hl 0 rfl) ?_
  refine fg_4_6 hx hb hts hown hK hP hk_a0 lkf_X3_35 dX3_makeText_31 ?_
  obtain ⟨r34, T34, hq34, Hf⟩ := c_c_some Hf
  refine r_cX (n := 2) (As := [.ref q27, .int (st_fi T23 406 a0)]) (rest := [.ref p23, .ref p12, .ref n0, .ref n0]) ⟨hx, hb, hml, hown, hts⟩ (s_J7_copyOf_59c91 l X hq34) lkm_X3_76 (by decide +kernel) dX3_makeText_34 rfl rfl ⟨Nat.le_of_ble_eq_true rfl, Nat.le_of_ble_eq_true rfl⟩ rfl hl.1 (Nat.le_of_ble_eq_true rfl) ⟨Nat.le_of_ble_eq_true rfl, Nat.le_of_ble_eq_true rfl⟩ hK hRO hA hP hS (fun H locs hP hS => ?_)
  obtain ⟨p34, ep34, Hf⟩ := c_n_some Hf
  subst ep34
  refine W.eq (g2 := F0 m 37 ls [.ref p34, .ref p23, .ref p12, .ref n0, .ref n0]) rfl ?_
  refine lv_aload_n hx hb dX3_makeText_37 rfl (lv_at hl 0 rfl) ?_
  obtain ⟨hk_a0, Hf⟩ := c_g_some Hf
  obtain ⟨q38, hq38, Hf⟩ := c_n_some Hf
  refine fg_4_4 hx hb hts hown hK hP hk_a0 lkf_X3_28 hq38 dX3_makeText_38 ?_
  refine lv_aload_n hx hb dX3_makeText_41 rfl (lv_at hl 0 rfl) ?_
  refine fg_4_6 hx hb hts hown hK hP hk_a0 lkf_X3_35 dX3_makeText_42 ?_
  obtain ⟨r45, T45, hq45, Hf⟩ := c_c_some Hf
  refine r_cX (n := 2) (As := [.ref q38, .int (st_fi T34 406 a0)]) (rest := [.ref p34, .ref p23, .ref p12, .ref n0, .ref n0]) ⟨hx, hb, hml, hown, hts⟩ (s_J7_copyOf_59c91 l X hq45) lkm_X3_76 (by decide +kernel) dX3_makeText_45 rfl rfl ⟨Nat.le_of_ble_eq_true rfl, Nat.le_of_ble_eq_true rfl⟩ rfl hl.1 (Nat.le_of_ble_eq_true rfl) ⟨Nat.le_of_ble_eq_true rfl, Nat.le_of_ble_eq_true rfl⟩ hK hRO hA hP hS (fun H locs hP hS => ?_)
  obtain ⟨p45, ep45, Hf⟩ := c_n_some Hf
  subst ep45
  refine W.eq (g2 := F0 m 48 ls [.ref p45, .ref p34, .ref p23, .ref p12, .ref n0, .ref n0]) rfl ?_
  refine lv_aload_n hx hb dX3_makeText_48 rfl (lv_at hl 0 rfl) ?_
  obtain ⟨hk_a0, Hf⟩ := c_g_some Hf
  refine fg_4_7 hx hb hts hown hK hP hk_a0 lkf_X3_38 dX3_makeText_49 ?_
  obtain ⟨r52, T52, hq52, Hf⟩ := c_c_some Hf
  refine r_cI (n := 5) (As := [.ref p12, .ref p23, .ref p34, .ref p45, .int (st_fi T45 407 a0)]) (rest := [.ref n0]) ⟨hx, hb, hml, hown, hts⟩ (s_X5_init l X hq52) (lg_ps _ [700, 140, 70, 141] rfl (by decide +kernel)) (by decide +kernel) dX3_makeText_52 rfl rfl ⟨(Nat.le_of_ble_eq_true rfl), (Nat.le_of_ble_eq_true rfl)⟩ rfl hl.1 (Nat.le_of_ble_eq_true rfl) ⟨(Nat.le_of_ble_eq_true rfl), (Nat.le_of_ble_eq_true rfl)⟩ hK hRO hA hP hS (fun H locs hP hS => ?_)
  refine W.eq (g2 := F0 m 55 ls [.ref n0]) rfl ?_
  cases Hf
  exact r_aret (v := (some n0)) hx hb hr rfl (Or.inl ⟨_, rfl⟩) hlocks dX3_makeText_55 (Nat.le_of_ble_eq_true rfl) (Nat.le_of_ble_eq_true rfl) hP hS
