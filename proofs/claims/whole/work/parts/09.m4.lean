def j_X9_lead_94 (rec54 : st_T × Int32 × Int32 → Option (Int32 × st_T)) (y6_54 : Int32) (S94 : st_T) (y4_94 : Int32) : Option (Int32 × st_T) :=
  (rec54 (S94, y4_94, (y6_54 + 1)))
def b_X9_lead_54 (a0 : Nat) (x1 : Int32) (x2 : Int32) (rec36 : st_T × Int32 × Int32 → Option (Int32 × st_T)) (y5_36 : Int32) (rec54 : st_T × Int32 × Int32 → Option (Int32 × st_T)) (q : st_T × Int32 × Int32) : Option (Int32 × st_T) :=
  (fun (S54 : st_T) (y4_54 : Int32) (y6_54 : Int32) =>
  (c_g (st_K S54 a0 = 11) (c_n (st_fr S54 1033 a0) (fun (q57 : Nat) => (c_g (st_K S54 q57 = 20) (c_g (c_in y5_36 (st_ln S54 q57)) (c_i ((st_ri S54 q57 (y5_36 : Int32).toNatClampNeg) ≤ y6_54) (rec36 (S54, y4_54, (y5_36 + 1))) (c_c (f_X9_isIn S54 a0 y6_54 x1 x2) (fun (r71 : Int32) (T71 : st_T) => (c_i (r71 = 0) (j_X9_lead_94 rec54 y6_54 T71 y4_54) (c_i (y4_54 = 0) (some (((100 * y5_36) + y6_54), T71)) (j_X9_lead_94 rec54 y6_54 T71 (y4_54 + (-1)))))))))))))) q.1 q.2.1 q.2.2
def b_X9_lead_36 (a0 : Nat) (x1 : Int32) (x2 : Int32) (rec36 : st_T × Int32 × Int32 → Option (Int32 × st_T)) (q : st_T × Int32 × Int32) : Option (Int32 × st_T) :=
  (fun (S36 : st_T) (y4_36 : Int32) (y5_36 : Int32) =>
  (c_g (st_K S36 a0 = 11) (c_i ((st_fi S36 1027 a0) ≤ y5_36) (some ((-1), S36)) (c_c (f_X9_findCodes S36 a0 y5_36) (fun (r48 : Unit) (T48 : st_T) => (c_w (b_X9_lead_54 a0 x1 x2 rec36 y5_36) c_N (T48, y4_36, 0))))))) q.1 q.2.1 q.2.2
def f_X9_lead (S : st_T) (a0 : Nat) (x1 : Int32) (x2 : Int32) (x3 : Int32) : Option (Int32 × st_T) :=
  (c_g (st_K S a0 = 11) (c_l (st_pi S 1000 a0 0) (fun (S_2 : st_T) => (c_i (x1 < 0) (some ((-1), S_2)) (c_i (49 < x1) (some ((-1), S_2)) (c_i (x2 < 0) (some ((-1), S_2)) (c_i (2 < x2) (some ((-1), S_2)) (c_i (0 ≤ x3) (c_w (b_X9_lead_36 a0 x1 x2) c_N (S_2, x3, 0)) (some ((-1), S_2))))))))))
set_option maxRecDepth 100000 in
set_option maxHeartbeats 4000000 in
theorem s_X9_lead (l : Launch) (X : st_I) {S SE : st_T} {a0 : Nat} {x1 : Int32} {x2 : Int32} {x3 : Int32} {rr : Int32} (Hf : f_X9_lead S a0 x1 x2 x3 = some (rr, SE)) : Met l yX9_lead (Cond.code yX9_lead cX9_lead 7 (some .int) :: lw_g) { frames := 4, cells := 0, slots := 0, locals := 98 } (st_P X S [.ref a0, .int x1, .int x2, .int x3]) (st_Q X (st_A S) (some (.int rr)) SE) 0 0 (st_A S) := by
  refine st_ofW (by decide) (Nat.le_of_ble_eq_true rfl) ?_
  intro p e s m args below meth c hx hb hr hml hlocks hnm hts hown hK hRO hA hP hS ls hl
  have hown : s.vm.findClass RX9 = some m.cls := hown
  have hl : lv_has ls 7 [(0, .ref a0), (1, .int x1), (2, .int x2), (3, .int x3)] := hl
  unfold f_X9_lead at Hf
  refine lv_aload_n hx hb dX9_lead_0 rfl (lv_at hl 0 rfl) ?_
  refine lv_iconst (v := 0) hx hb dX9_lead_1 (by decide) ?_
  obtain ⟨hk_a0, Hf⟩ := c_g_some Hf
  refine fp_10_0 hx hb hts hown hK hP hS hk_a0 lkf_X9_131 dX9_lead_2 (fun H locs hP hS => ?_)
  obtain ⟨S_2, eS_2, Hf⟩ := c_l_ex Hf
  have hP : st_HP X (st_A S) S_2 H := by rw [eS_2]; exact hP
  refine lv_iload_n hx hb dX9_lead_5 rfl (lv_at hl 1 rfl) ?_
  refine lv_if_lt hx hb dX9_lead_6 (tgt := 28) (by decide) (fun hc => ?_) (fun hc => ?_)
  · have Hf := c_i_t Hf hc
    refine lv_iconst (v := (-1)) hx hb dX9_lead_28 (by decide) ?_
    cases Hf
    exact r_iret hx hb hr rfl hlocks dX9_lead_29 (Nat.le_of_ble_eq_true rfl) (Nat.le_of_ble_eq_true rfl) hP hS
  have Hf := c_i_f Hf hc
  refine lv_iload_n hx hb dX9_lead_9 rfl (lv_at hl 1 rfl) ?_
  refine lv_bipush (v := 49) hx hb dX9_lead_10 (by decide) ?_
  refine lv_icmp_gt hx hb dX9_lead_12 (tgt := 28) (by decide) (fun hc => ?_) (fun hc => ?_)
  · have Hf := c_i_t Hf hc
    refine lv_iconst (v := (-1)) hx hb dX9_lead_28 (by decide) ?_
    cases Hf
    exact r_iret hx hb hr rfl hlocks dX9_lead_29 (Nat.le_of_ble_eq_true rfl) (Nat.le_of_ble_eq_true rfl) hP hS
  have Hf := c_i_f Hf hc
  refine lv_iload_n hx hb dX9_lead_15 rfl (lv_at hl 2 rfl) ?_
  refine lv_if_lt hx hb dX9_lead_16 (tgt := 28) (by decide) (fun hc => ?_) (fun hc => ?_)
  · have Hf := c_i_t Hf hc
    refine lv_iconst (v := (-1)) hx hb dX9_lead_28 (by decide) ?_
    cases Hf
    exact r_iret hx hb hr rfl hlocks dX9_lead_29 (Nat.le_of_ble_eq_true rfl) (Nat.le_of_ble_eq_true rfl) hP hS
  have Hf := c_i_f Hf hc
  refine lv_iload_n hx hb dX9_lead_19 rfl (lv_at hl 2 rfl) ?_
  refine lv_iconst (v := 2) hx hb dX9_lead_20 (by decide) ?_
  refine lv_icmp_gt hx hb dX9_lead_21 (tgt := 28) (by decide) (fun hc => ?_) (fun hc => ?_)
  · have Hf := c_i_t Hf hc
    refine lv_iconst (v := (-1)) hx hb dX9_lead_28 (by decide) ?_
    cases Hf
    exact r_iret hx hb hr rfl hlocks dX9_lead_29 (Nat.le_of_ble_eq_true rfl) (Nat.le_of_ble_eq_true rfl) hP hS
  have Hf := c_i_f Hf hc
  refine lv_iload_n hx hb dX9_lead_24 rfl (lv_at hl 3 rfl) ?_
  refine lv_if_ge hx hb dX9_lead_25 (tgt := 30) (by decide) (fun hc => ?_) (fun hc => ?_)
  · have Hf := c_i_t Hf hc
    refine lv_iload_n hx hb dX9_lead_30 rfl (lv_at hl 3 rfl) ?_
    refine lv_istore (lv' := [(4, .int x3), (0, .ref a0), (1, .int x1), (2, .int x2), (3, .int x3)]) hx hb dX9_lead_31 hl (by decide) rfl (fun ls hl => ?_)
    refine lv_iconst (v := 0) hx hb dX9_lead_33 (by decide) ?_
    refine lv_istore (lv' := [(5, .int 0), (4, .int x3), (0, .ref a0), (1, .int x1), (2, .int x2), (3, .int x3)]) hx hb dX9_lead_34 hl (by decide) rfl (fun ls hl => ?_)
    refine (c_w_ind (P := fun (q : st_T × Int32 × Int32) => ∀ (H : Heap) (locs : List Loc) (ls : Array Slot), st_HP X (st_A S) q.1 H → va_S (st_A S) s.heap H locs → lv_has ls 7 [(0, .ref a0), (1, .int x1), (2, .int x2), (4, .int q.2.1), (5, .int q.2.2)] → W p l e { frames := 4, cells := 0, slots := 0, locals := 98 } s m args below meth c H locs 0 0 (MQ below (st_Q X (st_A S) (some (.int rr)) SE) args s 0 0 (st_A S)) (F0 m 36 ls [])) ?_ _ _ Hf) _ _ _ hP hS (lv_sub hl [2, 3, 4, 1, 0] rfl)
    intro rec36 hrec36 q Hf H locs ls hP hS hl
    obtain ⟨S36, y4_36, y5_36⟩ := q
    unfold b_X9_lead_36 at Hf
    try dsimp only at Hf
    try dsimp only at hP
    try dsimp only at hl
    try dsimp only
    refine lv_iload hx hb dX9_lead_36 (lv_at hl 4 rfl) ?_
    refine lv_aload_n hx hb dX9_lead_38 rfl (lv_at hl 0 rfl) ?_
    obtain ⟨hk_a0, Hf⟩ := c_g_some Hf
    refine fg_10_27 hx hb hts hown hK hP hk_a0 lkf_X9_236 dX9_lead_39 ?_
    refine lv_icmp_ge hx hb dX9_lead_42 (tgt := 106) (by decide) (fun hc => ?_) (fun hc => ?_)
    · have Hf := c_i_t Hf hc
      refine lv_iconst (v := (-1)) hx hb dX9_lead_106 (by decide) ?_
      cases Hf
      exact r_iret hx hb hr rfl hlocks dX9_lead_107 (Nat.le_of_ble_eq_true rfl) (Nat.le_of_ble_eq_true rfl) hP hS
    have Hf := c_i_f Hf hc
    refine lv_aload_n hx hb dX9_lead_45 rfl (lv_at hl 0 rfl) ?_
    refine lv_iload hx hb dX9_lead_46 (lv_at hl 4 rfl) ?_
    obtain ⟨r48, T48, hq48, Hf⟩ := c_c_some Hf
    refine r_cV (n := 1) (As := [.int y5_36]) (rest := []) ⟨hx, hb, hml, hown, hts⟩ (s_X9_findCodes l X hq48) lkm_X9_263 (by decide +kernel) rfl (by decide) dX9_lead_48 rfl rfl ⟨Nat.le_of_ble_eq_true rfl, Nat.le_of_ble_eq_true rfl⟩ hk_a0 rfl hl.1 (Nat.le_of_ble_eq_true rfl) ⟨Nat.le_of_ble_eq_true rfl, Nat.le_of_ble_eq_true rfl⟩ hK hRO hA hP hS (fun H locs hP hS => ?_)
    refine W.eq (g2 := F0 m 51 ls []) rfl ?_
    refine lv_iconst (v := 0) hx hb dX9_lead_51 (by decide) ?_
    refine lv_istore (lv' := [(6, .int 0), (0, .ref a0), (1, .int x1), (2, .int x2), (4, .int y4_36), (5, .int y5_36)]) hx hb dX9_lead_52 hl (by decide) rfl (fun ls hl => ?_)
    refine (c_w_ind (P := fun (q : st_T × Int32 × Int32) => ∀ (H : Heap) (locs : List Loc) (ls : Array Slot), st_HP X (st_A S) q.1 H → va_S (st_A S) s.heap H locs → lv_has ls 7 [(0, .ref a0), (1, .int x1), (2, .int x2), (4, .int q.2.1), (5, .int y5_36), (6, .int q.2.2)] → W p l e { frames := 4, cells := 0, slots := 0, locals := 98 } s m args below meth c H locs 0 0 (MQ below (st_Q X (st_A S) (some (.int rr)) SE) args s 0 0 (st_A S)) (F0 m 54 ls [])) ?_ _ _ Hf) _ _ _ hP hS (lv_sub hl [1, 2, 3, 4, 5, 0] rfl)
    intro rec54 hrec54 q Hf H locs ls hP hS hl
    obtain ⟨S54, y4_54, y6_54⟩ := q
    unfold b_X9_lead_54 at Hf
    try dsimp only at Hf
    try dsimp only at hP
    try dsimp only at hl
    try dsimp only
    refine lv_iload hx hb dX9_lead_54 (lv_at hl 5 rfl) ?_
    refine lv_aload_n hx hb dX9_lead_56 rfl (lv_at hl 0 rfl) ?_
    obtain ⟨hk_a0, Hf⟩ := c_g_some Hf
    obtain ⟨q57, hq57, Hf⟩ := c_n_some Hf
    refine fg_10_33 hx hb hts hown hK hP hk_a0 lkf_X9_112 hq57 dX9_lead_57 ?_
    refine lv_iload hx hb dX9_lead_60 (lv_at hl 4 rfl) ?_
    obtain ⟨hk_q57, Hf⟩ := c_g_some Hf
    obtain ⟨hi62, Hf⟩ := c_g_some Hf
    refine r_iald hx hb hK hP hk_q57 hi62 dX9_lead_62 ?_
    refine lv_icmp_ge hx hb dX9_lead_63 (tgt := 100) (by decide) (fun hc => ?_) (fun hc => ?_)
    · have Hf := c_i_t Hf hc
      refine lv_iinc (v := (y5_36 + 1)) (lv' := [(5, .int (y5_36 + 1)), (0, .ref a0), (1, .int x1), (2, .int x2), (4, .int y4_54), (6, .int y6_54)]) hx hb dX9_lead_100 hl (k := 4) rfl rfl (by decide) rfl (fun ls hl => ?_)
      refine lv_goto hx hb dX9_lead_103 (tgt := 36) (by decide) ?_
      exact hrec36 (S54, y4_54, (y5_36 + 1)) Hf _ _ _ hP hS (lv_sub hl [1, 2, 3, 4, 0] rfl)
    have Hf := c_i_f Hf hc
    refine lv_aload_n hx hb dX9_lead_66 rfl (lv_at hl 0 rfl) ?_
    refine lv_iload hx hb dX9_lead_67 (lv_at hl 5 rfl) ?_
    refine lv_iload_n hx hb dX9_lead_69 rfl (lv_at hl 1 rfl) ?_
    refine lv_iload_n hx hb dX9_lead_70 rfl (lv_at hl 2 rfl) ?_
    obtain ⟨r71, T71, hq71, Hf⟩ := c_c_some Hf
    refine r_cV (n := 3) (As := [.int y6_54, .int x1, .int x2]) (rest := []) ⟨hx, hb, hml, hown, hts⟩ (s_X9_isIn l X hq71) lkm_X9_278 (by decide +kernel) rfl (by decide) dX9_lead_71 rfl rfl ⟨Nat.le_of_ble_eq_true rfl, Nat.le_of_ble_eq_true rfl⟩ hk_a0 rfl hl.1 (Nat.le_of_ble_eq_true rfl) ⟨Nat.le_of_ble_eq_true rfl, Nat.le_of_ble_eq_true rfl⟩ hK hRO hA hP hS (fun H locs hP hS => ?_)
    refine W.eq (g2 := F0 m 74 ls [.int r71]) rfl ?_
    have hJ94 : ∀ (S94 : st_T) (y4_94 : Int32), j_X9_lead_94 rec54 y6_54 S94 y4_94 = some (rr, SE) → ∀ (H : Heap) (locs : List Loc) (ls : Array Slot), st_HP X (st_A S) S94 H → va_S (st_A S) s.heap H locs → lv_has ls 7 [(0, .ref a0), (1, .int x1), (2, .int x2), (4, .int y4_94), (5, .int y5_36), (6, .int y6_54)] → W p l e { frames := 4, cells := 0, slots := 0, locals := 98 } s m args below meth c H locs 0 0 (MQ below (st_Q X (st_A S) (some (.int rr)) SE) args s 0 0 (st_A S)) (F0 m 94 ls []) := by
      intro S94 y4_94 Hf H locs ls hP hS hl
      unfold j_X9_lead_94 at Hf
      refine lv_iinc (v := (y6_54 + 1)) (lv' := [(6, .int (y6_54 + 1)), (0, .ref a0), (1, .int x1), (2, .int x2), (4, .int y4_94), (5, .int y5_36)]) hx hb dX9_lead_94 hl (k := 5) rfl rfl (by decide) rfl (fun ls hl => ?_)
      refine lv_goto hx hb dX9_lead_97 (tgt := 54) (by decide) ?_
      exact hrec54 (S94, y4_94, (y6_54 + 1)) Hf _ _ _ hP hS (lv_sub hl [1, 2, 3, 4, 5, 0] rfl)
    refine lv_if_eq hx hb dX9_lead_74 (tgt := 94) (by decide) (fun hc => ?_) (fun hc => ?_)
    · have Hf := c_i_t Hf hc
      exact hJ94 T71 y4_54 Hf _ _ _ hP hS (lv_sub hl [0, 1, 2, 3, 4, 5] rfl)
    have Hf := c_i_f Hf hc
    refine lv_iload hx hb dX9_lead_77 (lv_at hl 3 rfl) ?_
    refine lv_if_ne hx hb dX9_lead_79 (tgt := 91) (by decide) (fun hc => ?_) (fun hc => ?_)
    · have Hf := c_i_f Hf hc
      refine lv_iinc (v := (y4_54 + (-1))) (lv' := [(4, .int (y4_54 + (-1))), (0, .ref a0), (1, .int x1), (2, .int x2), (5, .int y5_36), (6, .int y6_54)]) hx hb dX9_lead_91 hl (k := 3) rfl rfl (by decide) rfl (fun ls hl => ?_)
      exact hJ94 T71 (y4_54 + (-1)) Hf _ _ _ hP hS (lv_sub hl [1, 2, 3, 0, 4, 5] rfl)
    have Hf := c_i_t Hf hc
    refine lv_bipush (v := 100) hx hb dX9_lead_82 (by decide) ?_
    refine lv_iload hx hb dX9_lead_84 (lv_at hl 4 rfl) ?_
    refine lv_imul hx hb dX9_lead_86 ?_
    refine lv_iload hx hb dX9_lead_87 (lv_at hl 5 rfl) ?_
    refine lv_iadd hx hb dX9_lead_89 ?_
    cases Hf
    exact r_iret hx hb hr rfl hlocks dX9_lead_90 (Nat.le_of_ble_eq_true rfl) (Nat.le_of_ble_eq_true rfl) hP hS
  have Hf := c_i_f Hf hc
  refine lv_iconst (v := (-1)) hx hb dX9_lead_28 (by decide) ?_
  cases Hf
  exact r_iret hx hb hr rfl hlocks dX9_lead_29 (Nat.le_of_ble_eq_true rfl) (Nat.le_of_ble_eq_true rfl) hP hS

def j_X9_next_113 (rec50 : st_T × Int32 × Int32 → Option (Int32 × st_T)) (y3_50 : Int32) (y5_50 : Int32) (S113 : st_T) (u0_113 : Int32) : Option (Int32 × st_T) :=
  (c_l (y3_50 + u0_113) (fun (z3_114 : Int32) => (rec50 (S113, z3_114, (y5_50 + 1)))))
def j_X9_next_112 (rec50 : st_T × Int32 × Int32 → Option (Int32 × st_T)) (y3_50 : Int32) (y5_50 : Int32) (S112 : st_T) : Option (Int32 × st_T) :=
  (j_X9_next_113 rec50 y3_50 y5_50 S112 0)
def j_X9_next_108 (rec50 : st_T × Int32 × Int32 → Option (Int32 × st_T)) (y3_50 : Int32) (y5_50 : Int32) (S108 : st_T) : Option (Int32 × st_T) :=
  (j_X9_next_113 rec50 y3_50 y5_50 S108 1)
def b_X9_next_50 (a0 : Nat) (x1 : Int32) (x2 : Int32) (rec32 : st_T × Int32 × Int32 → Option (Int32 × st_T)) (y4_32 : Int32) (rec50 : st_T × Int32 × Int32 → Option (Int32 × st_T)) (q : st_T × Int32 × Int32) : Option (Int32 × st_T) :=
  (fun (S50 : st_T) (y3_50 : Int32) (y5_50 : Int32) =>
  (c_g (st_K S50 a0 = 11) (c_n (st_fr S50 1033 a0) (fun (q53 : Nat) => (c_g (st_K S50 q53 = 20) (c_g (c_in y4_32 (st_ln S50 q53)) (c_i ((st_ri S50 q53 (y4_32 : Int32).toNatClampNeg) ≤ y5_50) (rec32 (S50, y3_50, (y4_32 + 1))) (c_n (st_fr S50 1035 a0) (fun (q64 : Nat) => (c_g (st_K S50 q64 = 20) (c_g (c_in (y5_50 - 1) (st_ln S50 q64)) (c_i ((st_ri S50 q64 ((y5_50 - 1) : Int32).toNatClampNeg) = x1) (c_g (c_in y5_50 (st_ln S50 q64)) (c_i ((st_ri S50 q64 (y5_50 : Int32).toNatClampNeg) = x2) (c_c (f_X9_gapAhead S50 a0 y4_32 y5_50) (fun (r92 : Int32) (T92 : st_T) => (c_i (r92 = 0) (j_X9_next_108 rec50 y3_50 y5_50 T92) (c_g (st_K T92 a0 = 11) (c_n (st_fr T92 1037 a0) (fun (q99 : Nat) => (c_g (st_K T92 q99 = 23) (c_g (c_in y5_50 (st_ln T92 q99)) (c_i ((st_ri T92 q99 (y5_50 : Int32).toNatClampNeg) = 0) (j_X9_next_112 rec50 y3_50 y5_50 T92) (j_X9_next_108 rec50 y3_50 y5_50 T92)))))))))) (j_X9_next_112 rec50 y3_50 y5_50 S50))) (j_X9_next_112 rec50 y3_50 y5_50 S50))))))))))))) q.1 q.2.1 q.2.2
def b_X9_next_32 (a0 : Nat) (x1 : Int32) (x2 : Int32) (rec32 : st_T × Int32 × Int32 → Option (Int32 × st_T)) (q : st_T × Int32 × Int32) : Option (Int32 × st_T) :=
  (fun (S32 : st_T) (y3_32 : Int32) (y4_32 : Int32) =>
  (c_g (st_K S32 a0 = 11) (c_i ((st_fi S32 1027 a0) ≤ y4_32) (some (y3_32, S32)) (c_c (f_X9_findCodes S32 a0 y4_32) (fun (r44 : Unit) (T44 : st_T) => (c_w (b_X9_next_50 a0 x1 x2 rec32 y4_32) c_N (T44, y3_32, 1))))))) q.1 q.2.1 q.2.2
def f_X9_next (S : st_T) (a0 : Nat) (x1 : Int32) (x2 : Int32) : Option (Int32 × st_T) :=
  (c_g (st_K S a0 = 11) (c_l (st_pi S 1000 a0 0) (fun (S_2 : st_T) => (c_i (x1 < 0) (some ((-1), S_2)) (c_i (49 < x1) (some ((-1), S_2)) (c_i (x2 < 0) (some ((-1), S_2)) (c_i (x2 ≤ 49) (c_w (b_X9_next_32 a0 x1 x2) c_N (S_2, 0, 0)) (some ((-1), S_2)))))))))
set_option maxRecDepth 100000 in
set_option maxHeartbeats 4000000 in
theorem s_X9_next (l : Launch) (X : st_I) {S SE : st_T} {a0 : Nat} {x1 : Int32} {x2 : Int32} {rr : Int32} (Hf : f_X9_next S a0 x1 x2 = some (rr, SE)) : Met l yX9_next (Cond.code yX9_next cX9_next 6 (some .int) :: lw_g) { frames := 4, cells := 0, slots := 0, locals := 98 } (st_P X S [.ref a0, .int x1, .int x2]) (st_Q X (st_A S) (some (.int rr)) SE) 0 0 (st_A S) := by
  refine st_ofW (by decide) (Nat.le_of_ble_eq_true rfl) ?_
  intro p e s m args below meth c hx hb hr hml hlocks hnm hts hown hK hRO hA hP hS ls hl
  have hown : s.vm.findClass RX9 = some m.cls := hown
  have hl : lv_has ls 6 [(0, .ref a0), (1, .int x1), (2, .int x2)] := hl
  unfold f_X9_next at Hf
  refine lv_aload_n hx hb dX9_next_0 rfl (lv_at hl 0 rfl) ?_
  refine lv_iconst (v := 0) hx hb dX9_next_1 (by decide) ?_
  obtain ⟨hk_a0, Hf⟩ := c_g_some Hf
  refine fp_10_0 hx hb hts hown hK hP hS hk_a0 lkf_X9_131 dX9_next_2 (fun H locs hP hS => ?_)
  obtain ⟨S_2, eS_2, Hf⟩ := c_l_ex Hf
  have hP : st_HP X (st_A S) S_2 H := by rw [eS_2]; exact hP
  refine lv_iload_n hx hb dX9_next_5 rfl (lv_at hl 1 rfl) ?_
  refine lv_if_lt hx hb dX9_next_6 (tgt := 25) (by decide) (fun hc => ?_) (fun hc => ?_)
  · have Hf := c_i_t Hf hc
    refine lv_iconst (v := (-1)) hx hb dX9_next_25 (by decide) ?_
    cases Hf
    exact r_iret hx hb hr rfl hlocks dX9_next_26 (Nat.le_of_ble_eq_true rfl) (Nat.le_of_ble_eq_true rfl) hP hS
  have Hf := c_i_f Hf hc
  refine lv_iload_n hx hb dX9_next_9 rfl (lv_at hl 1 rfl) ?_
  refine lv_bipush (v := 49) hx hb dX9_next_10 (by decide) ?_
  refine lv_icmp_gt hx hb dX9_next_12 (tgt := 25) (by decide) (fun hc => ?_) (fun hc => ?_)
  · have Hf := c_i_t Hf hc
    refine lv_iconst (v := (-1)) hx hb dX9_next_25 (by decide) ?_
    cases Hf
    exact r_iret hx hb hr rfl hlocks dX9_next_26 (Nat.le_of_ble_eq_true rfl) (Nat.le_of_ble_eq_true rfl) hP hS
  have Hf := c_i_f Hf hc
  refine lv_iload_n hx hb dX9_next_15 rfl (lv_at hl 2 rfl) ?_
  refine lv_if_lt hx hb dX9_next_16 (tgt := 25) (by decide) (fun hc => ?_) (fun hc => ?_)
  · have Hf := c_i_t Hf hc
    refine lv_iconst (v := (-1)) hx hb dX9_next_25 (by decide) ?_
    cases Hf
    exact r_iret hx hb hr rfl hlocks dX9_next_26 (Nat.le_of_ble_eq_true rfl) (Nat.le_of_ble_eq_true rfl) hP hS
  have Hf := c_i_f Hf hc
  refine lv_iload_n hx hb dX9_next_19 rfl (lv_at hl 2 rfl) ?_
  refine lv_bipush (v := 49) hx hb dX9_next_20 (by decide) ?_
  refine lv_icmp_le hx hb dX9_next_22 (tgt := 27) (by decide) (fun hc => ?_) (fun hc => ?_)
  · have Hf := c_i_t Hf hc
    refine lv_iconst (v := 0) hx hb dX9_next_27 (by decide) ?_
    refine lv_istore_n (lv' := [(3, .int 0), (0, .ref a0), (1, .int x1), (2, .int x2)]) hx hb dX9_next_28 rfl hl (by decide) rfl (fun ls hl => ?_)
    refine lv_iconst (v := 0) hx hb dX9_next_29 (by decide) ?_
    refine lv_istore (lv' := [(4, .int 0), (3, .int 0), (0, .ref a0), (1, .int x1), (2, .int x2)]) hx hb dX9_next_30 hl (by decide) rfl (fun ls hl => ?_)
    refine (c_w_ind (P := fun (q : st_T × Int32 × Int32) => ∀ (H : Heap) (locs : List Loc) (ls : Array Slot), st_HP X (st_A S) q.1 H → va_S (st_A S) s.heap H locs → lv_has ls 6 [(0, .ref a0), (1, .int x1), (2, .int x2), (3, .int q.2.1), (4, .int q.2.2)] → W p l e { frames := 4, cells := 0, slots := 0, locals := 98 } s m args below meth c H locs 0 0 (MQ below (st_Q X (st_A S) (some (.int rr)) SE) args s 0 0 (st_A S)) (F0 m 32 ls [])) ?_ _ _ Hf) _ _ _ hP hS (lv_sub hl [2, 3, 4, 1, 0] rfl)
    intro rec32 hrec32 q Hf H locs ls hP hS hl
    obtain ⟨S32, y3_32, y4_32⟩ := q
    unfold b_X9_next_32 at Hf
    try dsimp only at Hf
    try dsimp only at hP
    try dsimp only at hl
    try dsimp only
    refine lv_iload hx hb dX9_next_32 (lv_at hl 4 rfl) ?_
    refine lv_aload_n hx hb dX9_next_34 rfl (lv_at hl 0 rfl) ?_
    obtain ⟨hk_a0, Hf⟩ := c_g_some Hf
    refine fg_10_27 hx hb hts hown hK hP hk_a0 lkf_X9_236 dX9_next_35 ?_
    refine lv_icmp_ge hx hb dX9_next_38 (tgt := 127) (by decide) (fun hc => ?_) (fun hc => ?_)
    · have Hf := c_i_t Hf hc
      refine lv_iload_n hx hb dX9_next_127 rfl (lv_at hl 3 rfl) ?_
      cases Hf
      exact r_iret hx hb hr rfl hlocks dX9_next_128 (Nat.le_of_ble_eq_true rfl) (Nat.le_of_ble_eq_true rfl) hP hS
    have Hf := c_i_f Hf hc
    refine lv_aload_n hx hb dX9_next_41 rfl (lv_at hl 0 rfl) ?_
    refine lv_iload hx hb dX9_next_42 (lv_at hl 4 rfl) ?_
    obtain ⟨r44, T44, hq44, Hf⟩ := c_c_some Hf
    refine r_cV (n := 1) (As := [.int y4_32]) (rest := []) ⟨hx, hb, hml, hown, hts⟩ (s_X9_findCodes l X hq44) lkm_X9_263 (by decide +kernel) rfl (by decide) dX9_next_44 rfl rfl ⟨Nat.le_of_ble_eq_true rfl, Nat.le_of_ble_eq_true rfl⟩ hk_a0 rfl hl.1 (Nat.le_of_ble_eq_true rfl) ⟨Nat.le_of_ble_eq_true rfl, Nat.le_of_ble_eq_true rfl⟩ hK hRO hA hP hS (fun H locs hP hS => ?_)
    refine W.eq (g2 := F0 m 47 ls []) rfl ?_
    refine lv_iconst (v := 1) hx hb dX9_next_47 (by decide) ?_
    refine lv_istore (lv' := [(5, .int 1), (0, .ref a0), (1, .int x1), (2, .int x2), (3, .int y3_32), (4, .int y4_32)]) hx hb dX9_next_48 hl (by decide) rfl (fun ls hl => ?_)
    refine (c_w_ind (P := fun (q : st_T × Int32 × Int32) => ∀ (H : Heap) (locs : List Loc) (ls : Array Slot), st_HP X (st_A S) q.1 H → va_S (st_A S) s.heap H locs → lv_has ls 6 [(0, .ref a0), (1, .int x1), (2, .int x2), (3, .int q.2.1), (4, .int y4_32), (5, .int q.2.2)] → W p l e { frames := 4, cells := 0, slots := 0, locals := 98 } s m args below meth c H locs 0 0 (MQ below (st_Q X (st_A S) (some (.int rr)) SE) args s 0 0 (st_A S)) (F0 m 50 ls [])) ?_ _ _ Hf) _ _ _ hP hS (lv_sub hl [1, 2, 3, 4, 5, 0] rfl)
    intro rec50 hrec50 q Hf H locs ls hP hS hl
    obtain ⟨S50, y3_50, y5_50⟩ := q
    unfold b_X9_next_50 at Hf
    try dsimp only at Hf
    try dsimp only at hP
    try dsimp only at hl
    try dsimp only
    refine lv_iload hx hb dX9_next_50 (lv_at hl 5 rfl) ?_
    refine lv_aload_n hx hb dX9_next_52 rfl (lv_at hl 0 rfl) ?_
    obtain ⟨hk_a0, Hf⟩ := c_g_some Hf
    obtain ⟨q53, hq53, Hf⟩ := c_n_some Hf
    refine fg_10_33 hx hb hts hown hK hP hk_a0 lkf_X9_112 hq53 dX9_next_53 ?_
    refine lv_iload hx hb dX9_next_56 (lv_at hl 4 rfl) ?_
    obtain ⟨hk_q53, Hf⟩ := c_g_some Hf
    obtain ⟨hi58, Hf⟩ := c_g_some Hf
    refine r_iald hx hb hK hP hk_q53 hi58 dX9_next_58 ?_
    refine lv_icmp_ge hx hb dX9_next_59 (tgt := 121) (by decide) (fun hc => ?_) (fun hc => ?_)
    · have Hf := c_i_t Hf hc
      refine lv_iinc (v := (y4_32 + 1)) (lv' := [(4, .int (y4_32 + 1)), (0, .ref a0), (1, .int x1), (2, .int x2), (3, .int y3_50), (5, .int y5_50)]) hx hb dX9_next_121 hl (k := 4) rfl rfl (by decide) rfl (fun ls hl => ?_)
      refine lv_goto hx hb dX9_next_124 (tgt := 32) (by decide) ?_
      exact hrec32 (S50, y3_50, (y4_32 + 1)) Hf _ _ _ hP hS (lv_sub hl [1, 2, 3, 4, 0] rfl)
    have Hf := c_i_f Hf hc
    refine lv_iload_n hx hb dX9_next_62 rfl (lv_at hl 3 rfl) ?_
    refine lv_aload_n hx hb dX9_next_63 rfl (lv_at hl 0 rfl) ?_
    obtain ⟨q64, hq64, Hf⟩ := c_n_some Hf
    refine fg_10_35 hx hb hts hown hK hP hk_a0 lkf_X9_118 hq64 dX9_next_64 ?_
    refine lv_iload hx hb dX9_next_67 (lv_at hl 5 rfl) ?_
    refine lv_iconst (v := 1) hx hb dX9_next_69 (by decide) ?_
    refine lv_isub hx hb dX9_next_70 ?_
    obtain ⟨hk_q64, Hf⟩ := c_g_some Hf
    obtain ⟨hi71, Hf⟩ := c_g_some Hf
    refine r_iald hx hb hK hP hk_q64 hi71 dX9_next_71 ?_
    refine lv_iload_n hx hb dX9_next_72 rfl (lv_at hl 1 rfl) ?_
    have hJ113 : ∀ (S113 : st_T) (u0_113 : Int32), j_X9_next_113 rec50 y3_50 y5_50 S113 u0_113 = some (rr, SE) → ∀ (H : Heap) (locs : List Loc) (ls : Array Slot), st_HP X (st_A S) S113 H → va_S (st_A S) s.heap H locs → lv_has ls 6 [(0, .ref a0), (1, .int x1), (2, .int x2), (4, .int y4_32), (5, .int y5_50)] → W p l e { frames := 4, cells := 0, slots := 0, locals := 98 } s m args below meth c H locs 0 0 (MQ below (st_Q X (st_A S) (some (.int rr)) SE) args s 0 0 (st_A S)) (F0 m 113 ls [.int u0_113, .int y3_50]) := by
      intro S113 u0_113 Hf H locs ls hP hS hl
      unfold j_X9_next_113 at Hf
      refine lv_iadd hx hb dX9_next_113 ?_
      refine lv_topi (fun z3_114 ez3_114 => ?_)
      have Hf := c_l_ren Hf ez3_114
      refine lv_istore_n (lv' := [(3, .int z3_114), (0, .ref a0), (1, .int x1), (2, .int x2), (4, .int y4_32), (5, .int y5_50)]) hx hb dX9_next_114 rfl hl (by decide) rfl (fun ls hl => ?_)
      refine lv_iinc (v := (y5_50 + 1)) (lv' := [(5, .int (y5_50 + 1)), (3, .int z3_114), (0, .ref a0), (1, .int x1), (2, .int x2), (4, .int y4_32)]) hx hb dX9_next_115 hl (k := 5) rfl rfl (by decide) rfl (fun ls hl => ?_)
      refine lv_goto hx hb dX9_next_118 (tgt := 50) (by decide) ?_
      exact hrec50 (S113, z3_114, (y5_50 + 1)) Hf _ _ _ hP hS (lv_sub hl [2, 3, 4, 1, 5, 0] rfl)
    have hJ112 : ∀ (S112 : st_T), j_X9_next_112 rec50 y3_50 y5_50 S112 = some (rr, SE) → ∀ (H : Heap) (locs : List Loc) (ls : Array Slot), st_HP X (st_A S) S112 H → va_S (st_A S) s.heap H locs → lv_has ls 6 [(0, .ref a0), (1, .int x1), (2, .int x2), (4, .int y4_32), (5, .int y5_50)] → W p l e { frames := 4, cells := 0, slots := 0, locals := 98 } s m args below meth c H locs 0 0 (MQ below (st_Q X (st_A S) (some (.int rr)) SE) args s 0 0 (st_A S)) (F0 m 112 ls [.int y3_50]) := by
      intro S112 Hf H locs ls hP hS hl
      unfold j_X9_next_112 at Hf
      refine lv_iconst (v := 0) hx hb dX9_next_112 (by decide) ?_
      exact hJ113 S112 0 Hf _ _ _ hP hS (lv_sub hl [0, 1, 2, 3, 4] rfl)
    refine lv_icmp_ne hx hb dX9_next_73 (tgt := 112) (by decide) (fun hc => ?_) (fun hc => ?_)
    · have Hf := c_i_f Hf hc
      exact hJ112 S50 Hf _ _ _ hP hS (lv_sub hl [0, 1, 2, 4, 5] rfl)
    have Hf := c_i_t Hf hc
    refine lv_aload_n hx hb dX9_next_76 rfl (lv_at hl 0 rfl) ?_
    refine fg_10_35 hx hb hts hown hK hP hk_a0 lkf_X9_118 hq64 dX9_next_77 ?_
    refine lv_iload hx hb dX9_next_80 (lv_at hl 5 rfl) ?_
    obtain ⟨hi82, Hf⟩ := c_g_some Hf
    refine r_iald hx hb hK hP hk_q64 hi82 dX9_next_82 ?_
    refine lv_iload_n hx hb dX9_next_83 rfl (lv_at hl 2 rfl) ?_
    refine lv_icmp_ne hx hb dX9_next_84 (tgt := 112) (by decide) (fun hc => ?_) (fun hc => ?_)
    · have Hf := c_i_f Hf hc
      exact hJ112 S50 Hf _ _ _ hP hS (lv_sub hl [0, 1, 2, 4, 5] rfl)
    have Hf := c_i_t Hf hc
    refine lv_aload_n hx hb dX9_next_87 rfl (lv_at hl 0 rfl) ?_
    refine lv_iload hx hb dX9_next_88 (lv_at hl 4 rfl) ?_
    refine lv_iload hx hb dX9_next_90 (lv_at hl 5 rfl) ?_
    obtain ⟨r92, T92, hq92, Hf⟩ := c_c_some Hf
    refine r_cV (n := 2) (As := [.int y4_32, .int y5_50]) (rest := [.int y3_50]) ⟨hx, hb, hml, hown, hts⟩ (s_X9_gapAhead l X hq92) lkm_X9_260 (by decide +kernel) rfl (by decide) dX9_next_92 rfl rfl ⟨Nat.le_of_ble_eq_true rfl, Nat.le_of_ble_eq_true rfl⟩ hk_a0 rfl hl.1 (Nat.le_of_ble_eq_true rfl) ⟨Nat.le_of_ble_eq_true rfl, Nat.le_of_ble_eq_true rfl⟩ hK hRO hA hP hS (fun H locs hP hS => ?_)
    refine W.eq (g2 := F0 m 95 ls [.int r92, .int y3_50]) rfl ?_
    have hJ108 : ∀ (S108 : st_T), j_X9_next_108 rec50 y3_50 y5_50 S108 = some (rr, SE) → ∀ (H : Heap) (locs : List Loc) (ls : Array Slot), st_HP X (st_A S) S108 H → va_S (st_A S) s.heap H locs → lv_has ls 6 [(0, .ref a0), (1, .int x1), (2, .int x2), (4, .int y4_32), (5, .int y5_50)] → W p l e { frames := 4, cells := 0, slots := 0, locals := 98 } s m args below meth c H locs 0 0 (MQ below (st_Q X (st_A S) (some (.int rr)) SE) args s 0 0 (st_A S)) (F0 m 108 ls [.int y3_50]) := by
      intro S108 Hf H locs ls hP hS hl
      unfold j_X9_next_108 at Hf
      refine lv_iconst (v := 1) hx hb dX9_next_108 (by decide) ?_
      refine lv_goto hx hb dX9_next_109 (tgt := 113) (by decide) ?_
      exact hJ113 S108 1 Hf _ _ _ hP hS (lv_sub hl [0, 1, 2, 3, 4] rfl)
    refine lv_if_eq hx hb dX9_next_95 (tgt := 108) (by decide) (fun hc => ?_) (fun hc => ?_)
    · have Hf := c_i_t Hf hc
      exact hJ108 T92 Hf _ _ _ hP hS (lv_sub hl [0, 1, 2, 4, 5] rfl)
    have Hf := c_i_f Hf hc
    refine lv_aload_n hx hb dX9_next_98 rfl (lv_at hl 0 rfl) ?_
    obtain ⟨hk_a0, Hf⟩ := c_g_some Hf
    obtain ⟨q99, hq99, Hf⟩ := c_n_some Hf
    refine fg_10_37 hx hb hts hown hK hP hk_a0 lkf_X9_124 hq99 dX9_next_99 ?_
    refine lv_iload hx hb dX9_next_102 (lv_at hl 5 rfl) ?_
    obtain ⟨hk_q99, Hf⟩ := c_g_some Hf
    obtain ⟨hi104, Hf⟩ := c_g_some Hf
    refine r_zald hx hb hK hP hk_q99 hi104 dX9_next_104 ?_
    refine lv_if_eq hx hb dX9_next_105 (tgt := 112) (by decide) (fun hc => ?_) (fun hc => ?_)
    · have Hf := c_i_t Hf hc
      exact hJ112 T92 Hf _ _ _ hP hS (lv_sub hl [0, 1, 2, 4, 5] rfl)
    have Hf := c_i_f Hf hc
    exact hJ108 T92 Hf _ _ _ hP hS (lv_sub hl [0, 1, 2, 4, 5] rfl)
  have Hf := c_i_f Hf hc
  refine lv_iconst (v := (-1)) hx hb dX9_next_25 (by decide) ?_
  cases Hf
  exact r_iret hx hb hr rfl hlocks dX9_next_26 (Nat.le_of_ble_eq_true rfl) (Nat.le_of_ble_eq_true rfl) hP hS

def f_X9_says (S : st_T) (a0 : Nat) (x1 : Int32) (x2 : Int32) (x3 : Int32) : Option (Int32 × st_T) :=
  (c_g (st_K S a0 = 11) (c_c (f_X9_of S a0 x1 x2 5) (fun (r4 : Int32) (T4 : st_T) => (c_i (((r4 >>> (x3 &&& 31)) &&& 1) = 1) (some (1, T4)) (some (0, T4))))))
set_option maxRecDepth 100000 in
set_option maxHeartbeats 4000000 in
theorem s_X9_says (l : Launch) (X : st_I) {S SE : st_T} {a0 : Nat} {x1 : Int32} {x2 : Int32} {x3 : Int32} {rr : Int32} (Hf : f_X9_says S a0 x1 x2 x3 = some (rr, SE)) : Met l yX9_says (Cond.code yX9_says cX9_says 4 (some .boolean) :: lw_g) { frames := 1, cells := 0, slots := 0, locals := 23 } (st_P X S [.ref a0, .int x1, .int x2, .int x3]) (st_Q X (st_A S) (some (.int rr)) SE) 0 0 (st_A S) := by
  refine st_ofW (by decide) (Nat.le_of_ble_eq_true rfl) ?_
  intro p e s m args below meth c hx hb hr hml hlocks hnm hts hown hK hRO hA hP hS ls hl
  have hown : s.vm.findClass RX9 = some m.cls := hown
  have hl : lv_has ls 4 [(0, .ref a0), (1, .int x1), (2, .int x2), (3, .int x3)] := hl
  unfold f_X9_says at Hf
  refine lv_aload_n hx hb dX9_says_0 rfl (lv_at hl 0 rfl) ?_
  refine lv_iload_n hx hb dX9_says_1 rfl (lv_at hl 1 rfl) ?_
  refine lv_iload_n hx hb dX9_says_2 rfl (lv_at hl 2 rfl) ?_
  refine lv_iconst (v := 5) hx hb dX9_says_3 (by decide) ?_
  obtain ⟨hk_a0, Hf⟩ := c_g_some Hf
  obtain ⟨r4, T4, hq4, Hf⟩ := c_c_some Hf
  refine r_cV (n := 3) (As := [.int x1, .int x2, .int 5]) (rest := []) ⟨hx, hb, hml, hown, hts⟩ (s_X9_of l X hq4) lkm_X9_244 (by decide +kernel) rfl (by decide) dX9_says_4 rfl rfl ⟨Nat.le_of_ble_eq_true rfl, Nat.le_of_ble_eq_true rfl⟩ hk_a0 rfl hl.1 (Nat.le_of_ble_eq_true rfl) ⟨Nat.le_of_ble_eq_true rfl, Nat.le_of_ble_eq_true rfl⟩ hK hRO hA hP hS (fun H locs hP hS => ?_)
  refine W.eq (g2 := F0 m 7 ls [.int r4]) rfl ?_
  refine lv_iload_n hx hb dX9_says_7 rfl (lv_at hl 3 rfl) ?_
  refine lv_ishr hx hb dX9_says_8 ?_
  refine lv_iconst (v := 1) hx hb dX9_says_9 (by decide) ?_
  refine lv_iand hx hb dX9_says_10 ?_
  refine lv_iconst (v := 1) hx hb dX9_says_11 (by decide) ?_
  refine lv_icmp_ne hx hb dX9_says_12 (tgt := 19) (by decide) (fun hc => ?_) (fun hc => ?_)
  · have Hf := c_i_f Hf hc
    refine lv_iconst (v := 0) hx hb dX9_says_19 (by decide) ?_
    cases Hf
    exact r_zret hx hb hr rfl (Or.inl rfl) hlocks dX9_says_20 (Nat.le_of_ble_eq_true rfl) (Nat.le_of_ble_eq_true rfl) hP hS
  have Hf := c_i_t Hf hc
  refine lv_iconst (v := 1) hx hb dX9_says_15 (by decide) ?_
  refine lv_goto hx hb dX9_says_16 (tgt := 20) (by decide) ?_
  cases Hf
  exact r_zret hx hb hr rfl (Or.inr rfl) hlocks dX9_says_20 (Nat.le_of_ble_eq_true rfl) (Nat.le_of_ble_eq_true rfl) hP hS

def j_X9_quarrel_79 (rec5 : st_T × Int32 × Int32 → Option (Int32 × st_T)) (y3_5 : Int32) (y4_5 : Int32) (S79 : st_T) (u0_79 : Int32) : Option (Int32 × st_T) :=
  (c_l (y3_5 + u0_79) (fun (z3_80 : Int32) => (rec5 (S79, z3_80, (y4_5 + 1)))))
def j_X9_quarrel_78 (rec5 : st_T × Int32 × Int32 → Option (Int32 × st_T)) (y3_5 : Int32) (y4_5 : Int32) (S78 : st_T) : Option (Int32 × st_T) :=
  (j_X9_quarrel_79 rec5 y3_5 y4_5 S78 0)
def b_X9_quarrel_5 (a0 : Nat) (x1 : Int32) (x2 : Int32) (rec5 : st_T × Int32 × Int32 → Option (Int32 × st_T)) (q : st_T × Int32 × Int32) : Option (Int32 × st_T) :=
  (fun (S5 : st_T) (y3_5 : Int32) (y4_5 : Int32) =>
  (c_i (144 ≤ y4_5) (some (y3_5, S5)) (c_g (st_K S5 a0 = 11) (c_c (f_X9_lineAt S5 a0 x1 y4_5) (fun (r17 : Int32) (T17 : st_T) => (c_g (st_K T17 a0 = 11) (c_c (f_X9_lineAt T17 a0 x2 y4_5) (fun (r26 : Int32) (T26 : st_T) => (c_i (r17 < 0) (j_X9_quarrel_78 rec5 y3_5 y4_5 T26) (c_i (r26 < 0) (j_X9_quarrel_78 rec5 y3_5 y4_5 T26) (c_g (st_K T26 a0 = 11) (c_n (st_fr T26 1029 a0) (fun (q47 : Nat) => (c_g (st_K T26 q47 = 20) (c_g (c_in x2 (st_ln T26 q47)) (c_c (f_X9_says T26 a0 x1 r17 (st_ri T26 q47 (x2 : Int32).toNatClampNeg)) (fun (r52 : Int32) (T52 : st_T) => (c_i (r52 = 0) (j_X9_quarrel_78 rec5 y3_5 y4_5 T52) (c_g (st_K T52 a0 = 11) (c_n (st_fr T52 1029 a0) (fun (q63 : Nat) => (c_g (st_K T52 q63 = 20) (c_g (c_in x1 (st_ln T52 q63)) (c_c (f_X9_says T52 a0 x2 r26 (st_ri T52 q63 (x1 : Int32).toNatClampNeg)) (fun (r68 : Int32) (T68 : st_T) => (c_i (r68 = 0) (j_X9_quarrel_79 rec5 y3_5 y4_5 T68 1) (j_X9_quarrel_78 rec5 y3_5 y4_5 T68))))))))))))))))))))))))))) q.1 q.2.1 q.2.2
def f_X9_quarrel (S : st_T) (a0 : Nat) (x1 : Int32) (x2 : Int32) : Option (Int32 × st_T) :=
  (c_w (b_X9_quarrel_5 a0 x1 x2) c_N (S, 0, 0))
set_option maxRecDepth 100000 in
set_option maxHeartbeats 4000000 in
theorem s_X9_quarrel (l : Launch) (X : st_I) {S SE : st_T} {a0 : Nat} {x1 : Int32} {x2 : Int32} {rr : Int32} (Hf : f_X9_quarrel S a0 x1 x2 = some (rr, SE)) : Met l yX9_quarrel (Cond.code yX9_quarrel cX9_quarrel 7 (some .int) :: lw_g) { frames := 2, cells := 0, slots := 0, locals := 47 } (st_P X S [.ref a0, .int x1, .int x2]) (st_Q X (st_A S) (some (.int rr)) SE) 0 0 (st_A S) := by
  refine st_ofW (by decide) (Nat.le_of_ble_eq_true rfl) ?_
  intro p e s m args below meth c hx hb hr hml hlocks hnm hts hown hK hRO hA hP hS ls hl
  have hown : s.vm.findClass RX9 = some m.cls := hown
  have hl : lv_has ls 7 [(0, .ref a0), (1, .int x1), (2, .int x2)] := hl
  unfold f_X9_quarrel at Hf
  refine lv_iconst (v := 0) hx hb dX9_quarrel_0 (by decide) ?_
  refine lv_istore_n (lv' := [(3, .int 0), (0, .ref a0), (1, .int x1), (2, .int x2)]) hx hb dX9_quarrel_1 rfl hl (by decide) rfl (fun ls hl => ?_)
  refine lv_iconst (v := 0) hx hb dX9_quarrel_2 (by decide) ?_
  refine lv_istore (lv' := [(4, .int 0), (3, .int 0), (0, .ref a0), (1, .int x1), (2, .int x2)]) hx hb dX9_quarrel_3 hl (by decide) rfl (fun ls hl => ?_)
  refine (c_w_ind (P := fun (q : st_T × Int32 × Int32) => ∀ (H : Heap) (locs : List Loc) (ls : Array Slot), st_HP X (st_A S) q.1 H → va_S (st_A S) s.heap H locs → lv_has ls 7 [(0, .ref a0), (1, .int x1), (2, .int x2), (3, .int q.2.1), (4, .int q.2.2)] → W p l e { frames := 2, cells := 0, slots := 0, locals := 47 } s m args below meth c H locs 0 0 (MQ below (st_Q X (st_A S) (some (.int rr)) SE) args s 0 0 (st_A S)) (F0 m 5 ls [])) ?_ _ _ Hf) _ _ _ hP hS (lv_sub hl [2, 3, 4, 1, 0] rfl)
  intro rec5 hrec5 q Hf H locs ls hP hS hl
  obtain ⟨S5, y3_5, y4_5⟩ := q
  unfold b_X9_quarrel_5 at Hf
  try dsimp only at Hf
  try dsimp only at hP
  try dsimp only at hl
  try dsimp only
  refine lv_iload hx hb dX9_quarrel_5 (lv_at hl 4 rfl) ?_
  refine lv_sipush (v := 144) hx hb dX9_quarrel_7 (by decide) ?_
  refine lv_icmp_ge hx hb dX9_quarrel_10 (tgt := 87) (by decide) (fun hc => ?_) (fun hc => ?_)
  · have Hf := c_i_t Hf hc
    refine lv_iload_n hx hb dX9_quarrel_87 rfl (lv_at hl 3 rfl) ?_
    cases Hf
    exact r_iret hx hb hr rfl hlocks dX9_quarrel_88 (Nat.le_of_ble_eq_true rfl) (Nat.le_of_ble_eq_true rfl) hP hS
  have Hf := c_i_f Hf hc
  refine lv_aload_n hx hb dX9_quarrel_13 rfl (lv_at hl 0 rfl) ?_
  refine lv_iload_n hx hb dX9_quarrel_14 rfl (lv_at hl 1 rfl) ?_
  refine lv_iload hx hb dX9_quarrel_15 (lv_at hl 4 rfl) ?_
  obtain ⟨hk_a0, Hf⟩ := c_g_some Hf
  obtain ⟨r17, T17, hq17, Hf⟩ := c_c_some Hf
  refine r_cV (n := 2) (As := [.int x1, .int y4_5]) (rest := []) ⟨hx, hb, hml, hown, hts⟩ (s_X9_lineAt l X hq17) lkm_X9_250 (by decide +kernel) rfl (by decide) dX9_quarrel_17 rfl rfl ⟨Nat.le_of_ble_eq_true rfl, Nat.le_of_ble_eq_true rfl⟩ hk_a0 rfl hl.1 (Nat.le_of_ble_eq_true rfl) ⟨Nat.le_of_ble_eq_true rfl, Nat.le_of_ble_eq_true rfl⟩ hK hRO hA hP hS (fun H locs hP hS => ?_)
  refine W.eq (g2 := F0 m 20 ls [.int r17]) rfl ?_
  refine lv_istore (lv' := [(5, .int r17), (0, .ref a0), (1, .int x1), (2, .int x2), (3, .int y3_5), (4, .int y4_5)]) hx hb dX9_quarrel_20 hl (by decide) rfl (fun ls hl => ?_)
  refine lv_aload_n hx hb dX9_quarrel_22 rfl (lv_at hl 1 rfl) ?_
  refine lv_iload_n hx hb dX9_quarrel_23 rfl (lv_at hl 3 rfl) ?_
  refine lv_iload hx hb dX9_quarrel_24 (lv_at hl 5 rfl) ?_
  obtain ⟨hk_a0, Hf⟩ := c_g_some Hf
  obtain ⟨r26, T26, hq26, Hf⟩ := c_c_some Hf
  refine r_cV (n := 2) (As := [.int x2, .int y4_5]) (rest := []) ⟨hx, hb, hml, hown, hts⟩ (s_X9_lineAt l X hq26) lkm_X9_250 (by decide +kernel) rfl (by decide) dX9_quarrel_26 rfl rfl ⟨Nat.le_of_ble_eq_true rfl, Nat.le_of_ble_eq_true rfl⟩ hk_a0 rfl hl.1 (Nat.le_of_ble_eq_true rfl) ⟨Nat.le_of_ble_eq_true rfl, Nat.le_of_ble_eq_true rfl⟩ hK hRO hA hP hS (fun H locs hP hS => ?_)
  refine W.eq (g2 := F0 m 29 ls [.int r26]) rfl ?_
  refine lv_istore (lv' := [(6, .int r26), (5, .int r17), (0, .ref a0), (1, .int x1), (2, .int x2), (3, .int y3_5), (4, .int y4_5)]) hx hb dX9_quarrel_29 hl (by decide) rfl (fun ls hl => ?_)
  refine lv_iload_n hx hb dX9_quarrel_31 rfl (lv_at hl 5 rfl) ?_
  refine lv_iload hx hb dX9_quarrel_32 (lv_at hl 1 rfl) ?_
  have hJ79 : ∀ (S79 : st_T) (u0_79 : Int32), j_X9_quarrel_79 rec5 y3_5 y4_5 S79 u0_79 = some (rr, SE) → ∀ (H : Heap) (locs : List Loc) (ls : Array Slot), st_HP X (st_A S) S79 H → va_S (st_A S) s.heap H locs → lv_has ls 7 [(0, .ref a0), (1, .int x1), (2, .int x2), (4, .int y4_5)] → W p l e { frames := 2, cells := 0, slots := 0, locals := 47 } s m args below meth c H locs 0 0 (MQ below (st_Q X (st_A S) (some (.int rr)) SE) args s 0 0 (st_A S)) (F0 m 79 ls [.int u0_79, .int y3_5]) := by
    intro S79 u0_79 Hf H locs ls hP hS hl
    unfold j_X9_quarrel_79 at Hf
    refine lv_iadd hx hb dX9_quarrel_79 ?_
    refine lv_topi (fun z3_80 ez3_80 => ?_)
    have Hf := c_l_ren Hf ez3_80
    refine lv_istore_n (lv' := [(3, .int z3_80), (0, .ref a0), (1, .int x1), (2, .int x2), (4, .int y4_5)]) hx hb dX9_quarrel_80 rfl hl (by decide) rfl (fun ls hl => ?_)
    refine lv_iinc (v := (y4_5 + 1)) (lv' := [(4, .int (y4_5 + 1)), (3, .int z3_80), (0, .ref a0), (1, .int x1), (2, .int x2)]) hx hb dX9_quarrel_81 hl (k := 4) rfl rfl (by decide) rfl (fun ls hl => ?_)
    refine lv_goto hx hb dX9_quarrel_84 (tgt := 5) (by decide) ?_
    exact hrec5 (S79, z3_80, (y4_5 + 1)) Hf _ _ _ hP hS (lv_sub hl [2, 3, 4, 1, 0] rfl)
  have hJ78 : ∀ (S78 : st_T), j_X9_quarrel_78 rec5 y3_5 y4_5 S78 = some (rr, SE) → ∀ (H : Heap) (locs : List Loc) (ls : Array Slot), st_HP X (st_A S) S78 H → va_S (st_A S) s.heap H locs → lv_has ls 7 [(0, .ref a0), (1, .int x1), (2, .int x2), (4, .int y4_5)] → W p l e { frames := 2, cells := 0, slots := 0, locals := 47 } s m args below meth c H locs 0 0 (MQ below (st_Q X (st_A S) (some (.int rr)) SE) args s 0 0 (st_A S)) (F0 m 78 ls [.int y3_5]) := by
    intro S78 Hf H locs ls hP hS hl
    unfold j_X9_quarrel_78 at Hf
    refine lv_iconst (v := 0) hx hb dX9_quarrel_78 (by decide) ?_
    exact hJ79 S78 0 Hf _ _ _ hP hS (lv_sub hl [0, 1, 2, 3] rfl)
  refine lv_if_lt hx hb dX9_quarrel_34 (tgt := 78) (by decide) (fun hc => ?_) (fun hc => ?_)
  · have Hf := c_i_t Hf hc
    exact hJ78 T26 Hf _ _ _ hP hS (lv_sub hl [2, 3, 4, 6] rfl)
  have Hf := c_i_f Hf hc
  refine lv_iload hx hb dX9_quarrel_37 (lv_at hl 0 rfl) ?_
  refine lv_if_lt hx hb dX9_quarrel_39 (tgt := 78) (by decide) (fun hc => ?_) (fun hc => ?_)
  · have Hf := c_i_t Hf hc
    exact hJ78 T26 Hf _ _ _ hP hS (lv_sub hl [2, 3, 4, 6] rfl)
  have Hf := c_i_f Hf hc
  refine lv_aload_n hx hb dX9_quarrel_42 rfl (lv_at hl 2 rfl) ?_
  refine lv_iload_n hx hb dX9_quarrel_43 rfl (lv_at hl 3 rfl) ?_
  refine lv_iload hx hb dX9_quarrel_44 (lv_at hl 1 rfl) ?_
  refine lv_aload_n hx hb dX9_quarrel_46 rfl (lv_at hl 2 rfl) ?_
  obtain ⟨hk_a0, Hf⟩ := c_g_some Hf
  obtain ⟨q47, hq47, Hf⟩ := c_n_some Hf
  refine fg_10_29 hx hb hts hown hK hP hk_a0 lkf_X9_100 hq47 dX9_quarrel_47 ?_
  refine lv_iload_n hx hb dX9_quarrel_50 rfl (lv_at hl 4 rfl) ?_
  obtain ⟨hk_q47, Hf⟩ := c_g_some Hf
  obtain ⟨hi51, Hf⟩ := c_g_some Hf
  refine r_iald hx hb hK hP hk_q47 hi51 dX9_quarrel_51 ?_
  obtain ⟨r52, T52, hq52, Hf⟩ := c_c_some Hf
  refine r_cV (n := 3) (As := [.int x1, .int r17, .int (st_ri T26 q47 (x2 : Int32).toNatClampNeg)]) (rest := [.int y3_5]) ⟨hx, hb, hml, hown, hts⟩ (s_X9_says l X hq52) lkm_X9_282 (by decide +kernel) rfl (by decide) dX9_quarrel_52 rfl rfl ⟨Nat.le_of_ble_eq_true rfl, Nat.le_of_ble_eq_true rfl⟩ hk_a0 rfl hl.1 (Nat.le_of_ble_eq_true rfl) ⟨Nat.le_of_ble_eq_true rfl, Nat.le_of_ble_eq_true rfl⟩ hK hRO hA hP hS (fun H locs hP hS => ?_)
  refine W.eq (g2 := F0 m 55 ls [.int r52, .int y3_5]) rfl ?_
  refine lv_if_eq hx hb dX9_quarrel_55 (tgt := 78) (by decide) (fun hc => ?_) (fun hc => ?_)
  · have Hf := c_i_t Hf hc
    exact hJ78 T52 Hf _ _ _ hP hS (lv_sub hl [2, 3, 4, 6] rfl)
  have Hf := c_i_f Hf hc
  refine lv_aload_n hx hb dX9_quarrel_58 rfl (lv_at hl 2 rfl) ?_
  refine lv_iload_n hx hb dX9_quarrel_59 rfl (lv_at hl 4 rfl) ?_
  refine lv_iload hx hb dX9_quarrel_60 (lv_at hl 0 rfl) ?_
  refine lv_aload_n hx hb dX9_quarrel_62 rfl (lv_at hl 2 rfl) ?_
  obtain ⟨hk_a0, Hf⟩ := c_g_some Hf
  obtain ⟨q63, hq63, Hf⟩ := c_n_some Hf
  refine fg_10_29 hx hb hts hown hK hP hk_a0 lkf_X9_100 hq63 dX9_quarrel_63 ?_
  refine lv_iload_n hx hb dX9_quarrel_66 rfl (lv_at hl 3 rfl) ?_
  obtain ⟨hk_q63, Hf⟩ := c_g_some Hf
  obtain ⟨hi67, Hf⟩ := c_g_some Hf
  refine r_iald hx hb hK hP hk_q63 hi67 dX9_quarrel_67 ?_
  obtain ⟨r68, T68, hq68, Hf⟩ := c_c_some Hf
  refine r_cV (n := 3) (As := [.int x2, .int r26, .int (st_ri T52 q63 (x1 : Int32).toNatClampNeg)]) (rest := [.int y3_5]) ⟨hx, hb, hml, hown, hts⟩ (s_X9_says l X hq68) lkm_X9_282 (by decide +kernel) rfl (by decide) dX9_quarrel_68 rfl rfl ⟨Nat.le_of_ble_eq_true rfl, Nat.le_of_ble_eq_true rfl⟩ hk_a0 rfl hl.1 (Nat.le_of_ble_eq_true rfl) ⟨Nat.le_of_ble_eq_true rfl, Nat.le_of_ble_eq_true rfl⟩ hK hRO hA hP hS (fun H locs hP hS => ?_)
  refine W.eq (g2 := F0 m 71 ls [.int r68, .int y3_5]) rfl ?_
  refine lv_if_ne hx hb dX9_quarrel_71 (tgt := 78) (by decide) (fun hc => ?_) (fun hc => ?_)
  · have Hf := c_i_f Hf hc
    exact hJ78 T68 Hf _ _ _ hP hS (lv_sub hl [2, 3, 4, 6] rfl)
  have Hf := c_i_t Hf hc
  refine lv_iconst (v := 1) hx hb dX9_quarrel_74 (by decide) ?_
  refine lv_goto hx hb dX9_quarrel_75 (tgt := 79) (by decide) ?_
  exact hJ79 T68 1 Hf _ _ _ hP hS (lv_sub hl [2, 3, 4, 6] rfl)

def j_X9_quarrels_117 (rec44 : st_T × Int32 × Int32 → Option (Int32 × st_T)) (y3_44 : Int32) (y5_44 : Int32) (S117 : st_T) (u0_117 : Int32) : Option (Int32 × st_T) :=
  (c_l (y3_44 + u0_117) (fun (z3_118 : Int32) => (rec44 (S117, z3_118, (y5_44 + 1)))))
def j_X9_quarrels_116 (rec44 : st_T × Int32 × Int32 → Option (Int32 × st_T)) (y3_44 : Int32) (y5_44 : Int32) (S116 : st_T) : Option (Int32 × st_T) :=
  (j_X9_quarrels_117 rec44 y3_44 y5_44 S116 0)
def b_X9_quarrels_44 (a0 : Nat) (x1 : Int32) (x2 : Int32) (rec32 : st_T × Int32 × Int32 → Option (Int32 × st_T)) (y4_32 : Int32) (rec44 : st_T × Int32 × Int32 → Option (Int32 × st_T)) (q : st_T × Int32 × Int32) : Option (Int32 × st_T) :=
  (fun (S44 : st_T) (y3_44 : Int32) (y5_44 : Int32) =>
  (c_g (st_K S44 a0 = 11) (c_i ((st_fi S44 1027 a0) ≤ y5_44) (rec32 (S44, y3_44, (y4_32 + 1))) (c_i (y4_32 = y5_44) (j_X9_quarrels_116 rec44 y3_44 y5_44 S44) (c_n (st_fr S44 1028 a0) (fun (q62 : Nat) => (c_g (st_K S44 q62 = 20) (c_g (c_in y4_32 (st_ln S44 q62)) (c_i ((st_ri S44 q62 (y4_32 : Int32).toNatClampNeg) = x1) (c_g (c_in y5_44 (st_ln S44 q62)) (c_i ((st_ri S44 q62 (y5_44 : Int32).toNatClampNeg) = x1) (c_n (st_fr S44 1030 a0) (fun (q84 : Nat) => (c_g (st_K S44 q84 = 20) (c_g (c_in y4_32 (st_ln S44 q84)) (c_i ((st_ri S44 q84 (y4_32 : Int32).toNatClampNeg) = x2) (c_g (c_in y5_44 (st_ln S44 q84)) (c_i ((st_ri S44 q84 (y5_44 : Int32).toNatClampNeg) = x2) (c_c (f_X9_quarrel S44 a0 y4_32 y5_44) (fun (r110 : Int32) (T110 : st_T) => (j_X9_quarrels_117 rec44 y3_44 y5_44 T110 r110))) (j_X9_quarrels_116 rec44 y3_44 y5_44 S44))) (j_X9_quarrels_116 rec44 y3_44 y5_44 S44)))))) (j_X9_quarrels_116 rec44 y3_44 y5_44 S44))) (j_X9_quarrels_116 rec44 y3_44 y5_44 S44)))))))))) q.1 q.2.1 q.2.2
def b_X9_quarrels_32 (a0 : Nat) (x1 : Int32) (x2 : Int32) (rec32 : st_T × Int32 × Int32 → Option (Int32 × st_T)) (q : st_T × Int32 × Int32) : Option (Int32 × st_T) :=
  (fun (S32 : st_T) (y3_32 : Int32) (y4_32 : Int32) =>
  (c_g (st_K S32 a0 = 11) (c_i ((st_fi S32 1027 a0) ≤ y4_32) (some (y3_32, S32)) (c_w (b_X9_quarrels_44 a0 x1 x2 rec32 y4_32) c_N (S32, y3_32, 0))))) q.1 q.2.1 q.2.2
def f_X9_quarrels (S : st_T) (a0 : Nat) (x1 : Int32) (x2 : Int32) : Option (Int32 × st_T) :=
  (c_g (st_K S a0 = 11) (c_l (st_pi S 1000 a0 0) (fun (S_2 : st_T) => (c_i (x1 < 0) (some ((-1), S_2)) (c_i (9 < x1) (some ((-1), S_2)) (c_i (x2 < 0) (some ((-1), S_2)) (c_i (x2 ≤ 6) (c_w (b_X9_quarrels_32 a0 x1 x2) c_N (S_2, 0, 0)) (some ((-1), S_2)))))))))
set_option maxRecDepth 100000 in
set_option maxHeartbeats 4000000 in
theorem s_X9_quarrels (l : Launch) (X : st_I) {S SE : st_T} {a0 : Nat} {x1 : Int32} {x2 : Int32} {rr : Int32} (Hf : f_X9_quarrels S a0 x1 x2 = some (rr, SE)) : Met l yX9_quarrels (Cond.code yX9_quarrels cX9_quarrels 6 (some .int) :: lw_g) { frames := 3, cells := 0, slots := 0, locals := 73 } (st_P X S [.ref a0, .int x1, .int x2]) (st_Q X (st_A S) (some (.int rr)) SE) 0 0 (st_A S) := by
  refine st_ofW (by decide) (Nat.le_of_ble_eq_true rfl) ?_
  intro p e s m args below meth c hx hb hr hml hlocks hnm hts hown hK hRO hA hP hS ls hl
  have hown : s.vm.findClass RX9 = some m.cls := hown
  have hl : lv_has ls 6 [(0, .ref a0), (1, .int x1), (2, .int x2)] := hl
  unfold f_X9_quarrels at Hf
  refine lv_aload_n hx hb dX9_quarrels_0 rfl (lv_at hl 0 rfl) ?_
  refine lv_iconst (v := 0) hx hb dX9_quarrels_1 (by decide) ?_
  obtain ⟨hk_a0, Hf⟩ := c_g_some Hf
  refine fp_10_0 hx hb hts hown hK hP hS hk_a0 lkf_X9_131 dX9_quarrels_2 (fun H locs hP hS => ?_)
  obtain ⟨S_2, eS_2, Hf⟩ := c_l_ex Hf
  have hP : st_HP X (st_A S) S_2 H := by rw [eS_2]; exact hP
  refine lv_iload_n hx hb dX9_quarrels_5 rfl (lv_at hl 1 rfl) ?_
  refine lv_if_lt hx hb dX9_quarrels_6 (tgt := 25) (by decide) (fun hc => ?_) (fun hc => ?_)
  · have Hf := c_i_t Hf hc
    refine lv_iconst (v := (-1)) hx hb dX9_quarrels_25 (by decide) ?_
    cases Hf
    exact r_iret hx hb hr rfl hlocks dX9_quarrels_26 (Nat.le_of_ble_eq_true rfl) (Nat.le_of_ble_eq_true rfl) hP hS
  have Hf := c_i_f Hf hc
  refine lv_iload_n hx hb dX9_quarrels_9 rfl (lv_at hl 1 rfl) ?_
  refine lv_bipush (v := 9) hx hb dX9_quarrels_10 (by decide) ?_
  refine lv_icmp_gt hx hb dX9_quarrels_12 (tgt := 25) (by decide) (fun hc => ?_) (fun hc => ?_)
  · have Hf := c_i_t Hf hc
    refine lv_iconst (v := (-1)) hx hb dX9_quarrels_25 (by decide) ?_
    cases Hf
    exact r_iret hx hb hr rfl hlocks dX9_quarrels_26 (Nat.le_of_ble_eq_true rfl) (Nat.le_of_ble_eq_true rfl) hP hS
  have Hf := c_i_f Hf hc
  refine lv_iload_n hx hb dX9_quarrels_15 rfl (lv_at hl 2 rfl) ?_
  refine lv_if_lt hx hb dX9_quarrels_16 (tgt := 25) (by decide) (fun hc => ?_) (fun hc => ?_)
  · have Hf := c_i_t Hf hc
    refine lv_iconst (v := (-1)) hx hb dX9_quarrels_25 (by decide) ?_
    cases Hf
    exact r_iret hx hb hr rfl hlocks dX9_quarrels_26 (Nat.le_of_ble_eq_true rfl) (Nat.le_of_ble_eq_true rfl) hP hS
  have Hf := c_i_f Hf hc
  refine lv_iload_n hx hb dX9_quarrels_19 rfl (lv_at hl 2 rfl) ?_
  refine lv_bipush (v := 6) hx hb dX9_quarrels_20 (by decide) ?_
  refine lv_icmp_le hx hb dX9_quarrels_22 (tgt := 27) (by decide) (fun hc => ?_) (fun hc => ?_)
  · have Hf := c_i_t Hf hc
    refine lv_iconst (v := 0) hx hb dX9_quarrels_27 (by decide) ?_
    refine lv_istore_n (lv' := [(3, .int 0), (0, .ref a0), (1, .int x1), (2, .int x2)]) hx hb dX9_quarrels_28 rfl hl (by decide) rfl (fun ls hl => ?_)
    refine lv_iconst (v := 0) hx hb dX9_quarrels_29 (by decide) ?_
    refine lv_istore (lv' := [(4, .int 0), (3, .int 0), (0, .ref a0), (1, .int x1), (2, .int x2)]) hx hb dX9_quarrels_30 hl (by decide) rfl (fun ls hl => ?_)
    refine (c_w_ind (P := fun (q : st_T × Int32 × Int32) => ∀ (H : Heap) (locs : List Loc) (ls : Array Slot), st_HP X (st_A S) q.1 H → va_S (st_A S) s.heap H locs → lv_has ls 6 [(0, .ref a0), (1, .int x1), (2, .int x2), (3, .int q.2.1), (4, .int q.2.2)] → W p l e { frames := 3, cells := 0, slots := 0, locals := 73 } s m args below meth c H locs 0 0 (MQ below (st_Q X (st_A S) (some (.int rr)) SE) args s 0 0 (st_A S)) (F0 m 32 ls [])) ?_ _ _ Hf) _ _ _ hP hS (lv_sub hl [2, 3, 4, 1, 0] rfl)
    intro rec32 hrec32 q Hf H locs ls hP hS hl
    obtain ⟨S32, y3_32, y4_32⟩ := q
    unfold b_X9_quarrels_32 at Hf
    try dsimp only at Hf
    try dsimp only at hP
    try dsimp only at hl
    try dsimp only
    refine lv_iload hx hb dX9_quarrels_32 (lv_at hl 4 rfl) ?_
    refine lv_aload_n hx hb dX9_quarrels_34 rfl (lv_at hl 0 rfl) ?_
    obtain ⟨hk_a0, Hf⟩ := c_g_some Hf
    refine fg_10_27 hx hb hts hown hK hP hk_a0 lkf_X9_236 dX9_quarrels_35 ?_
    refine lv_icmp_ge hx hb dX9_quarrels_38 (tgt := 131) (by decide) (fun hc => ?_) (fun hc => ?_)
    · have Hf := c_i_t Hf hc
      refine lv_iload_n hx hb dX9_quarrels_131 rfl (lv_at hl 3 rfl) ?_
      cases Hf
      exact r_iret hx hb hr rfl hlocks dX9_quarrels_132 (Nat.le_of_ble_eq_true rfl) (Nat.le_of_ble_eq_true rfl) hP hS
    have Hf := c_i_f Hf hc
    refine lv_iconst (v := 0) hx hb dX9_quarrels_41 (by decide) ?_
    refine lv_istore (lv' := [(5, .int 0), (0, .ref a0), (1, .int x1), (2, .int x2), (3, .int y3_32), (4, .int y4_32)]) hx hb dX9_quarrels_42 hl (by decide) rfl (fun ls hl => ?_)
    refine (c_w_ind (P := fun (q : st_T × Int32 × Int32) => ∀ (H : Heap) (locs : List Loc) (ls : Array Slot), st_HP X (st_A S) q.1 H → va_S (st_A S) s.heap H locs → lv_has ls 6 [(0, .ref a0), (1, .int x1), (2, .int x2), (3, .int q.2.1), (4, .int y4_32), (5, .int q.2.2)] → W p l e { frames := 3, cells := 0, slots := 0, locals := 73 } s m args below meth c H locs 0 0 (MQ below (st_Q X (st_A S) (some (.int rr)) SE) args s 0 0 (st_A S)) (F0 m 44 ls [])) ?_ _ _ Hf) _ _ _ hP hS (lv_sub hl [1, 2, 3, 4, 5, 0] rfl)
    intro rec44 hrec44 q Hf H locs ls hP hS hl
    obtain ⟨S44, y3_44, y5_44⟩ := q
    unfold b_X9_quarrels_44 at Hf
    try dsimp only at Hf
    try dsimp only at hP
    try dsimp only at hl
    try dsimp only
    refine lv_iload hx hb dX9_quarrels_44 (lv_at hl 5 rfl) ?_
    refine lv_aload_n hx hb dX9_quarrels_46 rfl (lv_at hl 0 rfl) ?_
    obtain ⟨hk_a0, Hf⟩ := c_g_some Hf
    refine fg_10_27 hx hb hts hown hK hP hk_a0 lkf_X9_236 dX9_quarrels_47 ?_
    refine lv_icmp_ge hx hb dX9_quarrels_50 (tgt := 125) (by decide) (fun hc => ?_) (fun hc => ?_)
    · have Hf := c_i_t Hf hc
      refine lv_iinc (v := (y4_32 + 1)) (lv' := [(4, .int (y4_32 + 1)), (0, .ref a0), (1, .int x1), (2, .int x2), (3, .int y3_44), (5, .int y5_44)]) hx hb dX9_quarrels_125 hl (k := 4) rfl rfl (by decide) rfl (fun ls hl => ?_)
      refine lv_goto hx hb dX9_quarrels_128 (tgt := 32) (by decide) ?_
      exact hrec32 (S44, y3_44, (y4_32 + 1)) Hf _ _ _ hP hS (lv_sub hl [1, 2, 3, 4, 0] rfl)
    have Hf := c_i_f Hf hc
    refine lv_iload_n hx hb dX9_quarrels_53 rfl (lv_at hl 3 rfl) ?_
    refine lv_iload hx hb dX9_quarrels_54 (lv_at hl 4 rfl) ?_
    refine lv_iload hx hb dX9_quarrels_56 (lv_at hl 5 rfl) ?_
    have hJ117 : ∀ (S117 : st_T) (u0_117 : Int32), j_X9_quarrels_117 rec44 y3_44 y5_44 S117 u0_117 = some (rr, SE) → ∀ (H : Heap) (locs : List Loc) (ls : Array Slot), st_HP X (st_A S) S117 H → va_S (st_A S) s.heap H locs → lv_has ls 6 [(0, .ref a0), (1, .int x1), (2, .int x2), (4, .int y4_32), (5, .int y5_44)] → W p l e { frames := 3, cells := 0, slots := 0, locals := 73 } s m args below meth c H locs 0 0 (MQ below (st_Q X (st_A S) (some (.int rr)) SE) args s 0 0 (st_A S)) (F0 m 117 ls [.int u0_117, .int y3_44]) := by
      intro S117 u0_117 Hf H locs ls hP hS hl
      unfold j_X9_quarrels_117 at Hf
      refine lv_iadd hx hb dX9_quarrels_117 ?_
      refine lv_topi (fun z3_118 ez3_118 => ?_)
      have Hf := c_l_ren Hf ez3_118
      refine lv_istore_n (lv' := [(3, .int z3_118), (0, .ref a0), (1, .int x1), (2, .int x2), (4, .int y4_32), (5, .int y5_44)]) hx hb dX9_quarrels_118 rfl hl (by decide) rfl (fun ls hl => ?_)
      refine lv_iinc (v := (y5_44 + 1)) (lv' := [(5, .int (y5_44 + 1)), (3, .int z3_118), (0, .ref a0), (1, .int x1), (2, .int x2), (4, .int y4_32)]) hx hb dX9_quarrels_119 hl (k := 5) rfl rfl (by decide) rfl (fun ls hl => ?_)
      refine lv_goto hx hb dX9_quarrels_122 (tgt := 44) (by decide) ?_
      exact hrec44 (S117, z3_118, (y5_44 + 1)) Hf _ _ _ hP hS (lv_sub hl [2, 3, 4, 1, 5, 0] rfl)
    have hJ116 : ∀ (S116 : st_T), j_X9_quarrels_116 rec44 y3_44 y5_44 S116 = some (rr, SE) → ∀ (H : Heap) (locs : List Loc) (ls : Array Slot), st_HP X (st_A S) S116 H → va_S (st_A S) s.heap H locs → lv_has ls 6 [(0, .ref a0), (1, .int x1), (2, .int x2), (4, .int y4_32), (5, .int y5_44)] → W p l e { frames := 3, cells := 0, slots := 0, locals := 73 } s m args below meth c H locs 0 0 (MQ below (st_Q X (st_A S) (some (.int rr)) SE) args s 0 0 (st_A S)) (F0 m 116 ls [.int y3_44]) := by
      intro S116 Hf H locs ls hP hS hl
      unfold j_X9_quarrels_116 at Hf
      refine lv_iconst (v := 0) hx hb dX9_quarrels_116 (by decide) ?_
      exact hJ117 S116 0 Hf _ _ _ hP hS (lv_sub hl [0, 1, 2, 3, 4] rfl)
    refine lv_icmp_eq hx hb dX9_quarrels_58 (tgt := 116) (by decide) (fun hc => ?_) (fun hc => ?_)
    · have Hf := c_i_t Hf hc
      exact hJ116 S44 Hf _ _ _ hP hS (lv_sub hl [0, 1, 2, 4, 5] rfl)
    have Hf := c_i_f Hf hc
    refine lv_aload_n hx hb dX9_quarrels_61 rfl (lv_at hl 0 rfl) ?_
    obtain ⟨q62, hq62, Hf⟩ := c_n_some Hf
    refine fg_10_28 hx hb hts hown hK hP hk_a0 lkf_X9_97 hq62 dX9_quarrels_62 ?_
    refine lv_iload hx hb dX9_quarrels_65 (lv_at hl 4 rfl) ?_
    obtain ⟨hk_q62, Hf⟩ := c_g_some Hf
    obtain ⟨hi67, Hf⟩ := c_g_some Hf
    refine r_iald hx hb hK hP hk_q62 hi67 dX9_quarrels_67 ?_
    refine lv_iload_n hx hb dX9_quarrels_68 rfl (lv_at hl 1 rfl) ?_
    refine lv_icmp_ne hx hb dX9_quarrels_69 (tgt := 116) (by decide) (fun hc => ?_) (fun hc => ?_)
    · have Hf := c_i_f Hf hc
      exact hJ116 S44 Hf _ _ _ hP hS (lv_sub hl [0, 1, 2, 4, 5] rfl)
    have Hf := c_i_t Hf hc
    refine lv_aload_n hx hb dX9_quarrels_72 rfl (lv_at hl 0 rfl) ?_
    refine fg_10_28 hx hb hts hown hK hP hk_a0 lkf_X9_97 hq62 dX9_quarrels_73 ?_
    refine lv_iload hx hb dX9_quarrels_76 (lv_at hl 5 rfl) ?_
    obtain ⟨hi78, Hf⟩ := c_g_some Hf
    refine r_iald hx hb hK hP hk_q62 hi78 dX9_quarrels_78 ?_
    refine lv_iload_n hx hb dX9_quarrels_79 rfl (lv_at hl 1 rfl) ?_
    refine lv_icmp_ne hx hb dX9_quarrels_80 (tgt := 116) (by decide) (fun hc => ?_) (fun hc => ?_)
    · have Hf := c_i_f Hf hc
      exact hJ116 S44 Hf _ _ _ hP hS (lv_sub hl [0, 1, 2, 4, 5] rfl)
    have Hf := c_i_t Hf hc
    refine lv_aload_n hx hb dX9_quarrels_83 rfl (lv_at hl 0 rfl) ?_
    obtain ⟨q84, hq84, Hf⟩ := c_n_some Hf
    refine fg_10_30 hx hb hts hown hK hP hk_a0 lkf_X9_103 hq84 dX9_quarrels_84 ?_
    refine lv_iload hx hb dX9_quarrels_87 (lv_at hl 4 rfl) ?_
    obtain ⟨hk_q84, Hf⟩ := c_g_some Hf
    obtain ⟨hi89, Hf⟩ := c_g_some Hf
    refine r_iald hx hb hK hP hk_q84 hi89 dX9_quarrels_89 ?_
    refine lv_iload_n hx hb dX9_quarrels_90 rfl (lv_at hl 2 rfl) ?_
    refine lv_icmp_ne hx hb dX9_quarrels_91 (tgt := 116) (by decide) (fun hc => ?_) (fun hc => ?_)
    · have Hf := c_i_f Hf hc
      exact hJ116 S44 Hf _ _ _ hP hS (lv_sub hl [0, 1, 2, 4, 5] rfl)
    have Hf := c_i_t Hf hc
    refine lv_aload_n hx hb dX9_quarrels_94 rfl (lv_at hl 0 rfl) ?_
    refine fg_10_30 hx hb hts hown hK hP hk_a0 lkf_X9_103 hq84 dX9_quarrels_95 ?_
    refine lv_iload hx hb dX9_quarrels_98 (lv_at hl 5 rfl) ?_
    obtain ⟨hi100, Hf⟩ := c_g_some Hf
    refine r_iald hx hb hK hP hk_q84 hi100 dX9_quarrels_100 ?_
    refine lv_iload_n hx hb dX9_quarrels_101 rfl (lv_at hl 2 rfl) ?_
    refine lv_icmp_ne hx hb dX9_quarrels_102 (tgt := 116) (by decide) (fun hc => ?_) (fun hc => ?_)
    · have Hf := c_i_f Hf hc
      exact hJ116 S44 Hf _ _ _ hP hS (lv_sub hl [0, 1, 2, 4, 5] rfl)
    have Hf := c_i_t Hf hc
    refine lv_aload_n hx hb dX9_quarrels_105 rfl (lv_at hl 0 rfl) ?_
    refine lv_iload hx hb dX9_quarrels_106 (lv_at hl 4 rfl) ?_
    refine lv_iload hx hb dX9_quarrels_108 (lv_at hl 5 rfl) ?_
    obtain ⟨r110, T110, hq110, Hf⟩ := c_c_some Hf
    refine r_cV (n := 2) (As := [.int y4_32, .int y5_44]) (rest := [.int y3_44]) ⟨hx, hb, hml, hown, hts⟩ (s_X9_quarrel l X hq110) lkm_X9_285 (by decide +kernel) rfl (by decide) dX9_quarrels_110 rfl rfl ⟨Nat.le_of_ble_eq_true rfl, Nat.le_of_ble_eq_true rfl⟩ hk_a0 rfl hl.1 (Nat.le_of_ble_eq_true rfl) ⟨Nat.le_of_ble_eq_true rfl, Nat.le_of_ble_eq_true rfl⟩ hK hRO hA hP hS (fun H locs hP hS => ?_)
    refine W.eq (g2 := F0 m 113 ls [.int r110, .int y3_44]) rfl ?_
    refine lv_goto hx hb dX9_quarrels_113 (tgt := 117) (by decide) ?_
    exact hJ117 T110 r110 Hf _ _ _ hP hS (lv_sub hl [0, 1, 2, 4, 5] rfl)
  have Hf := c_i_f Hf hc
  refine lv_iconst (v := (-1)) hx hb dX9_quarrels_25 (by decide) ?_
  cases Hf
  exact r_iret hx hb hr rfl hlocks dX9_quarrels_26 (Nat.le_of_ble_eq_true rfl) (Nat.le_of_ble_eq_true rfl) hP hS

def j_X9_day_130 (rec54 : st_T × Int32 × Int32 × Int32 × Int32 → Option (Int32 × st_T)) (y5_54 : Int32) (y6_54 : Int32) (z3_86 : Int32) (z4_111 : Int32) (S130 : st_T) (u0_130 : Int32) : Option (Int32 × st_T) :=
  (c_l (y5_54 + u0_130) (fun (z5_131 : Int32) => (rec54 (S130, z3_86, z4_111, z5_131, (y6_54 + 1)))))
def j_X9_day_110 (a0 : Nat) (rec54 : st_T × Int32 × Int32 × Int32 × Int32 → Option (Int32 × st_T)) (y4_54 : Int32) (y5_54 : Int32) (y6_54 : Int32) (z3_86 : Int32) (S110 : st_T) (u0_110 : Int32) : Option (Int32 × st_T) :=
  (c_l (y4_54 + u0_110) (fun (z4_111 : Int32) => (c_g (st_K S110 a0 = 11) (c_n (st_fr S110 1035 a0) (fun (q116 : Nat) => (c_g (st_K S110 q116 = 20) (c_g (c_in y6_54 (st_ln S110 q116)) (c_i (0 ≤ (st_ri S110 q116 (y6_54 : Int32).toNatClampNeg)) (j_X9_day_130 rec54 y5_54 y6_54 z3_86 z4_111 S110 0) (j_X9_day_130 rec54 y5_54 y6_54 z3_86 z4_111 S110 1)))))))))
def b_X9_day_54 (a0 : Nat) (x1 : Int32) (x2 : Int32) (rec54 : st_T × Int32 × Int32 × Int32 × Int32 → Option (Int32 × st_T)) (q : st_T × Int32 × Int32 × Int32 × Int32) : Option (Int32 × st_T) :=
  (fun (S54 : st_T) (y3_54 : Int32) (y4_54 : Int32) (y5_54 : Int32) (y6_54 : Int32) =>
  (c_g (st_K S54 a0 = 11) (c_n (st_fr S54 1033 a0) (fun (q57 : Nat) => (c_g (st_K S54 q57 = 20) (c_g (c_in x1 (st_ln S54 q57)) (c_i ((st_ri S54 q57 (x1 : Int32).toNatClampNeg) ≤ y6_54) (c_i (x2 = 0) (c_g (c_in x1 (st_ln S54 q57)) (some ((st_ri S54 q57 (x1 : Int32).toNatClampNeg), S54))) (c_i (x2 = 1) (some (y3_54, S54)) (c_i (x2 = 2) (some (y4_54, S54)) (c_i (x2 = 3) (some (y5_54, S54)) (c_i (x2 = 4) (c_n (st_fr S54 1028 a0) (fun (q200 : Nat) => (c_g (st_K S54 q200 = 20) (c_g (c_in x1 (st_ln S54 q200)) (some ((st_ri S54 q200 (x1 : Int32).toNatClampNeg), S54)))))) (c_i (x2 = 5) (c_n (st_fr S54 1029 a0) (fun (q207 : Nat) => (c_g (st_K S54 q207 = 20) (c_g (c_in x1 (st_ln S54 q207)) (some ((st_ri S54 q207 (x1 : Int32).toNatClampNeg), S54)))))) (c_i (x2 = 6) (c_n (st_fr S54 1030 a0) (fun (q214 : Nat) => (c_g (st_K S54 q214 = 20) (c_g (c_in x1 (st_ln S54 q214)) (some ((st_ri S54 q214 (x1 : Int32).toNatClampNeg), S54)))))) (c_n (st_fr S54 1031 a0) (fun (q221 : Nat) => (c_g (st_K S54 q221 = 20) (c_g (c_in x1 (st_ln S54 q221)) (some ((st_ri S54 q221 (x1 : Int32).toNatClampNeg), S54))))))))))))) (c_c (f_X9_of S54 a0 x1 y6_54 1) (fun (r71 : Int32) (T71 : st_T) => (c_g (st_K T71 a0 = 11) (c_c (f_X9_of T71 a0 x1 y6_54 0) (fun (r79 : Int32) (T79 : st_T) => (c_l (y3_54 - ((r71 - r79) + 1)) (fun (z3_86 : Int32) => (c_g (st_K T79 a0 = 11) (c_n (st_fr T79 1037 a0) (fun (q90 : Nat) => (c_g (st_K T79 q90 = 23) (c_g (c_in y6_54 (st_ln T79 q90)) (c_i ((st_ri T79 q90 (y6_54 : Int32).toNatClampNeg) = 0) (j_X9_day_110 a0 rec54 y4_54 y5_54 y6_54 z3_86 T79 0) (c_c (f_X9_gapAhead T79 a0 x1 y6_54) (fun (r103 : Int32) (T103 : st_T) => (j_X9_day_110 a0 rec54 y4_54 y5_54 y6_54 z3_86 T103 r103))))))))))))))))))))))) q.1 q.2.1 q.2.2.1 q.2.2.2.1 q.2.2.2.2
def j_X9_day_24 (a0 : Nat) (x1 : Int32) (x2 : Int32) (S24 : st_T) (u0_24 : Int32) : Option (Int32 × st_T) :=
  (c_g (st_K S24 a0 = 11) (c_l (st_pi S24 1000 a0 u0_24) (fun (S_24 : st_T) => (c_i ((st_fi S_24 1000 a0) ≤ 0) (c_c (f_X9_findCodes S_24 a0 x1) (fun (r38 : Unit) (T38 : st_T) => (c_w (b_X9_day_54 a0 x1 x2) c_N (T38, 144, 0, 0, 0)))) (some (0, S_24))))))
def j_X9_day_23 (a0 : Nat) (x1 : Int32) (x2 : Int32) (S23 : st_T) : Option (Int32 × st_T) :=
  (j_X9_day_24 a0 x1 x2 S23 1)
def f_X9_day (S : st_T) (a0 : Nat) (x1 : Int32) (x2 : Int32) : Option (Int32 × st_T) :=
  (c_g (st_K S a0 = 11) (c_c (f_X9_isDiary S a0 x1) (fun (r3 : Int32) (T3 : st_T) => (c_i (r3 = 0) (j_X9_day_23 a0 x1 x2 T3) (c_i (x2 < 0) (j_X9_day_23 a0 x1 x2 T3) (c_i (7 < x2) (j_X9_day_23 a0 x1 x2 T3) (j_X9_day_24 a0 x1 x2 T3 0)))))))
set_option maxRecDepth 100000 in
set_option maxHeartbeats 4000000 in
theorem s_X9_day (l : Launch) (X : st_I) {S SE : st_T} {a0 : Nat} {x1 : Int32} {x2 : Int32} {rr : Int32} (Hf : f_X9_day S a0 x1 x2 = some (rr, SE)) : Met l yX9_day (Cond.code yX9_day cX9_day 7 (some .int) :: lw_g) { frames := 4, cells := 0, slots := 0, locals := 98 } (st_P X S [.ref a0, .int x1, .int x2]) (st_Q X (st_A S) (some (.int rr)) SE) 0 0 (st_A S) := by
  refine st_ofW (by decide) (Nat.le_of_ble_eq_true rfl) ?_
  intro p e s m args below meth c hx hb hr hml hlocks hnm hts hown hK hRO hA hP hS ls hl
  have hown : s.vm.findClass RX9 = some m.cls := hown
  have hl : lv_has ls 7 [(0, .ref a0), (1, .int x1), (2, .int x2)] := hl
  unfold f_X9_day at Hf
  refine lv_aload_n hx hb dX9_day_0 rfl (lv_at hl 0 rfl) ?_
  refine lv_aload_n hx hb dX9_day_1 rfl (lv_at hl 0 rfl) ?_
  refine lv_iload_n hx hb dX9_day_2 rfl (lv_at hl 1 rfl) ?_
  obtain ⟨hk_a0, Hf⟩ := c_g_some Hf
  obtain ⟨r3, T3, hq3, Hf⟩ := c_c_some Hf
  refine r_cV (n := 1) (As := [.int x1]) (rest := [.ref a0]) ⟨hx, hb, hml, hown, hts⟩ (s_X9_isDiary l X hq3) lkm_X9_247 (by decide +kernel) rfl (by decide) dX9_day_3 rfl rfl ⟨Nat.le_of_ble_eq_true rfl, Nat.le_of_ble_eq_true rfl⟩ hk_a0 rfl hl.1 (Nat.le_of_ble_eq_true rfl) ⟨Nat.le_of_ble_eq_true rfl, Nat.le_of_ble_eq_true rfl⟩ hK hRO hA hP hS (fun H locs hP hS => ?_)
  refine W.eq (g2 := F0 m 6 ls [.int r3, .ref a0]) rfl ?_
  have hJ24 : ∀ (S24 : st_T) (u0_24 : Int32), j_X9_day_24 a0 x1 x2 S24 u0_24 = some (rr, SE) → ∀ (H : Heap) (locs : List Loc) (ls : Array Slot), st_HP X (st_A S) S24 H → va_S (st_A S) s.heap H locs → lv_has ls 7 [(0, .ref a0), (1, .int x1), (2, .int x2)] → W p l e { frames := 4, cells := 0, slots := 0, locals := 98 } s m args below meth c H locs 0 0 (MQ below (st_Q X (st_A S) (some (.int rr)) SE) args s 0 0 (st_A S)) (F0 m 24 ls [.int u0_24, .ref a0]) := by
    intro S24 u0_24 Hf H locs ls hP hS hl
    unfold j_X9_day_24 at Hf
    obtain ⟨hk_a0, Hf⟩ := c_g_some Hf
    refine fp_10_0 hx hb hts hown hK hP hS hk_a0 lkf_X9_131 dX9_day_24 (fun H locs hP hS => ?_)
    obtain ⟨S_24, eS_24, Hf⟩ := c_l_ex Hf
    have hP : st_HP X (st_A S) S_24 H := by rw [eS_24]; exact hP
    refine lv_aload_n hx hb dX9_day_27 rfl (lv_at hl 0 rfl) ?_
    have hk_a0 : st_K S_24 a0 = 11 := by rw [kp_pi eS_24]; exact hk_a0
    refine fg_10_0 hx hb hts hown hK hP hk_a0 lkf_X9_131 dX9_day_28 ?_
    refine lv_if_le hx hb dX9_day_31 (tgt := 36) (by decide) (fun hc => ?_) (fun hc => ?_)
    · have Hf := c_i_t Hf hc
      refine lv_aload_n hx hb dX9_day_36 rfl (lv_at hl 0 rfl) ?_
      refine lv_iload_n hx hb dX9_day_37 rfl (lv_at hl 1 rfl) ?_
      obtain ⟨r38, T38, hq38, Hf⟩ := c_c_some Hf
      refine r_cV (n := 1) (As := [.int x1]) (rest := []) ⟨hx, hb, hml, hown, hts⟩ (s_X9_findCodes l X hq38) lkm_X9_263 (by decide +kernel) rfl (by decide) dX9_day_38 rfl rfl ⟨Nat.le_of_ble_eq_true rfl, Nat.le_of_ble_eq_true rfl⟩ hk_a0 rfl hl.1 (Nat.le_of_ble_eq_true rfl) ⟨Nat.le_of_ble_eq_true rfl, Nat.le_of_ble_eq_true rfl⟩ hK hRO hA hP hS (fun H locs hP hS => ?_)
      refine W.eq (g2 := F0 m 41 ls []) rfl ?_
      refine lv_sipush (v := 144) hx hb dX9_day_41 (by decide) ?_
      refine lv_istore_n (lv' := [(3, .int 144), (0, .ref a0), (1, .int x1), (2, .int x2)]) hx hb dX9_day_44 rfl hl (by decide) rfl (fun ls hl => ?_)
      refine lv_iconst (v := 0) hx hb dX9_day_45 (by decide) ?_
      refine lv_istore (lv' := [(4, .int 0), (3, .int 144), (0, .ref a0), (1, .int x1), (2, .int x2)]) hx hb dX9_day_46 hl (by decide) rfl (fun ls hl => ?_)
      refine lv_iconst (v := 0) hx hb dX9_day_48 (by decide) ?_
      refine lv_istore (lv' := [(5, .int 0), (4, .int 0), (3, .int 144), (0, .ref a0), (1, .int x1), (2, .int x2)]) hx hb dX9_day_49 hl (by decide) rfl (fun ls hl => ?_)
      refine lv_iconst (v := 0) hx hb dX9_day_51 (by decide) ?_
      refine lv_istore (lv' := [(6, .int 0), (5, .int 0), (4, .int 0), (3, .int 144), (0, .ref a0), (1, .int x1), (2, .int x2)]) hx hb dX9_day_52 hl (by decide) rfl (fun ls hl => ?_)
      refine (c_w_ind (P := fun (q : st_T × Int32 × Int32 × Int32 × Int32) => ∀ (H : Heap) (locs : List Loc) (ls : Array Slot), st_HP X (st_A S) q.1 H → va_S (st_A S) s.heap H locs → lv_has ls 7 [(0, .ref a0), (1, .int x1), (2, .int x2), (3, .int q.2.1), (4, .int q.2.2.1), (5, .int q.2.2.2.1), (6, .int q.2.2.2.2)] → W p l e { frames := 4, cells := 0, slots := 0, locals := 98 } s m args below meth c H locs 0 0 (MQ below (st_Q X (st_A S) (some (.int rr)) SE) args s 0 0 (st_A S)) (F0 m 54 ls [])) ?_ _ _ Hf) _ _ _ hP hS (lv_sub hl [4, 5, 6, 3, 2, 1, 0] rfl)
      intro rec54 hrec54 q Hf H locs ls hP hS hl
      obtain ⟨S54, y3_54, y4_54, y5_54, y6_54⟩ := q
      unfold b_X9_day_54 at Hf
      try dsimp only at Hf
      try dsimp only at hP
      try dsimp only at hl
      try dsimp only
      refine lv_iload hx hb dX9_day_54 (lv_at hl 6 rfl) ?_
      refine lv_aload_n hx hb dX9_day_56 rfl (lv_at hl 0 rfl) ?_
      obtain ⟨hk_a0, Hf⟩ := c_g_some Hf
      obtain ⟨q57, hq57, Hf⟩ := c_n_some Hf
      refine fg_10_33 hx hb hts hown hK hP hk_a0 lkf_X9_112 hq57 dX9_day_57 ?_
      refine lv_iload_n hx hb dX9_day_60 rfl (lv_at hl 1 rfl) ?_
      obtain ⟨hk_q57, Hf⟩ := c_g_some Hf
      obtain ⟨hi61, Hf⟩ := c_g_some Hf
      refine r_iald hx hb hK hP hk_q57 hi61 dX9_day_61 ?_
      refine lv_icmp_ge hx hb dX9_day_62 (tgt := 139) (by decide) (fun hc => ?_) (fun hc => ?_)
      · have Hf := c_i_t Hf hc
        refine lv_iload_n hx hb dX9_day_139 rfl (lv_at hl 2 rfl) ?_
        by_cases hs0 : x2 = 0
        · have Hf := c_i_t Hf hs0
          refine lv_tableIn hx hb dX9_day_140 (by rw [hs0]; decide) (by rw [hs0]; decide) (off := 44) (by rw [hs0]; rfl) (tgt := 184) (by decide) ?_
          refine lv_aload_n hx hb dX9_day_184 rfl (lv_at hl 0 rfl) ?_
          refine fg_10_33 hx hb hts hown hK hP hk_a0 lkf_X9_112 hq57 dX9_day_185 ?_
          refine lv_iload_n hx hb dX9_day_188 rfl (lv_at hl 1 rfl) ?_
          obtain ⟨hi189, Hf⟩ := c_g_some Hf
          refine r_iald hx hb hK hP hk_q57 hi189 dX9_day_189 ?_
          cases Hf
          exact r_iret hx hb hr rfl hlocks dX9_day_190 (Nat.le_of_ble_eq_true rfl) (Nat.le_of_ble_eq_true rfl) hP hS
        have Hf := c_i_f Hf hs0
        by_cases hs1 : x2 = 1
        · have Hf := c_i_t Hf hs1
          refine lv_tableIn hx hb dX9_day_140 (by rw [hs1]; decide) (by rw [hs1]; decide) (off := 51) (by rw [hs1]; rfl) (tgt := 191) (by decide) ?_
          refine lv_iload_n hx hb dX9_day_191 rfl (lv_at hl 3 rfl) ?_
          cases Hf
          exact r_iret hx hb hr rfl hlocks dX9_day_192 (Nat.le_of_ble_eq_true rfl) (Nat.le_of_ble_eq_true rfl) hP hS
        have Hf := c_i_f Hf hs1
        by_cases hs2 : x2 = 2
        · have Hf := c_i_t Hf hs2
          refine lv_tableIn hx hb dX9_day_140 (by rw [hs2]; decide) (by rw [hs2]; decide) (off := 53) (by rw [hs2]; rfl) (tgt := 193) (by decide) ?_
          refine lv_iload hx hb dX9_day_193 (lv_at hl 4 rfl) ?_
          cases Hf
          exact r_iret hx hb hr rfl hlocks dX9_day_195 (Nat.le_of_ble_eq_true rfl) (Nat.le_of_ble_eq_true rfl) hP hS
        have Hf := c_i_f Hf hs2
        by_cases hs3 : x2 = 3
        · have Hf := c_i_t Hf hs3
          refine lv_tableIn hx hb dX9_day_140 (by rw [hs3]; decide) (by rw [hs3]; decide) (off := 56) (by rw [hs3]; rfl) (tgt := 196) (by decide) ?_
          refine lv_iload hx hb dX9_day_196 (lv_at hl 5 rfl) ?_
          cases Hf
          exact r_iret hx hb hr rfl hlocks dX9_day_198 (Nat.le_of_ble_eq_true rfl) (Nat.le_of_ble_eq_true rfl) hP hS
        have Hf := c_i_f Hf hs3
        by_cases hs4 : x2 = 4
        · have Hf := c_i_t Hf hs4
          refine lv_tableIn hx hb dX9_day_140 (by rw [hs4]; decide) (by rw [hs4]; decide) (off := 59) (by rw [hs4]; rfl) (tgt := 199) (by decide) ?_
          refine lv_aload_n hx hb dX9_day_199 rfl (lv_at hl 0 rfl) ?_
          obtain ⟨q200, hq200, Hf⟩ := c_n_some Hf
          refine fg_10_28 hx hb hts hown hK hP hk_a0 lkf_X9_97 hq200 dX9_day_200 ?_
          refine lv_iload_n hx hb dX9_day_203 rfl (lv_at hl 1 rfl) ?_
          obtain ⟨hk_q200, Hf⟩ := c_g_some Hf
          obtain ⟨hi204, Hf⟩ := c_g_some Hf
          refine r_iald hx hb hK hP hk_q200 hi204 dX9_day_204 ?_
          cases Hf
          exact r_iret hx hb hr rfl hlocks dX9_day_205 (Nat.le_of_ble_eq_true rfl) (Nat.le_of_ble_eq_true rfl) hP hS
        have Hf := c_i_f Hf hs4
        by_cases hs5 : x2 = 5
        · have Hf := c_i_t Hf hs5
          refine lv_tableIn hx hb dX9_day_140 (by rw [hs5]; decide) (by rw [hs5]; decide) (off := 66) (by rw [hs5]; rfl) (tgt := 206) (by decide) ?_
          refine lv_aload_n hx hb dX9_day_206 rfl (lv_at hl 0 rfl) ?_
          obtain ⟨q207, hq207, Hf⟩ := c_n_some Hf
          refine fg_10_29 hx hb hts hown hK hP hk_a0 lkf_X9_100 hq207 dX9_day_207 ?_
          refine lv_iload_n hx hb dX9_day_210 rfl (lv_at hl 1 rfl) ?_
          obtain ⟨hk_q207, Hf⟩ := c_g_some Hf
          obtain ⟨hi211, Hf⟩ := c_g_some Hf
          refine r_iald hx hb hK hP hk_q207 hi211 dX9_day_211 ?_
          cases Hf
          exact r_iret hx hb hr rfl hlocks dX9_day_212 (Nat.le_of_ble_eq_true rfl) (Nat.le_of_ble_eq_true rfl) hP hS
        have Hf := c_i_f Hf hs5
        by_cases hs6 : x2 = 6
        · have Hf := c_i_t Hf hs6
          refine lv_tableIn hx hb dX9_day_140 (by rw [hs6]; decide) (by rw [hs6]; decide) (off := 73) (by rw [hs6]; rfl) (tgt := 213) (by decide) ?_
          refine lv_aload_n hx hb dX9_day_213 rfl (lv_at hl 0 rfl) ?_
          obtain ⟨q214, hq214, Hf⟩ := c_n_some Hf
          refine fg_10_30 hx hb hts hown hK hP hk_a0 lkf_X9_103 hq214 dX9_day_214 ?_
          refine lv_iload_n hx hb dX9_day_217 rfl (lv_at hl 1 rfl) ?_
          obtain ⟨hk_q214, Hf⟩ := c_g_some Hf
          obtain ⟨hi218, Hf⟩ := c_g_some Hf
          refine r_iald hx hb hK hP hk_q214 hi218 dX9_day_218 ?_
          cases Hf
          exact r_iret hx hb hr rfl hlocks dX9_day_219 (Nat.le_of_ble_eq_true rfl) (Nat.le_of_ble_eq_true rfl) hP hS
        have Hf := c_i_f Hf hs6
        refine lv_tableOut hx hb dX9_day_140 (by have n0 := sw_ne 0 hs0 (n := 0) rfl; have n1 := sw_ne 1 hs1 (n := 1) rfl; have n2 := sw_ne 2 hs2 (n := 2) rfl; have n3 := sw_ne 3 hs3 (n := 3) rfl; have n4 := sw_ne 4 hs4 (n := 4) rfl; have n5 := sw_ne 5 hs5 (n := 5) rfl; have n6 := sw_ne 6 hs6 (n := 6) rfl; omega) (tgt := 220) (by decide) ?_
        refine lv_aload_n hx hb dX9_day_220 rfl (lv_at hl 0 rfl) ?_
        obtain ⟨q221, hq221, Hf⟩ := c_n_some Hf
        refine fg_10_31 hx hb hts hown hK hP hk_a0 lkf_X9_106 hq221 dX9_day_221 ?_
        refine lv_iload_n hx hb dX9_day_224 rfl (lv_at hl 1 rfl) ?_
        obtain ⟨hk_q221, Hf⟩ := c_g_some Hf
        obtain ⟨hi225, Hf⟩ := c_g_some Hf
        refine r_iald hx hb hK hP hk_q221 hi225 dX9_day_225 ?_
        cases Hf
        exact r_iret hx hb hr rfl hlocks dX9_day_226 (Nat.le_of_ble_eq_true rfl) (Nat.le_of_ble_eq_true rfl) hP hS
      have Hf := c_i_f Hf hc
      refine lv_iload_n hx hb dX9_day_65 rfl (lv_at hl 3 rfl) ?_
      refine lv_aload_n hx hb dX9_day_66 rfl (lv_at hl 0 rfl) ?_
      refine lv_iload_n hx hb dX9_day_67 rfl (lv_at hl 1 rfl) ?_
      refine lv_iload hx hb dX9_day_68 (lv_at hl 6 rfl) ?_
      refine lv_iconst (v := 1) hx hb dX9_day_70 (by decide) ?_
      obtain ⟨r71, T71, hq71, Hf⟩ := c_c_some Hf
      refine r_cV (n := 3) (As := [.int x1, .int y6_54, .int 1]) (rest := [.int y3_54]) ⟨hx, hb, hml, hown, hts⟩ (s_X9_of l X hq71) lkm_X9_244 (by decide +kernel) rfl (by decide) dX9_day_71 rfl rfl ⟨Nat.le_of_ble_eq_true rfl, Nat.le_of_ble_eq_true rfl⟩ hk_a0 rfl hl.1 (Nat.le_of_ble_eq_true rfl) ⟨Nat.le_of_ble_eq_true rfl, Nat.le_of_ble_eq_true rfl⟩ hK hRO hA hP hS (fun H locs hP hS => ?_)
      refine W.eq (g2 := F0 m 74 ls [.int r71, .int y3_54]) rfl ?_
      refine lv_aload_n hx hb dX9_day_74 rfl (lv_at hl 0 rfl) ?_
      refine lv_iload_n hx hb dX9_day_75 rfl (lv_at hl 1 rfl) ?_
      refine lv_iload hx hb dX9_day_76 (lv_at hl 6 rfl) ?_
      refine lv_iconst (v := 0) hx hb dX9_day_78 (by decide) ?_
      obtain ⟨hk_a0, Hf⟩ := c_g_some Hf
      obtain ⟨r79, T79, hq79, Hf⟩ := c_c_some Hf
      refine r_cV (n := 3) (As := [.int x1, .int y6_54, .int 0]) (rest := [.int r71, .int y3_54]) ⟨hx, hb, hml, hown, hts⟩ (s_X9_of l X hq79) lkm_X9_244 (by decide +kernel) rfl (by decide) dX9_day_79 rfl rfl ⟨Nat.le_of_ble_eq_true rfl, Nat.le_of_ble_eq_true rfl⟩ hk_a0 rfl hl.1 (Nat.le_of_ble_eq_true rfl) ⟨Nat.le_of_ble_eq_true rfl, Nat.le_of_ble_eq_true rfl⟩ hK hRO hA hP hS (fun H locs hP hS => ?_)
      refine W.eq (g2 := F0 m 82 ls [.int r79, .int r71, .int y3_54]) rfl ?_
      refine lv_isub hx hb dX9_day_82 ?_
      refine lv_iconst (v := 1) hx hb dX9_day_83 (by decide) ?_
      refine lv_iadd hx hb dX9_day_84 ?_
      refine lv_isub hx hb dX9_day_85 ?_
      refine lv_topi (fun z3_86 ez3_86 => ?_)
      have Hf := c_l_ren Hf ez3_86
      refine lv_istore_n (lv' := [(3, .int z3_86), (0, .ref a0), (1, .int x1), (2, .int x2), (4, .int y4_54), (5, .int y5_54), (6, .int y6_54)]) hx hb dX9_day_86 rfl hl (by decide) rfl (fun ls hl => ?_)
      refine lv_iload hx hb dX9_day_87 (lv_at hl 4 rfl) ?_
      refine lv_aload_n hx hb dX9_day_89 rfl (lv_at hl 1 rfl) ?_
      obtain ⟨hk_a0, Hf⟩ := c_g_some Hf
      obtain ⟨q90, hq90, Hf⟩ := c_n_some Hf
      refine fg_10_37 hx hb hts hown hK hP hk_a0 lkf_X9_124 hq90 dX9_day_90 ?_
      refine lv_iload hx hb dX9_day_93 (lv_at hl 6 rfl) ?_
      obtain ⟨hk_q90, Hf⟩ := c_g_some Hf
      obtain ⟨hi95, Hf⟩ := c_g_some Hf
      refine r_zald hx hb hK hP hk_q90 hi95 dX9_day_95 ?_
      have hJ110 : ∀ (S110 : st_T) (u0_110 : Int32), j_X9_day_110 a0 rec54 y4_54 y5_54 y6_54 z3_86 S110 u0_110 = some (rr, SE) → ∀ (H : Heap) (locs : List Loc) (ls : Array Slot), st_HP X (st_A S) S110 H → va_S (st_A S) s.heap H locs → lv_has ls 7 [(0, .ref a0), (1, .int x1), (2, .int x2), (3, .int z3_86), (5, .int y5_54), (6, .int y6_54)] → W p l e { frames := 4, cells := 0, slots := 0, locals := 98 } s m args below meth c H locs 0 0 (MQ below (st_Q X (st_A S) (some (.int rr)) SE) args s 0 0 (st_A S)) (F0 m 110 ls [.int u0_110, .int y4_54]) := by
        intro S110 u0_110 Hf H locs ls hP hS hl
        unfold j_X9_day_110 at Hf
        refine lv_iadd hx hb dX9_day_110 ?_
        refine lv_topi (fun z4_111 ez4_111 => ?_)
        have Hf := c_l_ren Hf ez4_111
        refine lv_istore (lv' := [(4, .int z4_111), (0, .ref a0), (1, .int x1), (2, .int x2), (3, .int z3_86), (5, .int y5_54), (6, .int y6_54)]) hx hb dX9_day_111 hl (by decide) rfl (fun ls hl => ?_)
        refine lv_iload hx hb dX9_day_113 (lv_at hl 5 rfl) ?_
        refine lv_aload_n hx hb dX9_day_115 rfl (lv_at hl 1 rfl) ?_
        obtain ⟨hk_a0, Hf⟩ := c_g_some Hf
        obtain ⟨q116, hq116, Hf⟩ := c_n_some Hf
        refine fg_10_35 hx hb hts hown hK hP hk_a0 lkf_X9_118 hq116 dX9_day_116 ?_
        refine lv_iload hx hb dX9_day_119 (lv_at hl 6 rfl) ?_
        obtain ⟨hk_q116, Hf⟩ := c_g_some Hf
        obtain ⟨hi121, Hf⟩ := c_g_some Hf
        refine r_iald hx hb hK hP hk_q116 hi121 dX9_day_121 ?_
        have hJ130 : ∀ (S130 : st_T) (u0_130 : Int32), j_X9_day_130 rec54 y5_54 y6_54 z3_86 z4_111 S130 u0_130 = some (rr, SE) → ∀ (H : Heap) (locs : List Loc) (ls : Array Slot), st_HP X (st_A S) S130 H → va_S (st_A S) s.heap H locs → lv_has ls 7 [(0, .ref a0), (1, .int x1), (2, .int x2), (3, .int z3_86), (4, .int z4_111), (6, .int y6_54)] → W p l e { frames := 4, cells := 0, slots := 0, locals := 98 } s m args below meth c H locs 0 0 (MQ below (st_Q X (st_A S) (some (.int rr)) SE) args s 0 0 (st_A S)) (F0 m 130 ls [.int u0_130, .int y5_54]) := by
          intro S130 u0_130 Hf H locs ls hP hS hl
          unfold j_X9_day_130 at Hf
          refine lv_iadd hx hb dX9_day_130 ?_
          refine lv_topi (fun z5_131 ez5_131 => ?_)
          have Hf := c_l_ren Hf ez5_131
          refine lv_istore (lv' := [(5, .int z5_131), (0, .ref a0), (1, .int x1), (2, .int x2), (3, .int z3_86), (4, .int z4_111), (6, .int y6_54)]) hx hb dX9_day_131 hl (by decide) rfl (fun ls hl => ?_)
          refine lv_iinc (v := (y6_54 + 1)) (lv' := [(6, .int (y6_54 + 1)), (5, .int z5_131), (0, .ref a0), (1, .int x1), (2, .int x2), (3, .int z3_86), (4, .int z4_111)]) hx hb dX9_day_133 hl (k := 6) rfl rfl (by decide) rfl (fun ls hl => ?_)
          refine lv_goto hx hb dX9_day_136 (tgt := 54) (by decide) ?_
          exact hrec54 (S130, z3_86, z4_111, z5_131, (y6_54 + 1)) Hf _ _ _ hP hS (lv_sub hl [2, 3, 4, 5, 6, 1, 0] rfl)
        refine lv_if_ge hx hb dX9_day_122 (tgt := 129) (by decide) (fun hc => ?_) (fun hc => ?_)
        · have Hf := c_i_t Hf hc
          refine lv_iconst (v := 0) hx hb dX9_day_129 (by decide) ?_
          exact hJ130 S110 0 Hf _ _ _ hP hS (lv_sub hl [1, 2, 3, 4, 0, 6] rfl)
        have Hf := c_i_f Hf hc
        refine lv_iconst (v := 1) hx hb dX9_day_125 (by decide) ?_
        refine lv_goto hx hb dX9_day_126 (tgt := 130) (by decide) ?_
        exact hJ130 S110 1 Hf _ _ _ hP hS (lv_sub hl [1, 2, 3, 4, 0, 6] rfl)
      refine lv_if_eq hx hb dX9_day_96 (tgt := 109) (by decide) (fun hc => ?_) (fun hc => ?_)
      · have Hf := c_i_t Hf hc
        refine lv_iconst (v := 0) hx hb dX9_day_109 (by decide) ?_
        exact hJ110 T79 0 Hf _ _ _ hP hS (lv_sub hl [1, 2, 3, 0, 5, 6] rfl)
      have Hf := c_i_f Hf hc
      refine lv_aload_n hx hb dX9_day_99 rfl (lv_at hl 1 rfl) ?_
      refine lv_iload_n hx hb dX9_day_100 rfl (lv_at hl 2 rfl) ?_
      refine lv_iload hx hb dX9_day_101 (lv_at hl 6 rfl) ?_
      obtain ⟨r103, T103, hq103, Hf⟩ := c_c_some Hf
      refine r_cV (n := 2) (As := [.int x1, .int y6_54]) (rest := [.int y4_54]) ⟨hx, hb, hml, hown, hts⟩ (s_X9_gapAhead l X hq103) lkm_X9_260 (by decide +kernel) rfl (by decide) dX9_day_103 rfl rfl ⟨Nat.le_of_ble_eq_true rfl, Nat.le_of_ble_eq_true rfl⟩ hk_a0 rfl hl.1 (Nat.le_of_ble_eq_true rfl) ⟨Nat.le_of_ble_eq_true rfl, Nat.le_of_ble_eq_true rfl⟩ hK hRO hA hP hS (fun H locs hP hS => ?_)
      refine W.eq (g2 := F0 m 106 ls [.int r103, .int y4_54]) rfl ?_
      refine lv_goto hx hb dX9_day_106 (tgt := 110) (by decide) ?_
      exact hJ110 T103 r103 Hf _ _ _ hP hS (lv_sub hl [1, 2, 3, 0, 5, 6] rfl)
    have Hf := c_i_f Hf hc
    refine lv_iconst (v := 0) hx hb dX9_day_34 (by decide) ?_
    cases Hf
    exact r_iret hx hb hr rfl hlocks dX9_day_35 (Nat.le_of_ble_eq_true rfl) (Nat.le_of_ble_eq_true rfl) hP hS
  have hJ23 : ∀ (S23 : st_T), j_X9_day_23 a0 x1 x2 S23 = some (rr, SE) → ∀ (H : Heap) (locs : List Loc) (ls : Array Slot), st_HP X (st_A S) S23 H → va_S (st_A S) s.heap H locs → lv_has ls 7 [(0, .ref a0), (1, .int x1), (2, .int x2)] → W p l e { frames := 4, cells := 0, slots := 0, locals := 98 } s m args below meth c H locs 0 0 (MQ below (st_Q X (st_A S) (some (.int rr)) SE) args s 0 0 (st_A S)) (F0 m 23 ls [.ref a0]) := by
    intro S23 Hf H locs ls hP hS hl
    unfold j_X9_day_23 at Hf
    refine lv_iconst (v := 1) hx hb dX9_day_23 (by decide) ?_
    exact hJ24 S23 1 Hf _ _ _ hP hS (lv_sub hl [0, 1, 2] rfl)
  refine lv_if_eq hx hb dX9_day_6 (tgt := 23) (by decide) (fun hc => ?_) (fun hc => ?_)
  · have Hf := c_i_t Hf hc
    exact hJ23 T3 Hf _ _ _ hP hS (lv_sub hl [0, 1, 2] rfl)
  have Hf := c_i_f Hf hc
  refine lv_iload_n hx hb dX9_day_9 rfl (lv_at hl 2 rfl) ?_
  refine lv_if_lt hx hb dX9_day_10 (tgt := 23) (by decide) (fun hc => ?_) (fun hc => ?_)
  · have Hf := c_i_t Hf hc
    exact hJ23 T3 Hf _ _ _ hP hS (lv_sub hl [0, 1, 2] rfl)
  have Hf := c_i_f Hf hc
  refine lv_iload_n hx hb dX9_day_13 rfl (lv_at hl 2 rfl) ?_
  refine lv_bipush (v := 7) hx hb dX9_day_14 (by decide) ?_
  refine lv_icmp_gt hx hb dX9_day_16 (tgt := 23) (by decide) (fun hc => ?_) (fun hc => ?_)
  · have Hf := c_i_t Hf hc
    exact hJ23 T3 Hf _ _ _ hP hS (lv_sub hl [0, 1, 2] rfl)
  have Hf := c_i_f Hf hc
  refine lv_iconst (v := 0) hx hb dX9_day_19 (by decide) ?_
  refine lv_goto hx hb dX9_day_20 (tgt := 24) (by decide) ?_
  exact hJ24 T3 0 Hf _ _ _ hP hS (lv_sub hl [0, 1, 2] rfl)

def b_X9_count_9 (a0 : Nat) (x1 : Int32) (rec9 : st_T × Int32 × Int32 → Option (Int32 × st_T)) (q : st_T × Int32 × Int32) : Option (Int32 × st_T) :=
  (fun (S9 : st_T) (y2_9 : Int32) (y3_9 : Int32) =>
  (c_g (st_K S9 a0 = 11) (c_i ((st_fi S9 1027 a0) ≤ y3_9) (c_i (x1 = 0) (some ((st_fi S9 1027 a0), S9)) (c_i (x1 = 1) (some ((st_fi S9 1010 a0), S9)) (c_i (x1 = 2) (some ((st_fi S9 1011 a0), S9)) (c_i (x1 = 3) (some ((st_fi S9 1002 a0), S9)) (c_i (x1 = 4) (some (y2_9, S9)) (c_i (x1 = 5) (c_i (0 ≤ (st_fi S9 1011 a0)) (c_n (st_fr S9 1012 a0) (fun (q106 : Nat) => (c_g (st_K S9 q106 = 20) (c_g (c_in (st_fi S9 1011 a0) (st_ln S9 q106)) (some ((st_ri S9 q106 ((st_fi S9 1011 a0) : Int32).toNatClampNeg), S9)))))) (some (0, S9))) (some ((-1), S9)))))))) (c_n (st_fr S9 1033 a0) (fun (q19 : Nat) => (c_g (st_K S9 q19 = 20) (c_g (c_in y3_9 (st_ln S9 q19)) (c_l (y2_9 + (st_ri S9 q19 (y3_9 : Int32).toNatClampNeg)) (fun (z2_25 : Int32) => (rec9 (S9, z2_25, (y3_9 + 1)))))))))))) q.1 q.2.1 q.2.2
def f_X9_count (S : st_T) (a0 : Nat) (x1 : Int32) : Option (Int32 × st_T) :=
  (c_g (st_K S a0 = 11) (c_l (st_pi S 1000 a0 0) (fun (S_2 : st_T) => (c_w (b_X9_count_9 a0 x1) c_N (S_2, 0, 0)))))
set_option maxRecDepth 100000 in
set_option maxHeartbeats 4000000 in
theorem s_X9_count (l : Launch) (X : st_I) {S SE : st_T} {a0 : Nat} {x1 : Int32} {rr : Int32} (Hf : f_X9_count S a0 x1 = some (rr, SE)) : Met l yX9_count (Cond.code yX9_count cX9_count 4 (some .int) :: lw_g) { frames := 0, cells := 0, slots := 0, locals := 0 } (st_P X S [.ref a0, .int x1]) (st_Q X (st_A S) (some (.int rr)) SE) 0 0 (st_A S) := by
  refine st_ofW (by decide) (Nat.le_of_ble_eq_true rfl) ?_
  intro p e s m args below meth c hx hb hr hml hlocks hnm hts hown hK hRO hA hP hS ls hl
  have hown : s.vm.findClass RX9 = some m.cls := hown
  have hl : lv_has ls 4 [(0, .ref a0), (1, .int x1)] := hl
  unfold f_X9_count at Hf
  refine lv_aload_n hx hb dX9_count_0 rfl (lv_at hl 0 rfl) ?_
  refine lv_iconst (v := 0) hx hb dX9_count_1 (by decide) ?_
  obtain ⟨hk_a0, Hf⟩ := c_g_some Hf
  refine fp_10_0 hx hb hts hown hK hP hS hk_a0 lkf_X9_131 dX9_count_2 (fun H locs hP hS => ?_)
  obtain ⟨S_2, eS_2, Hf⟩ := c_l_ex Hf
  have hP : st_HP X (st_A S) S_2 H := by rw [eS_2]; exact hP
  refine lv_iconst (v := 0) hx hb dX9_count_5 (by decide) ?_
  refine lv_istore_n (lv' := [(2, .int 0), (0, .ref a0), (1, .int x1)]) hx hb dX9_count_6 rfl hl (by decide) rfl (fun ls hl => ?_)
  refine lv_iconst (v := 0) hx hb dX9_count_7 (by decide) ?_
  refine lv_istore_n (lv' := [(3, .int 0), (2, .int 0), (0, .ref a0), (1, .int x1)]) hx hb dX9_count_8 rfl hl (by decide) rfl (fun ls hl => ?_)
  refine (c_w_ind (P := fun (q : st_T × Int32 × Int32) => ∀ (H : Heap) (locs : List Loc) (ls : Array Slot), st_HP X (st_A S) q.1 H → va_S (st_A S) s.heap H locs → lv_has ls 4 [(0, .ref a0), (1, .int x1), (2, .int q.2.1), (3, .int q.2.2)] → W p l e { frames := 0, cells := 0, slots := 0, locals := 0 } s m args below meth c H locs 0 0 (MQ below (st_Q X (st_A S) (some (.int rr)) SE) args s 0 0 (st_A S)) (F0 m 9 ls [])) ?_ _ _ Hf) _ _ _ hP hS (lv_sub hl [2, 3, 1, 0] rfl)
  intro rec9 hrec9 q Hf H locs ls hP hS hl
  obtain ⟨S9, y2_9, y3_9⟩ := q
  unfold b_X9_count_9 at Hf
  try dsimp only at Hf
  try dsimp only at hP
  try dsimp only at hl
  try dsimp only
  refine lv_iload_n hx hb dX9_count_9 rfl (lv_at hl 3 rfl) ?_
  refine lv_aload_n hx hb dX9_count_10 rfl (lv_at hl 0 rfl) ?_
  obtain ⟨hk_a0, Hf⟩ := c_g_some Hf
  refine fg_10_27 hx hb hts hown hK hP hk_a0 lkf_X9_236 dX9_count_11 ?_
  refine lv_icmp_ge hx hb dX9_count_14 (tgt := 32) (by decide) (fun hc => ?_) (fun hc => ?_)
  · have Hf := c_i_t Hf hc
    refine lv_iload_n hx hb dX9_count_32 rfl (lv_at hl 1 rfl) ?_
    by_cases hs0 : x1 = 0
    · have Hf := c_i_t Hf hs0
      refine lv_tableIn hx hb dX9_count_33 (by rw [hs0]; decide) (by rw [hs0]; decide) (off := 39) (by rw [hs0]; rfl) (tgt := 72) (by decide) ?_
      refine lv_aload_n hx hb dX9_count_72 rfl (lv_at hl 0 rfl) ?_
      refine fg_10_27 hx hb hts hown hK hP hk_a0 lkf_X9_236 dX9_count_73 ?_
      cases Hf
      exact r_iret hx hb hr rfl hlocks dX9_count_76 (Nat.le_of_ble_eq_true rfl) (Nat.le_of_ble_eq_true rfl) hP hS
    have Hf := c_i_f Hf hs0
    by_cases hs1 : x1 = 1
    · have Hf := c_i_t Hf hs1
      refine lv_tableIn hx hb dX9_count_33 (by rw [hs1]; decide) (by rw [hs1]; decide) (off := 44) (by rw [hs1]; rfl) (tgt := 77) (by decide) ?_
      refine lv_aload_n hx hb dX9_count_77 rfl (lv_at hl 0 rfl) ?_
      refine fg_10_10 hx hb hts hown hK hP hk_a0 lkf_X9_186 dX9_count_78 ?_
      cases Hf
      exact r_iret hx hb hr rfl hlocks dX9_count_81 (Nat.le_of_ble_eq_true rfl) (Nat.le_of_ble_eq_true rfl) hP hS
    have Hf := c_i_f Hf hs1
    by_cases hs2 : x1 = 2
    · have Hf := c_i_t Hf hs2
      refine lv_tableIn hx hb dX9_count_33 (by rw [hs2]; decide) (by rw [hs2]; decide) (off := 49) (by rw [hs2]; rfl) (tgt := 82) (by decide) ?_
      refine lv_aload_n hx hb dX9_count_82 rfl (lv_at hl 0 rfl) ?_
      refine fg_10_11 hx hb hts hown hK hP hk_a0 lkf_X9_54 dX9_count_83 ?_
      cases Hf
      exact r_iret hx hb hr rfl hlocks dX9_count_86 (Nat.le_of_ble_eq_true rfl) (Nat.le_of_ble_eq_true rfl) hP hS
    have Hf := c_i_f Hf hs2
    by_cases hs3 : x1 = 3
    · have Hf := c_i_t Hf hs3
      refine lv_tableIn hx hb dX9_count_33 (by rw [hs3]; decide) (by rw [hs3]; decide) (off := 54) (by rw [hs3]; rfl) (tgt := 87) (by decide) ?_
      refine lv_aload_n hx hb dX9_count_87 rfl (lv_at hl 0 rfl) ?_
      refine fg_10_2 hx hb hts hown hK hP hk_a0 lkf_X9_138 dX9_count_88 ?_
      cases Hf
      exact r_iret hx hb hr rfl hlocks dX9_count_91 (Nat.le_of_ble_eq_true rfl) (Nat.le_of_ble_eq_true rfl) hP hS
    have Hf := c_i_f Hf hs3
    by_cases hs4 : x1 = 4
    · have Hf := c_i_t Hf hs4
      refine lv_tableIn hx hb dX9_count_33 (by rw [hs4]; decide) (by rw [hs4]; decide) (off := 59) (by rw [hs4]; rfl) (tgt := 92) (by decide) ?_
      refine lv_iload_n hx hb dX9_count_92 rfl (lv_at hl 2 rfl) ?_
      cases Hf
      exact r_iret hx hb hr rfl hlocks dX9_count_93 (Nat.le_of_ble_eq_true rfl) (Nat.le_of_ble_eq_true rfl) hP hS
    have Hf := c_i_f Hf hs4
    by_cases hs5 : x1 = 5
    · have Hf := c_i_t Hf hs5
      refine lv_tableIn hx hb dX9_count_33 (by rw [hs5]; decide) (by rw [hs5]; decide) (off := 61) (by rw [hs5]; rfl) (tgt := 94) (by decide) ?_
      refine lv_aload_n hx hb dX9_count_94 rfl (lv_at hl 0 rfl) ?_
      refine fg_10_11 hx hb hts hown hK hP hk_a0 lkf_X9_54 dX9_count_95 ?_
      refine lv_if_ge hx hb dX9_count_98 (tgt := 105) (by decide) (fun hc => ?_) (fun hc => ?_)
      · have Hf := c_i_t Hf hc
        refine lv_aload_n hx hb dX9_count_105 rfl (lv_at hl 0 rfl) ?_
        obtain ⟨q106, hq106, Hf⟩ := c_n_some Hf
        refine fg_10_12 hx hb hts hown hK hP hk_a0 lkf_X9_58 hq106 dX9_count_106 ?_
        refine lv_aload_n hx hb dX9_count_109 rfl (lv_at hl 0 rfl) ?_
        refine fg_10_11 hx hb hts hown hK hP hk_a0 lkf_X9_54 dX9_count_110 ?_
        obtain ⟨hk_q106, Hf⟩ := c_g_some Hf
        obtain ⟨hi113, Hf⟩ := c_g_some Hf
        refine r_iald hx hb hK hP hk_q106 hi113 dX9_count_113 ?_
        cases Hf
        exact r_iret hx hb hr rfl hlocks dX9_count_114 (Nat.le_of_ble_eq_true rfl) (Nat.le_of_ble_eq_true rfl) hP hS
      have Hf := c_i_f Hf hc
      refine lv_iconst (v := 0) hx hb dX9_count_101 (by decide) ?_
      refine lv_goto hx hb dX9_count_102 (tgt := 114) (by decide) ?_
      cases Hf
      exact r_iret hx hb hr rfl hlocks dX9_count_114 (Nat.le_of_ble_eq_true rfl) (Nat.le_of_ble_eq_true rfl) hP hS
    have Hf := c_i_f Hf hs5
    refine lv_tableOut hx hb dX9_count_33 (by have n0 := sw_ne 0 hs0 (n := 0) rfl; have n1 := sw_ne 1 hs1 (n := 1) rfl; have n2 := sw_ne 2 hs2 (n := 2) rfl; have n3 := sw_ne 3 hs3 (n := 3) rfl; have n4 := sw_ne 4 hs4 (n := 4) rfl; have n5 := sw_ne 5 hs5 (n := 5) rfl; omega) (tgt := 115) (by decide) ?_
    refine lv_iconst (v := (-1)) hx hb dX9_count_115 (by decide) ?_
    cases Hf
    exact r_iret hx hb hr rfl hlocks dX9_count_116 (Nat.le_of_ble_eq_true rfl) (Nat.le_of_ble_eq_true rfl) hP hS
  have Hf := c_i_f Hf hc
  refine lv_iload_n hx hb dX9_count_17 rfl (lv_at hl 2 rfl) ?_
  refine lv_aload_n hx hb dX9_count_18 rfl (lv_at hl 0 rfl) ?_
  obtain ⟨q19, hq19, Hf⟩ := c_n_some Hf
  refine fg_10_33 hx hb hts hown hK hP hk_a0 lkf_X9_112 hq19 dX9_count_19 ?_
  refine lv_iload_n hx hb dX9_count_22 rfl (lv_at hl 3 rfl) ?_
  obtain ⟨hk_q19, Hf⟩ := c_g_some Hf
  obtain ⟨hi23, Hf⟩ := c_g_some Hf
  refine r_iald hx hb hK hP hk_q19 hi23 dX9_count_23 ?_
  refine lv_iadd hx hb dX9_count_24 ?_
  refine lv_topi (fun z2_25 ez2_25 => ?_)
  have Hf := c_l_ren Hf ez2_25
  refine lv_istore_n (lv' := [(2, .int z2_25), (0, .ref a0), (1, .int x1), (3, .int y3_9)]) hx hb dX9_count_25 rfl hl (by decide) rfl (fun ls hl => ?_)
  refine lv_iinc (v := (y3_9 + 1)) (lv' := [(3, .int (y3_9 + 1)), (2, .int z2_25), (0, .ref a0), (1, .int x1)]) hx hb dX9_count_26 hl (k := 3) rfl rfl (by decide) rfl (fun ls hl => ?_)
  refine lv_goto hx hb dX9_count_29 (tgt := 9) (by decide) ?_
  exact hrec9 (S9, z2_25, (y3_9 + 1)) Hf _ _ _ hP hS (lv_sub hl [2, 3, 1, 0] rfl)
