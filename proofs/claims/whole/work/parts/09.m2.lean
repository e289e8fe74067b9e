def j_X9_rule_136 (a0 : Nat) (S136 : st_T) : Option (Unit × st_T) :=
  (c_g (st_K S136 a0 = 11) (c_c (f_X9_emit S136 a0 0 0) (fun (r139 : Unit) (T139 : st_T) => (c_g (st_K T139 a0 = 11) (c_c (f_X9_takeSign T139 a0 59) (fun (r145 : Unit) (T145 : st_T) => (c_g (st_K T145 a0 = 11) (c_n (st_fr T145 1012 a0) (fun (q149 : Nat) => (c_g (st_K T145 q149 = 20) (c_g (c_in 8 (st_ln T145 q149)) (c_g (c_in 8 (st_ln T145 q149)) (c_l (st_wi T145 q149 (8 : Int32).toNatClampNeg ((st_ri T145 q149 (8 : Int32).toNatClampNeg) + 1)) (fun (S_158 : st_T) => (some ((), S_158))))))))))))))))
def j_X9_rule_132 (rec102 : st_T × Int32 → Option (Unit × st_T)) (S132 : st_T) (u0_132 : Int32) : Option (Unit × st_T) :=
  (rec102 (S132, u0_132))
def j_X9_rule_127 (rec102 : st_T × Int32 → Option (Unit × st_T)) (S127 : st_T) : Option (Unit × st_T) :=
  (j_X9_rule_132 rec102 S127 1)
def b_X9_rule_102 (a0 : Nat) (rec102 : st_T × Int32 → Option (Unit × st_T)) (q : st_T × Int32) : Option (Unit × st_T) :=
  (fun (S102 : st_T) (y2_102 : Int32) =>
  (c_i (y2_102 = 0) (j_X9_rule_136 a0 S102) (c_g (st_K S102 a0 = 11) (c_i ((st_fi S102 1008 a0) = 0) (c_c (f_X9_part S102 a0) (fun (r114 : Int32) (T114 : st_T) => (c_i (r114 = 0) (c_g (st_K T114 a0 = 11) (c_c (f_X9_goesOnBehind T114 a0) (fun (r121 : Int32) (T121 : st_T) => (c_i (r121 = 0) (j_X9_rule_132 rec102 T121 0) (j_X9_rule_127 rec102 T121))))) (j_X9_rule_127 rec102 T114)))) (j_X9_rule_136 a0 S102))))) q.1 q.2
def j_X9_rule_33 (a0 : Nat) (S33 : st_T) : Option (Unit × st_T) :=
  (c_g (st_K S33 a0 = 11) (c_i ((st_fi S33 1008 a0) ≤ 0) (c_l (st_pi S33 1007 a0 ((st_fi S33 1007 a0) + 1)) (fun (S_48 : st_T) => (c_n (st_fr S_48 1012 a0) (fun (q55 : Nat) => (c_g (st_K S_48 q55 = 20) (c_g (c_in 8 (st_ln S_48 q55)) (c_l (192 + (st_ri S_48 q55 (8 : Int32).toNatClampNeg)) (fun (z1_62 : Int32) => (c_n (st_fr S_48 1014 a0) (fun (q64 : Nat) => (c_c (f_X9_takeNumber S_48 a0 0 49) (fun (r72 : Int32) (T72 : st_T) => (c_g (st_K T72 q64 = 20) (c_g (c_in z1_62 (st_ln T72 q64)) (c_l (st_wi T72 q64 (z1_62 : Int32).toNatClampNeg r72) (fun (S_75 : st_T) => (c_g (st_K S_75 a0 = 11) (c_c (f_X9_takeWord S_75 a0 2) (fun (r78 : Unit) (T78 : st_T) => (c_g (st_K T78 a0 = 11) (c_n (st_fr T78 1015 a0) (fun (q82 : Nat) => (c_g (st_K T78 q82 = 20) (c_g (c_in z1_62 (st_ln T78 q82)) (c_l (st_wi T78 q82 (z1_62 : Int32).toNatClampNeg (st_fi T78 1018 a0)) (fun (S_90 : st_T) => (c_l (st_pi S_90 1019 a0 0) (fun (S_93 : st_T) => (c_c (f_X9_opens S_93 a0) (fun (r97 : Unit) (T97 : st_T) => (c_w (b_X9_rule_102 a0) c_N (T97, 1)))))))))))))))))))))))))))))))) (some ((), S33))))
def f_X9_rule (S : st_T) (a0 : Nat) : Option (Unit × st_T) :=
  (c_g (st_K S a0 = 11) (c_c (f_X9_isWord S a0 0) (fun (r2 : Int32) (T2 : st_T) => (c_i (r2 = 0) (c_g (st_K T2 a0 = 11) (c_c (f_X9_wrong T2 a0 1) (fun (r10 : Unit) (T10 : st_T) => (j_X9_rule_33 a0 T10)))) (c_g (st_K T2 a0 = 11) (c_n (st_fr T2 1012 a0) (fun (q17 : Nat) => (c_g (st_K T2 q17 = 20) (c_g (c_in 8 (st_ln T2 q17)) (c_i ((st_ri T2 q17 (8 : Int32).toNatClampNeg) = 24) (c_c (f_X9_wrong T2 a0 5) (fun (r30 : Unit) (T30 : st_T) => (j_X9_rule_33 a0 T30))) (j_X9_rule_33 a0 T2)))))))))))
set_option maxRecDepth 100000 in
set_option maxHeartbeats 4000000 in
theorem s_X9_rule (l : Launch) (X : st_I) {S SE : st_T} {a0 : Nat} {rr : Unit} (Hf : f_X9_rule S a0 = some (rr, SE)) : Met l yX9_rule (Cond.code yX9_rule cX9_rule 3 (none) :: lw_g) { frames := 3, cells := 0, slots := 0, locals := 64 } (st_P X S [.ref a0]) (st_Q X (st_A S) none SE) 0 0 (st_A S) := by
  refine st_ofW (by decide) (Nat.le_of_ble_eq_true rfl) ?_
  intro p e s m args below meth c hx hb hr hml hlocks hnm hts hown hK hRO hA hP hS ls hl
  have hown : s.vm.findClass RX9 = some m.cls := hown
  have hl : lv_has ls 3 [(0, .ref a0)] := hl
  unfold f_X9_rule at Hf
  refine lv_aload_n hx hb dX9_rule_0 rfl (lv_at hl 0 rfl) ?_
  refine lv_iconst (v := 0) hx hb dX9_rule_1 (by decide) ?_
  obtain ⟨hk_a0, Hf⟩ := c_g_some Hf
  obtain ⟨r2, T2, hq2, Hf⟩ := c_c_some Hf
  refine r_cV (n := 1) (As := [.int 0]) (rest := []) ⟨hx, hb, hml, hown, hts⟩ (s_X9_isWord l X hq2) lkm_X9_177 (by decide +kernel) rfl (by decide) dX9_rule_2 rfl rfl ⟨Nat.le_of_ble_eq_true rfl, Nat.le_of_ble_eq_true rfl⟩ hk_a0 rfl hl.1 (Nat.le_of_ble_eq_true rfl) ⟨Nat.le_of_ble_eq_true rfl, Nat.le_of_ble_eq_true rfl⟩ hK hRO hA hP hS (fun H locs hP hS => ?_)
  refine W.eq (g2 := F0 m 5 ls [.int r2]) rfl ?_
  have hJ33 : ∀ (S33 : st_T), j_X9_rule_33 a0 S33 = some (rr, SE) → ∀ (H : Heap) (locs : List Loc) (ls : Array Slot), st_HP X (st_A S) S33 H → va_S (st_A S) s.heap H locs → lv_has ls 3 [(0, .ref a0)] → W p l e { frames := 3, cells := 0, slots := 0, locals := 64 } s m args below meth c H locs 0 0 (MQ below (st_Q X (st_A S) none SE) args s 0 0 (st_A S)) (F0 m 33 ls []) := by
    intro S33 Hf H locs ls hP hS hl
    unfold j_X9_rule_33 at Hf
    refine lv_aload_n hx hb dX9_rule_33 rfl (lv_at hl 0 rfl) ?_
    obtain ⟨hk_a0, Hf⟩ := c_g_some Hf
    refine fg_10_8 hx hb hts hown hK hP hk_a0 lkf_X9_167 dX9_rule_34 ?_
    refine lv_if_le hx hb dX9_rule_37 (tgt := 41) (by decide) (fun hc => ?_) (fun hc => ?_)
    · have Hf := c_i_t Hf hc
      refine lv_aload_n hx hb dX9_rule_41 rfl (lv_at hl 0 rfl) ?_
      refine lv_dup hx hb dX9_rule_42 rfl ?_
      refine fg_10_7 hx hb hts hown hK hP hk_a0 lkf_X9_164 dX9_rule_43 ?_
      refine lv_iconst (v := 1) hx hb dX9_rule_46 (by decide) ?_
      refine lv_iadd hx hb dX9_rule_47 ?_
      refine fp_10_7 hx hb hts hown hK hP hS hk_a0 lkf_X9_164 dX9_rule_48 (fun H locs hP hS => ?_)
      obtain ⟨S_48, eS_48, Hf⟩ := c_l_ex Hf
      have hP : st_HP X (st_A S) S_48 H := by rw [eS_48]; exact hP
      refine lv_sipush (v := 192) hx hb dX9_rule_51 (by decide) ?_
      refine lv_aload_n hx hb dX9_rule_54 rfl (lv_at hl 0 rfl) ?_
      have hk_a0 : st_K S_48 a0 = 11 := by rw [kp_pi eS_48]; exact hk_a0
      obtain ⟨q55, hq55, Hf⟩ := c_n_some Hf
      refine fg_10_12 hx hb hts hown hK hP hk_a0 lkf_X9_58 hq55 dX9_rule_55 ?_
      refine lv_bipush (v := 8) hx hb dX9_rule_58 (by decide) ?_
      obtain ⟨hk_q55, Hf⟩ := c_g_some Hf
      obtain ⟨hi60, Hf⟩ := c_g_some Hf
      refine r_iald hx hb hK hP hk_q55 hi60 dX9_rule_60 ?_
      refine lv_iadd hx hb dX9_rule_61 ?_
      refine lv_topi (fun z1_62 ez1_62 => ?_)
      have Hf := c_l_ren Hf ez1_62
      refine lv_istore_n (lv' := [(1, .int z1_62), (0, .ref a0)]) hx hb dX9_rule_62 rfl hl (by decide) rfl (fun ls hl => ?_)
      refine lv_aload_n hx hb dX9_rule_63 rfl (lv_at hl 1 rfl) ?_
      obtain ⟨q64, hq64, Hf⟩ := c_n_some Hf
      refine fg_10_14 hx hb hts hown hK hP hk_a0 lkf_X9_64 hq64 dX9_rule_64 ?_
      refine lv_iload_n hx hb dX9_rule_67 rfl (lv_at hl 0 rfl) ?_
      refine lv_aload_n hx hb dX9_rule_68 rfl (lv_at hl 1 rfl) ?_
      refine lv_iconst (v := 0) hx hb dX9_rule_69 (by decide) ?_
      refine lv_bipush (v := 49) hx hb dX9_rule_70 (by decide) ?_
      obtain ⟨r72, T72, hq72, Hf⟩ := c_c_some Hf
      refine r_cV (n := 2) (As := [.int 0, .int 49]) (rest := [.int z1_62, .ref q64]) ⟨hx, hb, hml, hown, hts⟩ (s_X9_takeNumber l X hq72) lkm_X9_195 (by decide +kernel) rfl (by decide) dX9_rule_72 rfl rfl ⟨Nat.le_of_ble_eq_true rfl, Nat.le_of_ble_eq_true rfl⟩ hk_a0 rfl hl.1 (Nat.le_of_ble_eq_true rfl) ⟨Nat.le_of_ble_eq_true rfl, Nat.le_of_ble_eq_true rfl⟩ hK hRO hA hP hS (fun H locs hP hS => ?_)
      refine W.eq (g2 := F0 m 75 ls [.int r72, .int z1_62, .ref q64]) rfl ?_
      obtain ⟨hk_q64, Hf⟩ := c_g_some Hf
      obtain ⟨hi75, Hf⟩ := c_g_some Hf
      refine r_iast hx hb hK hP hS hk_q64 hi75 dX9_rule_75 (fun H locs hP hS => ?_)
      obtain ⟨S_75, eS_75, Hf⟩ := c_l_ex Hf
      have hP : st_HP X (st_A S) S_75 H := by rw [eS_75]; exact hP
      refine lv_aload_n hx hb dX9_rule_76 rfl (lv_at hl 1 rfl) ?_
      refine lv_iconst (v := 2) hx hb dX9_rule_77 (by decide) ?_
      obtain ⟨hk_a0, Hf⟩ := c_g_some Hf
      obtain ⟨r78, T78, hq78, Hf⟩ := c_c_some Hf
      refine r_cV (n := 1) (As := [.int 2]) (rest := []) ⟨hx, hb, hml, hown, hts⟩ (s_X9_takeWord l X hq78) lkm_X9_205 (by decide +kernel) rfl (by decide) dX9_rule_78 rfl rfl ⟨Nat.le_of_ble_eq_true rfl, Nat.le_of_ble_eq_true rfl⟩ hk_a0 rfl hl.1 (Nat.le_of_ble_eq_true rfl) ⟨Nat.le_of_ble_eq_true rfl, Nat.le_of_ble_eq_true rfl⟩ hK hRO hA hP hS (fun H locs hP hS => ?_)
      refine W.eq (g2 := F0 m 81 ls []) rfl ?_
      refine lv_aload_n hx hb dX9_rule_81 rfl (lv_at hl 1 rfl) ?_
      obtain ⟨hk_a0, Hf⟩ := c_g_some Hf
      obtain ⟨q82, hq82, Hf⟩ := c_n_some Hf
      refine fg_10_15 hx hb hts hown hK hP hk_a0 lkf_X9_67 hq82 dX9_rule_82 ?_
      refine lv_iload_n hx hb dX9_rule_85 rfl (lv_at hl 0 rfl) ?_
      refine lv_aload_n hx hb dX9_rule_86 rfl (lv_at hl 1 rfl) ?_
      refine fg_10_18 hx hb hts hown hK hP hk_a0 lkf_X9_183 dX9_rule_87 ?_
      obtain ⟨hk_q82, Hf⟩ := c_g_some Hf
      obtain ⟨hi90, Hf⟩ := c_g_some Hf
      refine r_iast hx hb hK hP hS hk_q82 hi90 dX9_rule_90 (fun H locs hP hS => ?_)
      obtain ⟨S_90, eS_90, Hf⟩ := c_l_ex Hf
      have hP : st_HP X (st_A S) S_90 H := by rw [eS_90]; exact hP
      refine lv_aload_n hx hb dX9_rule_91 rfl (lv_at hl 1 rfl) ?_
      refine lv_iconst (v := 0) hx hb dX9_rule_92 (by decide) ?_
      have hk_a0 : st_K S_90 a0 = 11 := by rw [kp_wi eS_90]; exact hk_a0
      refine fp_10_19 hx hb hts hown hK hP hS hk_a0 lkf_X9_208 dX9_rule_93 (fun H locs hP hS => ?_)
      obtain ⟨S_93, eS_93, Hf⟩ := c_l_ex Hf
      have hP : st_HP X (st_A S) S_93 H := by rw [eS_93]; exact hP
      refine lv_aload_n hx hb dX9_rule_96 rfl (lv_at hl 1 rfl) ?_
      have hk_a0 : st_K S_93 a0 = 11 := by rw [kp_pi eS_93]; exact hk_a0
      obtain ⟨r97, T97, hq97, Hf⟩ := c_c_some Hf
      refine r_cV (n := 0) (As := []) (rest := []) ⟨hx, hb, hml, hown, hts⟩ (s_X9_opens l X hq97) lkm_X9_211 (by decide +kernel) rfl (by decide) dX9_rule_97 rfl rfl ⟨Nat.le_of_ble_eq_true rfl, Nat.le_of_ble_eq_true rfl⟩ hk_a0 rfl hl.1 (Nat.le_of_ble_eq_true rfl) ⟨Nat.le_of_ble_eq_true rfl, Nat.le_of_ble_eq_true rfl⟩ hK hRO hA hP hS (fun H locs hP hS => ?_)
      refine W.eq (g2 := F0 m 100 ls []) rfl ?_
      refine lv_iconst (v := 1) hx hb dX9_rule_100 (by decide) ?_
      refine lv_istore_n (lv' := [(2, .int 1), (1, .int z1_62), (0, .ref a0)]) hx hb dX9_rule_101 rfl hl (by decide) rfl (fun ls hl => ?_)
      refine (c_w_ind (P := fun (q : st_T × Int32) => ∀ (H : Heap) (locs : List Loc) (ls : Array Slot), st_HP X (st_A S) q.1 H → va_S (st_A S) s.heap H locs → lv_has ls 3 [(0, .ref a0), (2, .int q.2)] → W p l e { frames := 3, cells := 0, slots := 0, locals := 64 } s m args below meth c H locs 0 0 (MQ below (st_Q X (st_A S) none SE) args s 0 0 (st_A S)) (F0 m 102 ls [])) ?_ _ _ Hf) _ _ _ hP hS (lv_sub hl [2, 0] rfl)
      intro rec102 hrec102 q Hf H locs ls hP hS hl
      obtain ⟨S102, y2_102⟩ := q
      unfold b_X9_rule_102 at Hf
      try dsimp only at Hf
      try dsimp only at hP
      try dsimp only at hl
      try dsimp only
      refine lv_iload_n hx hb dX9_rule_102 rfl (lv_at hl 1 rfl) ?_
      have hJ136 : ∀ (S136 : st_T), j_X9_rule_136 a0 S136 = some (rr, SE) → ∀ (H : Heap) (locs : List Loc) (ls : Array Slot), st_HP X (st_A S) S136 H → va_S (st_A S) s.heap H locs → lv_has ls 3 [(0, .ref a0)] → W p l e { frames := 3, cells := 0, slots := 0, locals := 64 } s m args below meth c H locs 0 0 (MQ below (st_Q X (st_A S) none SE) args s 0 0 (st_A S)) (F0 m 136 ls []) := by
        intro S136 Hf H locs ls hP hS hl
        unfold j_X9_rule_136 at Hf
        refine lv_aload_n hx hb dX9_rule_136 rfl (lv_at hl 0 rfl) ?_
        refine lv_iconst (v := 0) hx hb dX9_rule_137 (by decide) ?_
        refine lv_iconst (v := 0) hx hb dX9_rule_138 (by decide) ?_
        obtain ⟨hk_a0, Hf⟩ := c_g_some Hf
        obtain ⟨r139, T139, hq139, Hf⟩ := c_c_some Hf
        refine r_cV (n := 2) (As := [.int 0, .int 0]) (rest := []) ⟨hx, hb, hml, hown, hts⟩ (s_X9_emit l X hq139) lkm_X9_221 (by decide +kernel) rfl (by decide) dX9_rule_139 rfl rfl ⟨Nat.le_of_ble_eq_true rfl, Nat.le_of_ble_eq_true rfl⟩ hk_a0 rfl hl.1 (Nat.le_of_ble_eq_true rfl) ⟨Nat.le_of_ble_eq_true rfl, Nat.le_of_ble_eq_true rfl⟩ hK hRO hA hP hS (fun H locs hP hS => ?_)
        refine W.eq (g2 := F0 m 142 ls []) rfl ?_
        refine lv_aload_n hx hb dX9_rule_142 rfl (lv_at hl 0 rfl) ?_
        refine lv_bipush (v := 59) hx hb dX9_rule_143 (by decide) ?_
        obtain ⟨hk_a0, Hf⟩ := c_g_some Hf
        obtain ⟨r145, T145, hq145, Hf⟩ := c_c_some Hf
        refine r_cV (n := 1) (As := [.int 59]) (rest := []) ⟨hx, hb, hml, hown, hts⟩ (s_X9_takeSign l X hq145) lkm_X9_199 (by decide +kernel) rfl (by decide) dX9_rule_145 rfl rfl ⟨Nat.le_of_ble_eq_true rfl, Nat.le_of_ble_eq_true rfl⟩ hk_a0 rfl hl.1 (Nat.le_of_ble_eq_true rfl) ⟨Nat.le_of_ble_eq_true rfl, Nat.le_of_ble_eq_true rfl⟩ hK hRO hA hP hS (fun H locs hP hS => ?_)
        refine W.eq (g2 := F0 m 148 ls []) rfl ?_
        refine lv_aload_n hx hb dX9_rule_148 rfl (lv_at hl 0 rfl) ?_
        obtain ⟨hk_a0, Hf⟩ := c_g_some Hf
        obtain ⟨q149, hq149, Hf⟩ := c_n_some Hf
        refine fg_10_12 hx hb hts hown hK hP hk_a0 lkf_X9_58 hq149 dX9_rule_149 ?_
        refine lv_bipush (v := 8) hx hb dX9_rule_152 (by decide) ?_
        refine lv_dup2_11 hx hb dX9_rule_154 rfl rfl ?_
        obtain ⟨hk_q149, Hf⟩ := c_g_some Hf
        obtain ⟨hi155, Hf⟩ := c_g_some Hf
        refine r_iald hx hb hK hP hk_q149 hi155 dX9_rule_155 ?_
        refine lv_iconst (v := 1) hx hb dX9_rule_156 (by decide) ?_
        refine lv_iadd hx hb dX9_rule_157 ?_
        obtain ⟨hi158, Hf⟩ := c_g_some Hf
        refine r_iast hx hb hK hP hS hk_q149 hi158 dX9_rule_158 (fun H locs hP hS => ?_)
        obtain ⟨S_158, eS_158, Hf⟩ := c_l_ex Hf
        have hP : st_HP X (st_A S) S_158 H := by rw [eS_158]; exact hP
        cases Hf
        exact r_vret hx hb hr rfl hlocks dX9_rule_159 (Nat.le_of_ble_eq_true rfl) (Nat.le_of_ble_eq_true rfl) hP hS
      refine lv_if_eq hx hb dX9_rule_103 (tgt := 136) (by decide) (fun hc => ?_) (fun hc => ?_)
      · have Hf := c_i_t Hf hc
        exact hJ136 S102 Hf _ _ _ hP hS (lv_sub hl [0] rfl)
      have Hf := c_i_f Hf hc
      refine lv_aload_n hx hb dX9_rule_106 rfl (lv_at hl 0 rfl) ?_
      obtain ⟨hk_a0, Hf⟩ := c_g_some Hf
      refine fg_10_8 hx hb hts hown hK hP hk_a0 lkf_X9_167 dX9_rule_107 ?_
      refine lv_if_ne hx hb dX9_rule_110 (tgt := 136) (by decide) (fun hc => ?_) (fun hc => ?_)
      · have Hf := c_i_f Hf hc
        exact hJ136 S102 Hf _ _ _ hP hS (lv_sub hl [0] rfl)
      have Hf := c_i_t Hf hc
      refine lv_aload_n hx hb dX9_rule_113 rfl (lv_at hl 0 rfl) ?_
      obtain ⟨r114, T114, hq114, Hf⟩ := c_c_some Hf
      refine r_cV (n := 0) (As := []) (rest := []) ⟨hx, hb, hml, hown, hts⟩ (s_X9_part l X hq114) lkm_X9_214 (by decide +kernel) rfl (by decide) dX9_rule_114 rfl rfl ⟨Nat.le_of_ble_eq_true rfl, Nat.le_of_ble_eq_true rfl⟩ hk_a0 rfl hl.1 (Nat.le_of_ble_eq_true rfl) ⟨Nat.le_of_ble_eq_true rfl, Nat.le_of_ble_eq_true rfl⟩ hK hRO hA hP hS (fun H locs hP hS => ?_)
      refine W.eq (g2 := F0 m 117 ls [.int r114]) rfl ?_
      have hJ132 : ∀ (S132 : st_T) (u0_132 : Int32), j_X9_rule_132 rec102 S132 u0_132 = some (rr, SE) → ∀ (H : Heap) (locs : List Loc) (ls : Array Slot), st_HP X (st_A S) S132 H → va_S (st_A S) s.heap H locs → lv_has ls 3 [(0, .ref a0)] → W p l e { frames := 3, cells := 0, slots := 0, locals := 64 } s m args below meth c H locs 0 0 (MQ below (st_Q X (st_A S) none SE) args s 0 0 (st_A S)) (F0 m 132 ls [.int u0_132]) := by
        intro S132 u0_132 Hf H locs ls hP hS hl
        unfold j_X9_rule_132 at Hf
        refine lv_istore_n (lv' := [(2, .int u0_132), (0, .ref a0)]) hx hb dX9_rule_132 rfl hl (by decide) rfl (fun ls hl => ?_)
        refine lv_goto hx hb dX9_rule_133 (tgt := 102) (by decide) ?_
        exact hrec102 (S132, u0_132) Hf _ _ _ hP hS (lv_sub hl [1, 0] rfl)
      have hJ127 : ∀ (S127 : st_T), j_X9_rule_127 rec102 S127 = some (rr, SE) → ∀ (H : Heap) (locs : List Loc) (ls : Array Slot), st_HP X (st_A S) S127 H → va_S (st_A S) s.heap H locs → lv_has ls 3 [(0, .ref a0)] → W p l e { frames := 3, cells := 0, slots := 0, locals := 64 } s m args below meth c H locs 0 0 (MQ below (st_Q X (st_A S) none SE) args s 0 0 (st_A S)) (F0 m 127 ls []) := by
        intro S127 Hf H locs ls hP hS hl
        unfold j_X9_rule_127 at Hf
        refine lv_iconst (v := 1) hx hb dX9_rule_127 (by decide) ?_
        refine lv_goto hx hb dX9_rule_128 (tgt := 132) (by decide) ?_
        exact hJ132 S127 1 Hf _ _ _ hP hS (lv_sub hl [0] rfl)
      refine lv_if_ne hx hb dX9_rule_117 (tgt := 127) (by decide) (fun hc => ?_) (fun hc => ?_)
      · have Hf := c_i_f Hf hc
        exact hJ127 T114 Hf _ _ _ hP hS (lv_sub hl [0] rfl)
      have Hf := c_i_t Hf hc
      refine lv_aload_n hx hb dX9_rule_120 rfl (lv_at hl 0 rfl) ?_
      obtain ⟨hk_a0, Hf⟩ := c_g_some Hf
      obtain ⟨r121, T121, hq121, Hf⟩ := c_c_some Hf
      refine r_cV (n := 0) (As := []) (rest := []) ⟨hx, hb, hml, hown, hts⟩ (s_X9_goesOnBehind l X hq121) lkm_X9_218 (by decide +kernel) rfl (by decide) dX9_rule_121 rfl rfl ⟨Nat.le_of_ble_eq_true rfl, Nat.le_of_ble_eq_true rfl⟩ hk_a0 rfl hl.1 (Nat.le_of_ble_eq_true rfl) ⟨Nat.le_of_ble_eq_true rfl, Nat.le_of_ble_eq_true rfl⟩ hK hRO hA hP hS (fun H locs hP hS => ?_)
      refine W.eq (g2 := F0 m 124 ls [.int r121]) rfl ?_
      refine lv_if_eq hx hb dX9_rule_124 (tgt := 131) (by decide) (fun hc => ?_) (fun hc => ?_)
      · have Hf := c_i_t Hf hc
        refine lv_iconst (v := 0) hx hb dX9_rule_131 (by decide) ?_
        exact hJ132 T121 0 Hf _ _ _ hP hS (lv_sub hl [0] rfl)
      have Hf := c_i_f Hf hc
      exact hJ127 T121 Hf _ _ _ hP hS (lv_sub hl [0] rfl)
    have Hf := c_i_f Hf hc
    cases Hf
    exact r_vret hx hb hr rfl hlocks dX9_rule_40 (Nat.le_of_ble_eq_true rfl) (Nat.le_of_ble_eq_true rfl) hP hS
  refine lv_if_ne hx hb dX9_rule_5 (tgt := 16) (by decide) (fun hc => ?_) (fun hc => ?_)
  · have Hf := c_i_f Hf hc
    refine lv_aload_n hx hb dX9_rule_16 rfl (lv_at hl 0 rfl) ?_
    obtain ⟨hk_a0, Hf⟩ := c_g_some Hf
    obtain ⟨q17, hq17, Hf⟩ := c_n_some Hf
    refine fg_10_12 hx hb hts hown hK hP hk_a0 lkf_X9_58 hq17 dX9_rule_17 ?_
    refine lv_bipush (v := 8) hx hb dX9_rule_20 (by decide) ?_
    obtain ⟨hk_q17, Hf⟩ := c_g_some Hf
    obtain ⟨hi22, Hf⟩ := c_g_some Hf
    refine r_iald hx hb hK hP hk_q17 hi22 dX9_rule_22 ?_
    refine lv_bipush (v := 24) hx hb dX9_rule_23 (by decide) ?_
    refine lv_icmp_ne hx hb dX9_rule_25 (tgt := 33) (by decide) (fun hc => ?_) (fun hc => ?_)
    · have Hf := c_i_f Hf hc
      exact hJ33 T2 Hf _ _ _ hP hS (lv_sub hl [0] rfl)
    have Hf := c_i_t Hf hc
    refine lv_aload_n hx hb dX9_rule_28 rfl (lv_at hl 0 rfl) ?_
    refine lv_iconst (v := 5) hx hb dX9_rule_29 (by decide) ?_
    obtain ⟨r30, T30, hq30, Hf⟩ := c_c_some Hf
    refine r_cV (n := 1) (As := [.int 5]) (rest := []) ⟨hx, hb, hml, hown, hts⟩ (s_X9_wrong l X hq30) lkm_X9_173 (by decide +kernel) rfl (by decide) dX9_rule_30 rfl rfl ⟨Nat.le_of_ble_eq_true rfl, Nat.le_of_ble_eq_true rfl⟩ hk_a0 rfl hl.1 (Nat.le_of_ble_eq_true rfl) ⟨Nat.le_of_ble_eq_true rfl, Nat.le_of_ble_eq_true rfl⟩ hK hRO hA hP hS (fun H locs hP hS => ?_)
    refine W.eq (g2 := F0 m 33 ls []) rfl ?_
    exact hJ33 T30 Hf _ _ _ hP hS (lv_sub hl [0] rfl)
  have Hf := c_i_t Hf hc
  refine lv_aload_n hx hb dX9_rule_8 rfl (lv_at hl 0 rfl) ?_
  refine lv_iconst (v := 1) hx hb dX9_rule_9 (by decide) ?_
  obtain ⟨hk_a0, Hf⟩ := c_g_some Hf
  obtain ⟨r10, T10, hq10, Hf⟩ := c_c_some Hf
  refine r_cV (n := 1) (As := [.int 1]) (rest := []) ⟨hx, hb, hml, hown, hts⟩ (s_X9_wrong l X hq10) lkm_X9_173 (by decide +kernel) rfl (by decide) dX9_rule_10 rfl rfl ⟨Nat.le_of_ble_eq_true rfl, Nat.le_of_ble_eq_true rfl⟩ hk_a0 rfl hl.1 (Nat.le_of_ble_eq_true rfl) ⟨Nat.le_of_ble_eq_true rfl, Nat.le_of_ble_eq_true rfl⟩ hK hRO hA hP hS (fun H locs hP hS => ?_)
  refine W.eq (g2 := F0 m 13 ls []) rfl ?_
  refine lv_goto hx hb dX9_rule_13 (tgt := 33) (by decide) ?_
  exact hJ33 T10 Hf _ _ _ hP hS (lv_sub hl [0] rfl)

def b_X9_keeps_96 (a0 : Nat) (rec96 : st_T × Int32 → Option (Unit × st_T)) (q : st_T × Int32) : Option (Unit × st_T) :=
  (fun (S96 : st_T) (y1_96 : Int32) =>
  (c_g (st_K S96 a0 = 11) (c_i ((st_fi S96 1018 a0) ≤ y1_96) (c_l (st_pi S96 1011 a0 (st_fi S96 1010 a0)) (fun (S_165 : st_T) => (c_l (st_pi S_165 1010 a0 ((st_fi S_165 1010 a0) + 1)) (fun (S_175 : st_T) => (some ((), S_175)))))) (c_n (st_fr S96 1016 a0) (fun (q105 : Nat) => (c_g (st_K S96 q105 = 20) (c_g (c_in (7040 + y1_96) (st_ln S96 q105)) (c_g (c_in ((880 * (st_fi S96 1010 a0)) + y1_96) (st_ln S96 q105)) (c_l (st_wi S96 q105 (((880 * (st_fi S96 1010 a0)) + y1_96) : Int32).toNatClampNeg (st_ri S96 q105 ((7040 + y1_96) : Int32).toNatClampNeg)) (fun (S_128 : st_T) => (c_n (st_fr S_128 1017 a0) (fun (q130 : Nat) => (c_g (st_K S_128 q130 = 20) (c_g (c_in (7040 + y1_96) (st_ln S_128 q130)) (c_g (c_in ((880 * (st_fi S_128 1010 a0)) + y1_96) (st_ln S_128 q130)) (c_l (st_wi S_128 q130 (((880 * (st_fi S_128 1010 a0)) + y1_96) : Int32).toNatClampNeg (st_ri S_128 q130 ((7040 + y1_96) : Int32).toNatClampNeg)) (fun (S_153 : st_T) => (rec96 (S_153, (y1_96 + 1)))))))))))))))))))) q.1 q.2
def b_X9_keeps_34 (a0 : Nat) (rec34 : st_T × Int32 → Option (Unit × st_T)) (q : st_T × Int32) : Option (Unit × st_T) :=
  (fun (S34 : st_T) (y1_34 : Int32) =>
  (c_i (24 ≤ y1_34) (c_w (b_X9_keeps_96 a0) c_N (S34, 0)) (c_g (st_K S34 a0 = 11) (c_n (st_fr S34 1014 a0) (fun (q41 : Nat) => (c_g (st_K S34 q41 = 20) (c_g (c_in (192 + y1_34) (st_ln S34 q41)) (c_g (c_in ((24 * (st_fi S34 1010 a0)) + y1_34) (st_ln S34 q41)) (c_l (st_wi S34 q41 (((24 * (st_fi S34 1010 a0)) + y1_34) : Int32).toNatClampNeg (st_ri S34 q41 ((192 + y1_34) : Int32).toNatClampNeg)) (fun (S_63 : st_T) => (c_n (st_fr S_63 1015 a0) (fun (q65 : Nat) => (c_g (st_K S_63 q65 = 20) (c_g (c_in (192 + y1_34) (st_ln S_63 q65)) (c_g (c_in ((24 * (st_fi S_63 1010 a0)) + y1_34) (st_ln S_63 q65)) (c_l (st_wi S_63 q65 (((24 * (st_fi S_63 1010 a0)) + y1_34) : Int32).toNatClampNeg (st_ri S_63 q65 ((192 + y1_34) : Int32).toNatClampNeg)) (fun (S_87 : st_T) => (rec34 (S_87, (y1_34 + 1)))))))))))))))))))) q.1 q.2
def f_X9_keeps (S : st_T) (a0 : Nat) : Option (Unit × st_T) :=
  (c_g (st_K S a0 = 11) (c_n (st_fr S 1012 a0) (fun (q1 : Nat) => (c_g (st_K S q1 = 20) (c_g (c_in 8 (st_ln S q1)) (c_g (c_in (st_fi S 1010 a0) (st_ln S q1)) (c_l (st_wi S q1 ((st_fi S 1010 a0) : Int32).toNatClampNeg (st_ri S q1 (8 : Int32).toNatClampNeg)) (fun (S_15 : st_T) => (c_n (st_fr S_15 1013 a0) (fun (q17 : Nat) => (c_g (st_K S_15 q17 = 20) (c_g (c_in 8 (st_ln S_15 q17)) (c_g (c_in (st_fi S_15 1010 a0) (st_ln S_15 q17)) (c_l (st_wi S_15 q17 ((st_fi S_15 1010 a0) : Int32).toNatClampNeg (st_ri S_15 q17 (8 : Int32).toNatClampNeg)) (fun (S_31 : st_T) => (c_w (b_X9_keeps_34 a0) c_N (S_31, 0)))))))))))))))))
set_option maxRecDepth 100000 in
set_option maxHeartbeats 4000000 in
theorem s_X9_keeps (l : Launch) (X : st_I) {S SE : st_T} {a0 : Nat} {rr : Unit} (Hf : f_X9_keeps S a0 = some (rr, SE)) : Met l yX9_keeps (Cond.code yX9_keeps cX9_keeps 2 (none) :: lw_g) { frames := 0, cells := 0, slots := 0, locals := 0 } (st_P X S [.ref a0]) (st_Q X (st_A S) none SE) 0 0 (st_A S) := by
  refine st_ofW (by decide) (Nat.le_of_ble_eq_true rfl) ?_
  intro p e s m args below meth c hx hb hr hml hlocks hnm hts hown hK hRO hA hP hS ls hl
  have hown : s.vm.findClass RX9 = some m.cls := hown
  have hl : lv_has ls 2 [(0, .ref a0)] := hl
  unfold f_X9_keeps at Hf
  refine lv_aload_n hx hb dX9_keeps_0 rfl (lv_at hl 0 rfl) ?_
  obtain ⟨hk_a0, Hf⟩ := c_g_some Hf
  obtain ⟨q1, hq1, Hf⟩ := c_n_some Hf
  refine fg_10_12 hx hb hts hown hK hP hk_a0 lkf_X9_58 hq1 dX9_keeps_1 ?_
  refine lv_aload_n hx hb dX9_keeps_4 rfl (lv_at hl 0 rfl) ?_
  refine fg_10_10 hx hb hts hown hK hP hk_a0 lkf_X9_186 dX9_keeps_5 ?_
  refine lv_aload_n hx hb dX9_keeps_8 rfl (lv_at hl 0 rfl) ?_
  refine fg_10_12 hx hb hts hown hK hP hk_a0 lkf_X9_58 hq1 dX9_keeps_9 ?_
  refine lv_bipush (v := 8) hx hb dX9_keeps_12 (by decide) ?_
  obtain ⟨hk_q1, Hf⟩ := c_g_some Hf
  obtain ⟨hi14, Hf⟩ := c_g_some Hf
  refine r_iald hx hb hK hP hk_q1 hi14 dX9_keeps_14 ?_
  obtain ⟨hi15, Hf⟩ := c_g_some Hf
  refine r_iast hx hb hK hP hS hk_q1 hi15 dX9_keeps_15 (fun H locs hP hS => ?_)
  obtain ⟨S_15, eS_15, Hf⟩ := c_l_ex Hf
  have hP : st_HP X (st_A S) S_15 H := by rw [eS_15]; exact hP
  refine lv_aload_n hx hb dX9_keeps_16 rfl (lv_at hl 0 rfl) ?_
  have hk_a0 : st_K S_15 a0 = 11 := by rw [kp_wi eS_15]; exact hk_a0
  obtain ⟨q17, hq17, Hf⟩ := c_n_some Hf
  refine fg_10_13 hx hb hts hown hK hP hk_a0 lkf_X9_61 hq17 dX9_keeps_17 ?_
  refine lv_aload_n hx hb dX9_keeps_20 rfl (lv_at hl 0 rfl) ?_
  refine fg_10_10 hx hb hts hown hK hP hk_a0 lkf_X9_186 dX9_keeps_21 ?_
  refine lv_aload_n hx hb dX9_keeps_24 rfl (lv_at hl 0 rfl) ?_
  refine fg_10_13 hx hb hts hown hK hP hk_a0 lkf_X9_61 hq17 dX9_keeps_25 ?_
  refine lv_bipush (v := 8) hx hb dX9_keeps_28 (by decide) ?_
  obtain ⟨hk_q17, Hf⟩ := c_g_some Hf
  obtain ⟨hi30, Hf⟩ := c_g_some Hf
  refine r_iald hx hb hK hP hk_q17 hi30 dX9_keeps_30 ?_
  obtain ⟨hi31, Hf⟩ := c_g_some Hf
  refine r_iast hx hb hK hP hS hk_q17 hi31 dX9_keeps_31 (fun H locs hP hS => ?_)
  obtain ⟨S_31, eS_31, Hf⟩ := c_l_ex Hf
  have hP : st_HP X (st_A S) S_31 H := by rw [eS_31]; exact hP
  refine lv_iconst (v := 0) hx hb dX9_keeps_32 (by decide) ?_
  refine lv_istore_n (lv' := [(1, .int 0), (0, .ref a0)]) hx hb dX9_keeps_33 rfl hl (by decide) rfl (fun ls hl => ?_)
  refine (c_w_ind (P := fun (q : st_T × Int32) => ∀ (H : Heap) (locs : List Loc) (ls : Array Slot), st_HP X (st_A S) q.1 H → va_S (st_A S) s.heap H locs → lv_has ls 2 [(0, .ref a0), (1, .int q.2)] → W p l e { frames := 0, cells := 0, slots := 0, locals := 0 } s m args below meth c H locs 0 0 (MQ below (st_Q X (st_A S) none SE) args s 0 0 (st_A S)) (F0 m 34 ls [])) ?_ _ _ Hf) _ _ _ hP hS (lv_sub hl [1, 0] rfl)
  intro rec34 hrec34 q Hf H locs ls hP hS hl
  obtain ⟨S34, y1_34⟩ := q
  unfold b_X9_keeps_34 at Hf
  try dsimp only at Hf
  try dsimp only at hP
  try dsimp only at hl
  try dsimp only
  refine lv_iload_n hx hb dX9_keeps_34 rfl (lv_at hl 1 rfl) ?_
  refine lv_bipush (v := 24) hx hb dX9_keeps_35 (by decide) ?_
  refine lv_icmp_ge hx hb dX9_keeps_37 (tgt := 94) (by decide) (fun hc => ?_) (fun hc => ?_)
  · have Hf := c_i_t Hf hc
    refine lv_iconst (v := 0) hx hb dX9_keeps_94 (by decide) ?_
    refine lv_istore_n (lv' := [(1, .int 0), (0, .ref a0)]) hx hb dX9_keeps_95 rfl hl (by decide) rfl (fun ls hl => ?_)
    refine (c_w_ind (P := fun (q : st_T × Int32) => ∀ (H : Heap) (locs : List Loc) (ls : Array Slot), st_HP X (st_A S) q.1 H → va_S (st_A S) s.heap H locs → lv_has ls 2 [(0, .ref a0), (1, .int q.2)] → W p l e { frames := 0, cells := 0, slots := 0, locals := 0 } s m args below meth c H locs 0 0 (MQ below (st_Q X (st_A S) none SE) args s 0 0 (st_A S)) (F0 m 96 ls [])) ?_ _ _ Hf) _ _ _ hP hS (lv_sub hl [1, 0] rfl)
    intro rec96 hrec96 q Hf H locs ls hP hS hl
    obtain ⟨S96, y1_96⟩ := q
    unfold b_X9_keeps_96 at Hf
    try dsimp only at Hf
    try dsimp only at hP
    try dsimp only at hl
    try dsimp only
    refine lv_iload_n hx hb dX9_keeps_96 rfl (lv_at hl 1 rfl) ?_
    refine lv_aload_n hx hb dX9_keeps_97 rfl (lv_at hl 0 rfl) ?_
    obtain ⟨hk_a0, Hf⟩ := c_g_some Hf
    refine fg_10_18 hx hb hts hown hK hP hk_a0 lkf_X9_183 dX9_keeps_98 ?_
    refine lv_icmp_ge hx hb dX9_keeps_101 (tgt := 160) (by decide) (fun hc => ?_) (fun hc => ?_)
    · have Hf := c_i_t Hf hc
      refine lv_aload_n hx hb dX9_keeps_160 rfl (lv_at hl 0 rfl) ?_
      refine lv_aload_n hx hb dX9_keeps_161 rfl (lv_at hl 0 rfl) ?_
      refine fg_10_10 hx hb hts hown hK hP hk_a0 lkf_X9_186 dX9_keeps_162 ?_
      refine fp_10_11 hx hb hts hown hK hP hS hk_a0 lkf_X9_54 dX9_keeps_165 (fun H locs hP hS => ?_)
      obtain ⟨S_165, eS_165, Hf⟩ := c_l_ex Hf
      have hP : st_HP X (st_A S) S_165 H := by rw [eS_165]; exact hP
      refine lv_aload_n hx hb dX9_keeps_168 rfl (lv_at hl 0 rfl) ?_
      refine lv_dup hx hb dX9_keeps_169 rfl ?_
      have hk_a0 : st_K S_165 a0 = 11 := by rw [kp_pi eS_165]; exact hk_a0
      refine fg_10_10 hx hb hts hown hK hP hk_a0 lkf_X9_186 dX9_keeps_170 ?_
      refine lv_iconst (v := 1) hx hb dX9_keeps_173 (by decide) ?_
      refine lv_iadd hx hb dX9_keeps_174 ?_
      refine fp_10_10 hx hb hts hown hK hP hS hk_a0 lkf_X9_186 dX9_keeps_175 (fun H locs hP hS => ?_)
      obtain ⟨S_175, eS_175, Hf⟩ := c_l_ex Hf
      have hP : st_HP X (st_A S) S_175 H := by rw [eS_175]; exact hP
      cases Hf
      exact r_vret hx hb hr rfl hlocks dX9_keeps_178 (Nat.le_of_ble_eq_true rfl) (Nat.le_of_ble_eq_true rfl) hP hS
    have Hf := c_i_f Hf hc
    refine lv_aload_n hx hb dX9_keeps_104 rfl (lv_at hl 0 rfl) ?_
    obtain ⟨q105, hq105, Hf⟩ := c_n_some Hf
    refine fg_10_16 hx hb hts hown hK hP hk_a0 lkf_X9_70 hq105 dX9_keeps_105 ?_
    refine lv_sipush (v := 880) hx hb dX9_keeps_108 (by decide) ?_
    refine lv_aload_n hx hb dX9_keeps_111 rfl (lv_at hl 0 rfl) ?_
    refine fg_10_10 hx hb hts hown hK hP hk_a0 lkf_X9_186 dX9_keeps_112 ?_
    refine lv_imul hx hb dX9_keeps_115 ?_
    refine lv_iload_n hx hb dX9_keeps_116 rfl (lv_at hl 1 rfl) ?_
    refine lv_iadd hx hb dX9_keeps_117 ?_
    refine lv_aload_n hx hb dX9_keeps_118 rfl (lv_at hl 0 rfl) ?_
    refine fg_10_16 hx hb hts hown hK hP hk_a0 lkf_X9_70 hq105 dX9_keeps_119 ?_
    refine lv_sipush (v := 7040) hx hb dX9_keeps_122 (by decide) ?_
    refine lv_iload_n hx hb dX9_keeps_125 rfl (lv_at hl 1 rfl) ?_
    refine lv_iadd hx hb dX9_keeps_126 ?_
    obtain ⟨hk_q105, Hf⟩ := c_g_some Hf
    obtain ⟨hi127, Hf⟩ := c_g_some Hf
    refine r_iald hx hb hK hP hk_q105 hi127 dX9_keeps_127 ?_
    obtain ⟨hi128, Hf⟩ := c_g_some Hf
    refine r_iast hx hb hK hP hS hk_q105 hi128 dX9_keeps_128 (fun H locs hP hS => ?_)
    obtain ⟨S_128, eS_128, Hf⟩ := c_l_ex Hf
    have hP : st_HP X (st_A S) S_128 H := by rw [eS_128]; exact hP
    refine lv_aload_n hx hb dX9_keeps_129 rfl (lv_at hl 0 rfl) ?_
    have hk_a0 : st_K S_128 a0 = 11 := by rw [kp_wi eS_128]; exact hk_a0
    obtain ⟨q130, hq130, Hf⟩ := c_n_some Hf
    refine fg_10_17 hx hb hts hown hK hP hk_a0 lkf_X9_73 hq130 dX9_keeps_130 ?_
    refine lv_sipush (v := 880) hx hb dX9_keeps_133 (by decide) ?_
    refine lv_aload_n hx hb dX9_keeps_136 rfl (lv_at hl 0 rfl) ?_
    refine fg_10_10 hx hb hts hown hK hP hk_a0 lkf_X9_186 dX9_keeps_137 ?_
    refine lv_imul hx hb dX9_keeps_140 ?_
    refine lv_iload_n hx hb dX9_keeps_141 rfl (lv_at hl 1 rfl) ?_
    refine lv_iadd hx hb dX9_keeps_142 ?_
    refine lv_aload_n hx hb dX9_keeps_143 rfl (lv_at hl 0 rfl) ?_
    refine fg_10_17 hx hb hts hown hK hP hk_a0 lkf_X9_73 hq130 dX9_keeps_144 ?_
    refine lv_sipush (v := 7040) hx hb dX9_keeps_147 (by decide) ?_
    refine lv_iload_n hx hb dX9_keeps_150 rfl (lv_at hl 1 rfl) ?_
    refine lv_iadd hx hb dX9_keeps_151 ?_
    obtain ⟨hk_q130, Hf⟩ := c_g_some Hf
    obtain ⟨hi152, Hf⟩ := c_g_some Hf
    refine r_iald hx hb hK hP hk_q130 hi152 dX9_keeps_152 ?_
    obtain ⟨hi153, Hf⟩ := c_g_some Hf
    refine r_iast hx hb hK hP hS hk_q130 hi153 dX9_keeps_153 (fun H locs hP hS => ?_)
    obtain ⟨S_153, eS_153, Hf⟩ := c_l_ex Hf
    have hP : st_HP X (st_A S) S_153 H := by rw [eS_153]; exact hP
    refine lv_iinc (v := (y1_96 + 1)) (lv' := [(1, .int (y1_96 + 1)), (0, .ref a0)]) hx hb dX9_keeps_154 hl (k := 1) rfl rfl (by decide) rfl (fun ls hl => ?_)
    refine lv_goto hx hb dX9_keeps_157 (tgt := 96) (by decide) ?_
    exact hrec96 (S_153, (y1_96 + 1)) Hf _ _ _ hP hS (lv_sub hl [1, 0] rfl)
  have Hf := c_i_f Hf hc
  refine lv_aload_n hx hb dX9_keeps_40 rfl (lv_at hl 0 rfl) ?_
  obtain ⟨hk_a0, Hf⟩ := c_g_some Hf
  obtain ⟨q41, hq41, Hf⟩ := c_n_some Hf
  refine fg_10_14 hx hb hts hown hK hP hk_a0 lkf_X9_64 hq41 dX9_keeps_41 ?_
  refine lv_bipush (v := 24) hx hb dX9_keeps_44 (by decide) ?_
  refine lv_aload_n hx hb dX9_keeps_46 rfl (lv_at hl 0 rfl) ?_
  refine fg_10_10 hx hb hts hown hK hP hk_a0 lkf_X9_186 dX9_keeps_47 ?_
  refine lv_imul hx hb dX9_keeps_50 ?_
  refine lv_iload_n hx hb dX9_keeps_51 rfl (lv_at hl 1 rfl) ?_
  refine lv_iadd hx hb dX9_keeps_52 ?_
  refine lv_aload_n hx hb dX9_keeps_53 rfl (lv_at hl 0 rfl) ?_
  refine fg_10_14 hx hb hts hown hK hP hk_a0 lkf_X9_64 hq41 dX9_keeps_54 ?_
  refine lv_sipush (v := 192) hx hb dX9_keeps_57 (by decide) ?_
  refine lv_iload_n hx hb dX9_keeps_60 rfl (lv_at hl 1 rfl) ?_
  refine lv_iadd hx hb dX9_keeps_61 ?_
  obtain ⟨hk_q41, Hf⟩ := c_g_some Hf
  obtain ⟨hi62, Hf⟩ := c_g_some Hf
  refine r_iald hx hb hK hP hk_q41 hi62 dX9_keeps_62 ?_
  obtain ⟨hi63, Hf⟩ := c_g_some Hf
  refine r_iast hx hb hK hP hS hk_q41 hi63 dX9_keeps_63 (fun H locs hP hS => ?_)
  obtain ⟨S_63, eS_63, Hf⟩ := c_l_ex Hf
  have hP : st_HP X (st_A S) S_63 H := by rw [eS_63]; exact hP
  refine lv_aload_n hx hb dX9_keeps_64 rfl (lv_at hl 0 rfl) ?_
  have hk_a0 : st_K S_63 a0 = 11 := by rw [kp_wi eS_63]; exact hk_a0
  obtain ⟨q65, hq65, Hf⟩ := c_n_some Hf
  refine fg_10_15 hx hb hts hown hK hP hk_a0 lkf_X9_67 hq65 dX9_keeps_65 ?_
  refine lv_bipush (v := 24) hx hb dX9_keeps_68 (by decide) ?_
  refine lv_aload_n hx hb dX9_keeps_70 rfl (lv_at hl 0 rfl) ?_
  refine fg_10_10 hx hb hts hown hK hP hk_a0 lkf_X9_186 dX9_keeps_71 ?_
  refine lv_imul hx hb dX9_keeps_74 ?_
  refine lv_iload_n hx hb dX9_keeps_75 rfl (lv_at hl 1 rfl) ?_
  refine lv_iadd hx hb dX9_keeps_76 ?_
  refine lv_aload_n hx hb dX9_keeps_77 rfl (lv_at hl 0 rfl) ?_
  refine fg_10_15 hx hb hts hown hK hP hk_a0 lkf_X9_67 hq65 dX9_keeps_78 ?_
  refine lv_sipush (v := 192) hx hb dX9_keeps_81 (by decide) ?_
  refine lv_iload_n hx hb dX9_keeps_84 rfl (lv_at hl 1 rfl) ?_
  refine lv_iadd hx hb dX9_keeps_85 ?_
  obtain ⟨hk_q65, Hf⟩ := c_g_some Hf
  obtain ⟨hi86, Hf⟩ := c_g_some Hf
  refine r_iald hx hb hK hP hk_q65 hi86 dX9_keeps_86 ?_
  obtain ⟨hi87, Hf⟩ := c_g_some Hf
  refine r_iast hx hb hK hP hS hk_q65 hi87 dX9_keeps_87 (fun H locs hP hS => ?_)
  obtain ⟨S_87, eS_87, Hf⟩ := c_l_ex Hf
  have hP : st_HP X (st_A S) S_87 H := by rw [eS_87]; exact hP
  refine lv_iinc (v := (y1_34 + 1)) (lv' := [(1, .int (y1_34 + 1)), (0, .ref a0)]) hx hb dX9_keeps_88 hl (k := 1) rfl rfl (by decide) rfl (fun ls hl => ?_)
  refine lv_goto hx hb dX9_keeps_91 (tgt := 34) (by decide) ?_
  exact hrec34 (S_87, (y1_34 + 1)) Hf _ _ _ hP hS (lv_sub hl [1, 0] rfl)

def j_X9_text_144 (a0 : Nat) (S144 : st_T) : Option (Int32 × st_T) :=
  (c_g (st_K S144 a0 = 11) (some ((st_fi S144 1008 a0), S144)))
def j_X9_text_133 (a0 : Nat) (S133 : st_T) : Option (Int32 × st_T) :=
  (c_g (st_K S133 a0 = 11) (c_i ((st_fi S133 1008 a0) = 0) (c_c (f_X9_keeps S133 a0) (fun (r141 : Unit) (T141 : st_T) => (j_X9_text_144 a0 T141))) (j_X9_text_144 a0 S133)))
def j_X9_text_80 (a0 : Nat) (S80 : st_T) : Option (Int32 × st_T) :=
  (c_g (st_K S80 a0 = 11) (c_c (f_X9_hasWord S80 a0 1) (fun (r82 : Int32) (T82 : st_T) => (c_i (r82 = 0) (j_X9_text_133 a0 T82) (c_g (st_K T82 a0 = 11) (c_n (st_fr T82 1013 a0) (fun (q89 : Nat) => (c_c (f_X9_takeNumber T82 a0 1 143) (fun (r99 : Int32) (T99 : st_T) => (c_g (st_K T99 q89 = 20) (c_g (c_in 8 (st_ln T99 q89)) (c_l (st_wi T99 q89 (8 : Int32).toNatClampNeg r99) (fun (S_102 : st_T) => (c_g (st_K S_102 a0 = 11) (c_c (f_X9_takeSign S_102 a0 59) (fun (r106 : Unit) (T106 : st_T) => (c_g (st_K T106 a0 = 11) (c_i ((st_fi T106 1008 a0) = 0) (c_n (st_fr T106 1004 a0) (fun (q117 : Nat) => (c_g (st_K T106 q117 = 20) (c_g (c_in (st_fi T106 1007 a0) (st_ln T106 q117)) (c_i ((st_ri T106 q117 ((st_fi T106 1007 a0) : Int32).toNatClampNeg) = 0) (j_X9_text_133 a0 T106) (c_c (f_X9_wrong T106 a0 1) (fun (r130 : Unit) (T130 : st_T) => (j_X9_text_133 a0 T130)))))))) (j_X9_text_133 a0 T106)))))))))))))))))))
def b_X9_text_46 (a0 : Nat) (rec46 : st_T → Option (Int32 × st_T)) (q : st_T) : Option (Int32 × st_T) :=
  (fun (S46 : st_T) =>
  (c_g (st_K S46 a0 = 11) (c_i ((st_fi S46 1008 a0) = 0) (c_n (st_fr S46 1004 a0) (fun (q54 : Nat) => (c_g (st_K S46 q54 = 20) (c_g (c_in (st_fi S46 1007 a0) (st_ln S46 q54)) (c_i ((st_ri S46 q54 ((st_fi S46 1007 a0) : Int32).toNatClampNeg) = 0) (j_X9_text_80 a0 S46) (c_c (f_X9_isWord S46 a0 1) (fun (r67 : Int32) (T67 : st_T) => (c_i (r67 = 0) (c_g (st_K T67 a0 = 11) (c_c (f_X9_rule T67 a0) (fun (r74 : Unit) (T74 : st_T) => (rec46 (T74))))) (j_X9_text_80 a0 T67))))))))) (j_X9_text_80 a0 S46)))) q
def f_X9_text (S : st_T) (a0 : Nat) : Option (Int32 × st_T) :=
  (c_g (st_K S a0 = 11) (c_l (st_pi S 1000 a0 0) (fun (S_2 : st_T) => (c_i ((st_fi S_2 1010 a0) = 8) (c_l (st_pi S_2 1002 a0 0) (fun (S_16 : st_T) => (some ((-1), S_16)))) (c_c (f_X9_cutAll S_2 a0) (fun (r22 : Unit) (T22 : st_T) => (c_g (st_K T22 a0 = 11) (c_n (st_fr T22 1012 a0) (fun (q26 : Nat) => (c_g (st_K T22 q26 = 20) (c_g (c_in 8 (st_ln T22 q26)) (c_l (st_wi T22 q26 (8 : Int32).toNatClampNeg 0) (fun (S_32 : st_T) => (c_n (st_fr S_32 1013 a0) (fun (q34 : Nat) => (c_g (st_K S_32 q34 = 20) (c_g (c_in 8 (st_ln S_32 q34)) (c_l (st_wi S_32 q34 (8 : Int32).toNatClampNeg 0) (fun (S_40 : st_T) => (c_l (st_pi S_40 1018 a0 0) (fun (S_43 : st_T) => (c_w (b_X9_text_46 a0) c_N S_43))))))))))))))))))))))
set_option maxRecDepth 100000 in
set_option maxHeartbeats 4000000 in
theorem s_X9_text (l : Launch) (X : st_I) {S SE : st_T} {a0 : Nat} {rr : Int32} (Hf : f_X9_text S a0 = some (rr, SE)) : Met l yX9_text (Cond.code yX9_text cX9_text 1 (some .int) :: lw_g) { frames := 4, cells := 0, slots := 0, locals := 86 } (st_P X S [.ref a0]) (st_Q X (st_A S) (some (.int rr)) SE) 0 0 (st_A S) := by
  refine st_ofW (by decide) (Nat.le_of_ble_eq_true rfl) ?_
  intro p e s m args below meth c hx hb hr hml hlocks hnm hts hown hK hRO hA hP hS ls hl
  have hown : s.vm.findClass RX9 = some m.cls := hown
  have hl : lv_has ls 1 [(0, .ref a0)] := hl
  unfold f_X9_text at Hf
  refine lv_aload_n hx hb dX9_text_0 rfl (lv_at hl 0 rfl) ?_
  refine lv_iconst (v := 0) hx hb dX9_text_1 (by decide) ?_
  obtain ⟨hk_a0, Hf⟩ := c_g_some Hf
  refine fp_10_0 hx hb hts hown hK hP hS hk_a0 lkf_X9_131 dX9_text_2 (fun H locs hP hS => ?_)
  obtain ⟨S_2, eS_2, Hf⟩ := c_l_ex Hf
  have hP : st_HP X (st_A S) S_2 H := by rw [eS_2]; exact hP
  refine lv_aload_n hx hb dX9_text_5 rfl (lv_at hl 0 rfl) ?_
  have hk_a0 : st_K S_2 a0 = 11 := by rw [kp_pi eS_2]; exact hk_a0
  refine fg_10_10 hx hb hts hown hK hP hk_a0 lkf_X9_186 dX9_text_6 ?_
  refine lv_bipush (v := 8) hx hb dX9_text_9 (by decide) ?_
  refine lv_icmp_ne hx hb dX9_text_11 (tgt := 21) (by decide) (fun hc => ?_) (fun hc => ?_)
  · have Hf := c_i_f Hf hc
    refine lv_aload_n hx hb dX9_text_21 rfl (lv_at hl 0 rfl) ?_
    obtain ⟨r22, T22, hq22, Hf⟩ := c_c_some Hf
    refine r_cV (n := 0) (As := []) (rest := []) ⟨hx, hb, hml, hown, hts⟩ (s_X9_cutAll l X hq22) lkm_X9_189 (by decide +kernel) rfl (by decide) dX9_text_22 rfl rfl ⟨Nat.le_of_ble_eq_true rfl, Nat.le_of_ble_eq_true rfl⟩ hk_a0 rfl hl.1 (Nat.le_of_ble_eq_true rfl) ⟨Nat.le_of_ble_eq_true rfl, Nat.le_of_ble_eq_true rfl⟩ hK hRO hA hP hS (fun H locs hP hS => ?_)
    refine W.eq (g2 := F0 m 25 ls []) rfl ?_
    refine lv_aload_n hx hb dX9_text_25 rfl (lv_at hl 0 rfl) ?_
    obtain ⟨hk_a0, Hf⟩ := c_g_some Hf
    obtain ⟨q26, hq26, Hf⟩ := c_n_some Hf
    refine fg_10_12 hx hb hts hown hK hP hk_a0 lkf_X9_58 hq26 dX9_text_26 ?_
    refine lv_bipush (v := 8) hx hb dX9_text_29 (by decide) ?_
    refine lv_iconst (v := 0) hx hb dX9_text_31 (by decide) ?_
    obtain ⟨hk_q26, Hf⟩ := c_g_some Hf
    obtain ⟨hi32, Hf⟩ := c_g_some Hf
    refine r_iast hx hb hK hP hS hk_q26 hi32 dX9_text_32 (fun H locs hP hS => ?_)
    obtain ⟨S_32, eS_32, Hf⟩ := c_l_ex Hf
    have hP : st_HP X (st_A S) S_32 H := by rw [eS_32]; exact hP
    refine lv_aload_n hx hb dX9_text_33 rfl (lv_at hl 0 rfl) ?_
    have hk_a0 : st_K S_32 a0 = 11 := by rw [kp_wi eS_32]; exact hk_a0
    obtain ⟨q34, hq34, Hf⟩ := c_n_some Hf
    refine fg_10_13 hx hb hts hown hK hP hk_a0 lkf_X9_61 hq34 dX9_text_34 ?_
    refine lv_bipush (v := 8) hx hb dX9_text_37 (by decide) ?_
    refine lv_iconst (v := 0) hx hb dX9_text_39 (by decide) ?_
    obtain ⟨hk_q34, Hf⟩ := c_g_some Hf
    obtain ⟨hi40, Hf⟩ := c_g_some Hf
    refine r_iast hx hb hK hP hS hk_q34 hi40 dX9_text_40 (fun H locs hP hS => ?_)
    obtain ⟨S_40, eS_40, Hf⟩ := c_l_ex Hf
    have hP : st_HP X (st_A S) S_40 H := by rw [eS_40]; exact hP
    refine lv_aload_n hx hb dX9_text_41 rfl (lv_at hl 0 rfl) ?_
    refine lv_iconst (v := 0) hx hb dX9_text_42 (by decide) ?_
    have hk_a0 : st_K S_40 a0 = 11 := by rw [kp_wi eS_40]; exact hk_a0
    refine fp_10_18 hx hb hts hown hK hP hS hk_a0 lkf_X9_183 dX9_text_43 (fun H locs hP hS => ?_)
    obtain ⟨S_43, eS_43, Hf⟩ := c_l_ex Hf
    have hP : st_HP X (st_A S) S_43 H := by rw [eS_43]; exact hP
    refine (c_w_ind (P := fun (q : st_T) => ∀ (H : Heap) (locs : List Loc) (ls : Array Slot), st_HP X (st_A S) q H → va_S (st_A S) s.heap H locs → lv_has ls 1 [(0, .ref a0)] → W p l e { frames := 4, cells := 0, slots := 0, locals := 86 } s m args below meth c H locs 0 0 (MQ below (st_Q X (st_A S) (some (.int rr)) SE) args s 0 0 (st_A S)) (F0 m 46 ls [])) ?_ _ _ Hf) _ _ _ hP hS (lv_sub hl [0] rfl)
    intro rec46 hrec46 q Hf H locs ls hP hS hl
    obtain ⟨S46, rfl⟩ : ∃ z, z = q := ⟨q, rfl⟩
    unfold b_X9_text_46 at Hf
    try dsimp only at Hf
    try dsimp only at hP
    try dsimp only at hl
    try dsimp only
    refine lv_aload_n hx hb dX9_text_46 rfl (lv_at hl 0 rfl) ?_
    obtain ⟨hk_a0, Hf⟩ := c_g_some Hf
    refine fg_10_8 hx hb hts hown hK hP hk_a0 lkf_X9_167 dX9_text_47 ?_
    have hJ80 : ∀ (S80 : st_T), j_X9_text_80 a0 S80 = some (rr, SE) → ∀ (H : Heap) (locs : List Loc) (ls : Array Slot), st_HP X (st_A S) S80 H → va_S (st_A S) s.heap H locs → lv_has ls 1 [(0, .ref a0)] → W p l e { frames := 4, cells := 0, slots := 0, locals := 86 } s m args below meth c H locs 0 0 (MQ below (st_Q X (st_A S) (some (.int rr)) SE) args s 0 0 (st_A S)) (F0 m 80 ls []) := by
      intro S80 Hf H locs ls hP hS hl
      unfold j_X9_text_80 at Hf
      refine lv_aload_n hx hb dX9_text_80 rfl (lv_at hl 0 rfl) ?_
      refine lv_iconst (v := 1) hx hb dX9_text_81 (by decide) ?_
      obtain ⟨hk_a0, Hf⟩ := c_g_some Hf
      obtain ⟨r82, T82, hq82, Hf⟩ := c_c_some Hf
      refine r_cV (n := 1) (As := [.int 1]) (rest := []) ⟨hx, hb, hml, hown, hts⟩ (s_X9_hasWord l X hq82) lkm_X9_180 (by decide +kernel) rfl (by decide) dX9_text_82 rfl rfl ⟨Nat.le_of_ble_eq_true rfl, Nat.le_of_ble_eq_true rfl⟩ hk_a0 rfl hl.1 (Nat.le_of_ble_eq_true rfl) ⟨Nat.le_of_ble_eq_true rfl, Nat.le_of_ble_eq_true rfl⟩ hK hRO hA hP hS (fun H locs hP hS => ?_)
      refine W.eq (g2 := F0 m 85 ls [.int r82]) rfl ?_
      have hJ133 : ∀ (S133 : st_T), j_X9_text_133 a0 S133 = some (rr, SE) → ∀ (H : Heap) (locs : List Loc) (ls : Array Slot), st_HP X (st_A S) S133 H → va_S (st_A S) s.heap H locs → lv_has ls 1 [(0, .ref a0)] → W p l e { frames := 4, cells := 0, slots := 0, locals := 86 } s m args below meth c H locs 0 0 (MQ below (st_Q X (st_A S) (some (.int rr)) SE) args s 0 0 (st_A S)) (F0 m 133 ls []) := by
        intro S133 Hf H locs ls hP hS hl
        unfold j_X9_text_133 at Hf
        refine lv_aload_n hx hb dX9_text_133 rfl (lv_at hl 0 rfl) ?_
        obtain ⟨hk_a0, Hf⟩ := c_g_some Hf
        refine fg_10_8 hx hb hts hown hK hP hk_a0 lkf_X9_167 dX9_text_134 ?_
        have hJ144 : ∀ (S144 : st_T), j_X9_text_144 a0 S144 = some (rr, SE) → ∀ (H : Heap) (locs : List Loc) (ls : Array Slot), st_HP X (st_A S) S144 H → va_S (st_A S) s.heap H locs → lv_has ls 1 [(0, .ref a0)] → W p l e { frames := 4, cells := 0, slots := 0, locals := 86 } s m args below meth c H locs 0 0 (MQ below (st_Q X (st_A S) (some (.int rr)) SE) args s 0 0 (st_A S)) (F0 m 144 ls []) := by
          intro S144 Hf H locs ls hP hS hl
          unfold j_X9_text_144 at Hf
          refine lv_aload_n hx hb dX9_text_144 rfl (lv_at hl 0 rfl) ?_
          obtain ⟨hk_a0, Hf⟩ := c_g_some Hf
          refine fg_10_8 hx hb hts hown hK hP hk_a0 lkf_X9_167 dX9_text_145 ?_
          cases Hf
          exact r_iret hx hb hr rfl hlocks dX9_text_148 (Nat.le_of_ble_eq_true rfl) (Nat.le_of_ble_eq_true rfl) hP hS
        refine lv_if_ne hx hb dX9_text_137 (tgt := 144) (by decide) (fun hc => ?_) (fun hc => ?_)
        · have Hf := c_i_f Hf hc
          exact hJ144 S133 Hf _ _ _ hP hS (lv_sub hl [0] rfl)
        have Hf := c_i_t Hf hc
        refine lv_aload_n hx hb dX9_text_140 rfl (lv_at hl 0 rfl) ?_
        obtain ⟨r141, T141, hq141, Hf⟩ := c_c_some Hf
        refine r_cV (n := 0) (As := []) (rest := []) ⟨hx, hb, hml, hown, hts⟩ (s_X9_keeps l X hq141) lkm_X9_202 (by decide +kernel) rfl (by decide) dX9_text_141 rfl rfl ⟨Nat.le_of_ble_eq_true rfl, Nat.le_of_ble_eq_true rfl⟩ hk_a0 rfl hl.1 (Nat.le_of_ble_eq_true rfl) ⟨Nat.le_of_ble_eq_true rfl, Nat.le_of_ble_eq_true rfl⟩ hK hRO hA hP hS (fun H locs hP hS => ?_)
        refine W.eq (g2 := F0 m 144 ls []) rfl ?_
        exact hJ144 T141 Hf _ _ _ hP hS (lv_sub hl [0] rfl)
      refine lv_if_eq hx hb dX9_text_85 (tgt := 133) (by decide) (fun hc => ?_) (fun hc => ?_)
      · have Hf := c_i_t Hf hc
        exact hJ133 T82 Hf _ _ _ hP hS (lv_sub hl [0] rfl)
      have Hf := c_i_f Hf hc
      refine lv_aload_n hx hb dX9_text_88 rfl (lv_at hl 0 rfl) ?_
      obtain ⟨hk_a0, Hf⟩ := c_g_some Hf
      obtain ⟨q89, hq89, Hf⟩ := c_n_some Hf
      refine fg_10_13 hx hb hts hown hK hP hk_a0 lkf_X9_61 hq89 dX9_text_89 ?_
      refine lv_bipush (v := 8) hx hb dX9_text_92 (by decide) ?_
      refine lv_aload_n hx hb dX9_text_94 rfl (lv_at hl 0 rfl) ?_
      refine lv_iconst (v := 1) hx hb dX9_text_95 (by decide) ?_
      refine lv_sipush (v := 143) hx hb dX9_text_96 (by decide) ?_
      obtain ⟨r99, T99, hq99, Hf⟩ := c_c_some Hf
      refine r_cV (n := 2) (As := [.int 1, .int 143]) (rest := [.int 8, .ref q89]) ⟨hx, hb, hml, hown, hts⟩ (s_X9_takeNumber l X hq99) lkm_X9_195 (by decide +kernel) rfl (by decide) dX9_text_99 rfl rfl ⟨Nat.le_of_ble_eq_true rfl, Nat.le_of_ble_eq_true rfl⟩ hk_a0 rfl hl.1 (Nat.le_of_ble_eq_true rfl) ⟨Nat.le_of_ble_eq_true rfl, Nat.le_of_ble_eq_true rfl⟩ hK hRO hA hP hS (fun H locs hP hS => ?_)
      refine W.eq (g2 := F0 m 102 ls [.int r99, .int 8, .ref q89]) rfl ?_
      obtain ⟨hk_q89, Hf⟩ := c_g_some Hf
      obtain ⟨hi102, Hf⟩ := c_g_some Hf
      refine r_iast hx hb hK hP hS hk_q89 hi102 dX9_text_102 (fun H locs hP hS => ?_)
      obtain ⟨S_102, eS_102, Hf⟩ := c_l_ex Hf
      have hP : st_HP X (st_A S) S_102 H := by rw [eS_102]; exact hP
      refine lv_aload_n hx hb dX9_text_103 rfl (lv_at hl 0 rfl) ?_
      refine lv_bipush (v := 59) hx hb dX9_text_104 (by decide) ?_
      obtain ⟨hk_a0, Hf⟩ := c_g_some Hf
      obtain ⟨r106, T106, hq106, Hf⟩ := c_c_some Hf
      refine r_cV (n := 1) (As := [.int 59]) (rest := []) ⟨hx, hb, hml, hown, hts⟩ (s_X9_takeSign l X hq106) lkm_X9_199 (by decide +kernel) rfl (by decide) dX9_text_106 rfl rfl ⟨Nat.le_of_ble_eq_true rfl, Nat.le_of_ble_eq_true rfl⟩ hk_a0 rfl hl.1 (Nat.le_of_ble_eq_true rfl) ⟨Nat.le_of_ble_eq_true rfl, Nat.le_of_ble_eq_true rfl⟩ hK hRO hA hP hS (fun H locs hP hS => ?_)
      refine W.eq (g2 := F0 m 109 ls []) rfl ?_
      refine lv_aload_n hx hb dX9_text_109 rfl (lv_at hl 0 rfl) ?_
      obtain ⟨hk_a0, Hf⟩ := c_g_some Hf
      refine fg_10_8 hx hb hts hown hK hP hk_a0 lkf_X9_167 dX9_text_110 ?_
      refine lv_if_ne hx hb dX9_text_113 (tgt := 133) (by decide) (fun hc => ?_) (fun hc => ?_)
      · have Hf := c_i_f Hf hc
        exact hJ133 T106 Hf _ _ _ hP hS (lv_sub hl [0] rfl)
      have Hf := c_i_t Hf hc
      refine lv_aload_n hx hb dX9_text_116 rfl (lv_at hl 0 rfl) ?_
      obtain ⟨q117, hq117, Hf⟩ := c_n_some Hf
      refine fg_10_4 hx hb hts hown hK hP hk_a0 lkf_X9_13 hq117 dX9_text_117 ?_
      refine lv_aload_n hx hb dX9_text_120 rfl (lv_at hl 0 rfl) ?_
      refine fg_10_7 hx hb hts hown hK hP hk_a0 lkf_X9_164 dX9_text_121 ?_
      obtain ⟨hk_q117, Hf⟩ := c_g_some Hf
      obtain ⟨hi124, Hf⟩ := c_g_some Hf
      refine r_iald hx hb hK hP hk_q117 hi124 dX9_text_124 ?_
      refine lv_if_eq hx hb dX9_text_125 (tgt := 133) (by decide) (fun hc => ?_) (fun hc => ?_)
      · have Hf := c_i_t Hf hc
        exact hJ133 T106 Hf _ _ _ hP hS (lv_sub hl [0] rfl)
      have Hf := c_i_f Hf hc
      refine lv_aload_n hx hb dX9_text_128 rfl (lv_at hl 0 rfl) ?_
      refine lv_iconst (v := 1) hx hb dX9_text_129 (by decide) ?_
      obtain ⟨r130, T130, hq130, Hf⟩ := c_c_some Hf
      refine r_cV (n := 1) (As := [.int 1]) (rest := []) ⟨hx, hb, hml, hown, hts⟩ (s_X9_wrong l X hq130) lkm_X9_173 (by decide +kernel) rfl (by decide) dX9_text_130 rfl rfl ⟨Nat.le_of_ble_eq_true rfl, Nat.le_of_ble_eq_true rfl⟩ hk_a0 rfl hl.1 (Nat.le_of_ble_eq_true rfl) ⟨Nat.le_of_ble_eq_true rfl, Nat.le_of_ble_eq_true rfl⟩ hK hRO hA hP hS (fun H locs hP hS => ?_)
      refine W.eq (g2 := F0 m 133 ls []) rfl ?_
      exact hJ133 T130 Hf _ _ _ hP hS (lv_sub hl [0] rfl)
    refine lv_if_ne hx hb dX9_text_50 (tgt := 80) (by decide) (fun hc => ?_) (fun hc => ?_)
    · have Hf := c_i_f Hf hc
      exact hJ80 S46 Hf _ _ _ hP hS (lv_sub hl [0] rfl)
    have Hf := c_i_t Hf hc
    refine lv_aload_n hx hb dX9_text_53 rfl (lv_at hl 0 rfl) ?_
    obtain ⟨q54, hq54, Hf⟩ := c_n_some Hf
    refine fg_10_4 hx hb hts hown hK hP hk_a0 lkf_X9_13 hq54 dX9_text_54 ?_
    refine lv_aload_n hx hb dX9_text_57 rfl (lv_at hl 0 rfl) ?_
    refine fg_10_7 hx hb hts hown hK hP hk_a0 lkf_X9_164 dX9_text_58 ?_
    obtain ⟨hk_q54, Hf⟩ := c_g_some Hf
    obtain ⟨hi61, Hf⟩ := c_g_some Hf
    refine r_iald hx hb hK hP hk_q54 hi61 dX9_text_61 ?_
    refine lv_if_eq hx hb dX9_text_62 (tgt := 80) (by decide) (fun hc => ?_) (fun hc => ?_)
    · have Hf := c_i_t Hf hc
      exact hJ80 S46 Hf _ _ _ hP hS (lv_sub hl [0] rfl)
    have Hf := c_i_f Hf hc
    refine lv_aload_n hx hb dX9_text_65 rfl (lv_at hl 0 rfl) ?_
    refine lv_iconst (v := 1) hx hb dX9_text_66 (by decide) ?_
    obtain ⟨r67, T67, hq67, Hf⟩ := c_c_some Hf
    refine r_cV (n := 1) (As := [.int 1]) (rest := []) ⟨hx, hb, hml, hown, hts⟩ (s_X9_isWord l X hq67) lkm_X9_177 (by decide +kernel) rfl (by decide) dX9_text_67 rfl rfl ⟨Nat.le_of_ble_eq_true rfl, Nat.le_of_ble_eq_true rfl⟩ hk_a0 rfl hl.1 (Nat.le_of_ble_eq_true rfl) ⟨Nat.le_of_ble_eq_true rfl, Nat.le_of_ble_eq_true rfl⟩ hK hRO hA hP hS (fun H locs hP hS => ?_)
    refine W.eq (g2 := F0 m 70 ls [.int r67]) rfl ?_
    refine lv_if_ne hx hb dX9_text_70 (tgt := 80) (by decide) (fun hc => ?_) (fun hc => ?_)
    · have Hf := c_i_f Hf hc
      exact hJ80 T67 Hf _ _ _ hP hS (lv_sub hl [0] rfl)
    have Hf := c_i_t Hf hc
    refine lv_aload_n hx hb dX9_text_73 rfl (lv_at hl 0 rfl) ?_
    obtain ⟨hk_a0, Hf⟩ := c_g_some Hf
    obtain ⟨r74, T74, hq74, Hf⟩ := c_c_some Hf
    refine r_cV (n := 0) (As := []) (rest := []) ⟨hx, hb, hml, hown, hts⟩ (s_X9_rule l X hq74) lkm_X9_192 (by decide +kernel) rfl (by decide) dX9_text_74 rfl rfl ⟨Nat.le_of_ble_eq_true rfl, Nat.le_of_ble_eq_true rfl⟩ hk_a0 rfl hl.1 (Nat.le_of_ble_eq_true rfl) ⟨Nat.le_of_ble_eq_true rfl, Nat.le_of_ble_eq_true rfl⟩ hK hRO hA hP hS (fun H locs hP hS => ?_)
    refine W.eq (g2 := F0 m 77 ls []) rfl ?_
    refine lv_goto hx hb dX9_text_77 (tgt := 46) (by decide) ?_
    exact hrec46 (T74) Hf _ _ _ hP hS (lv_sub hl [0] rfl)
  have Hf := c_i_t Hf hc
  refine lv_aload_n hx hb dX9_text_14 rfl (lv_at hl 0 rfl) ?_
  refine lv_iconst (v := 0) hx hb dX9_text_15 (by decide) ?_
  refine fp_10_2 hx hb hts hown hK hP hS hk_a0 lkf_X9_138 dX9_text_16 (fun H locs hP hS => ?_)
  obtain ⟨S_16, eS_16, Hf⟩ := c_l_ex Hf
  have hP : st_HP X (st_A S) S_16 H := by rw [eS_16]; exact hP
  refine lv_iconst (v := (-1)) hx hb dX9_text_19 (by decide) ?_
  cases Hf
  exact r_iret hx hb hr rfl hlocks dX9_text_20 (Nat.le_of_ble_eq_true rfl) (Nat.le_of_ble_eq_true rfl) hP hS

def j_X9_isUnder_21 (y3_2 : Int32) (S21 : st_T) : Option (Int32 × st_T) :=
  (c_i (y3_2 ≤ 0) (some (0, S21)) (some (1, S21)))
def b_X9_isUnder_2 (a0 : Nat) (x2 : Int32) (rec2 : st_T × Int32 → Option (Int32 × st_T)) (q : st_T × Int32) : Option (Int32 × st_T) :=
  (fun (S2 : st_T) (y3_2 : Int32) =>
  (c_i (y3_2 ≤ 0) (j_X9_isUnder_21 y3_2 S2) (c_i (y3_2 = x2) (j_X9_isUnder_21 y3_2 S2) (c_g (st_K S2 a0 = 11) (c_n (st_fr S2 1026 a0) (fun (q12 : Nat) => (c_g (st_K S2 q12 = 20) (c_g (c_in y3_2 (st_ln S2 q12)) (c_l (st_ri S2 q12 (y3_2 : Int32).toNatClampNeg) (fun (z3_17 : Int32) => (rec2 (S2, z3_17)))))))))))) q.1 q.2
def f_X9_isUnder (S : st_T) (a0 : Nat) (x1 : Int32) (x2 : Int32) : Option (Int32 × st_T) :=
  (c_w (b_X9_isUnder_2 a0 x2) c_N (S, x1))
set_option maxRecDepth 100000 in
set_option maxHeartbeats 4000000 in
theorem s_X9_isUnder (l : Launch) (X : st_I) {S SE : st_T} {a0 : Nat} {x1 : Int32} {x2 : Int32} {rr : Int32} (Hf : f_X9_isUnder S a0 x1 x2 = some (rr, SE)) : Met l yX9_isUnder (Cond.code yX9_isUnder cX9_isUnder 4 (some .boolean) :: lw_g) { frames := 0, cells := 0, slots := 0, locals := 0 } (st_P X S [.ref a0, .int x1, .int x2]) (st_Q X (st_A S) (some (.int rr)) SE) 0 0 (st_A S) := by
  refine st_ofW (by decide) (Nat.le_of_ble_eq_true rfl) ?_
  intro p e s m args below meth c hx hb hr hml hlocks hnm hts hown hK hRO hA hP hS ls hl
  have hown : s.vm.findClass RX9 = some m.cls := hown
  have hl : lv_has ls 4 [(0, .ref a0), (1, .int x1), (2, .int x2)] := hl
  unfold f_X9_isUnder at Hf
  refine lv_iload_n hx hb dX9_isUnder_0 rfl (lv_at hl 1 rfl) ?_
  refine lv_istore_n (lv' := [(3, .int x1), (0, .ref a0), (1, .int x1), (2, .int x2)]) hx hb dX9_isUnder_1 rfl hl (by decide) rfl (fun ls hl => ?_)
  refine (c_w_ind (P := fun (q : st_T × Int32) => ∀ (H : Heap) (locs : List Loc) (ls : Array Slot), st_HP X (st_A S) q.1 H → va_S (st_A S) s.heap H locs → lv_has ls 4 [(0, .ref a0), (2, .int x2), (3, .int q.2)] → W p l e { frames := 0, cells := 0, slots := 0, locals := 0 } s m args below meth c H locs 0 0 (MQ below (st_Q X (st_A S) (some (.int rr)) SE) args s 0 0 (st_A S)) (F0 m 2 ls [])) ?_ _ _ Hf) _ _ _ hP hS (lv_sub hl [1, 3, 0] rfl)
  intro rec2 hrec2 q Hf H locs ls hP hS hl
  obtain ⟨S2, y3_2⟩ := q
  unfold b_X9_isUnder_2 at Hf
  try dsimp only at Hf
  try dsimp only at hP
  try dsimp only at hl
  try dsimp only
  refine lv_iload_n hx hb dX9_isUnder_2 rfl (lv_at hl 2 rfl) ?_
  have hJ21 : ∀ (S21 : st_T), j_X9_isUnder_21 y3_2 S21 = some (rr, SE) → ∀ (H : Heap) (locs : List Loc) (ls : Array Slot), st_HP X (st_A S) S21 H → va_S (st_A S) s.heap H locs → lv_has ls 4 [(3, .int y3_2)] → W p l e { frames := 0, cells := 0, slots := 0, locals := 0 } s m args below meth c H locs 0 0 (MQ below (st_Q X (st_A S) (some (.int rr)) SE) args s 0 0 (st_A S)) (F0 m 21 ls []) := by
    intro S21 Hf H locs ls hP hS hl
    unfold j_X9_isUnder_21 at Hf
    refine lv_iload_n hx hb dX9_isUnder_21 rfl (lv_at hl 0 rfl) ?_
    refine lv_if_le hx hb dX9_isUnder_22 (tgt := 29) (by decide) (fun hc => ?_) (fun hc => ?_)
    · have Hf := c_i_t Hf hc
      refine lv_iconst (v := 0) hx hb dX9_isUnder_29 (by decide) ?_
      cases Hf
      exact r_zret hx hb hr rfl (Or.inl rfl) hlocks dX9_isUnder_30 (Nat.le_of_ble_eq_true rfl) (Nat.le_of_ble_eq_true rfl) hP hS
    have Hf := c_i_f Hf hc
    refine lv_iconst (v := 1) hx hb dX9_isUnder_25 (by decide) ?_
    refine lv_goto hx hb dX9_isUnder_26 (tgt := 30) (by decide) ?_
    cases Hf
    exact r_zret hx hb hr rfl (Or.inr rfl) hlocks dX9_isUnder_30 (Nat.le_of_ble_eq_true rfl) (Nat.le_of_ble_eq_true rfl) hP hS
  refine lv_if_le hx hb dX9_isUnder_3 (tgt := 21) (by decide) (fun hc => ?_) (fun hc => ?_)
  · have Hf := c_i_t Hf hc
    exact hJ21 S2 Hf _ _ _ hP hS (lv_sub hl [2] rfl)
  have Hf := c_i_f Hf hc
  refine lv_iload_n hx hb dX9_isUnder_6 rfl (lv_at hl 2 rfl) ?_
  refine lv_iload_n hx hb dX9_isUnder_7 rfl (lv_at hl 1 rfl) ?_
  refine lv_icmp_eq hx hb dX9_isUnder_8 (tgt := 21) (by decide) (fun hc => ?_) (fun hc => ?_)
  · have Hf := c_i_t Hf hc
    exact hJ21 S2 Hf _ _ _ hP hS (lv_sub hl [2] rfl)
  have Hf := c_i_f Hf hc
  refine lv_aload_n hx hb dX9_isUnder_11 rfl (lv_at hl 0 rfl) ?_
  obtain ⟨hk_a0, Hf⟩ := c_g_some Hf
  obtain ⟨q12, hq12, Hf⟩ := c_n_some Hf
  refine fg_10_26 hx hb hts hown hK hP hk_a0 lkf_X9_94 hq12 dX9_isUnder_12 ?_
  refine lv_iload_n hx hb dX9_isUnder_15 rfl (lv_at hl 2 rfl) ?_
  obtain ⟨hk_q12, Hf⟩ := c_g_some Hf
  obtain ⟨hi16, Hf⟩ := c_g_some Hf
  refine r_iald hx hb hK hP hk_q12 hi16 dX9_isUnder_16 ?_
  refine lv_topi (fun z3_17 ez3_17 => ?_)
  have Hf := c_l_ren Hf ez3_17
  refine lv_istore_n (lv' := [(3, .int z3_17), (0, .ref a0), (2, .int x2)]) hx hb dX9_isUnder_17 rfl hl (by decide) rfl (fun ls hl => ?_)
  refine lv_goto hx hb dX9_isUnder_18 (tgt := 2) (by decide) ?_
  exact hrec2 (S2, z3_17) Hf _ _ _ hP hS (lv_sub hl [1, 2, 0] rfl)

def j_X9_worth_239 (rec4 : st_T × Int32 × Int32 → Option (Int32 × st_T)) (y2_4 : Int32) (S239 : st_T) (y3_239 : Int32) : Option (Int32 × st_T) :=
  (rec4 (S239, (y2_4 + 1), y3_239))
def j_X9_worth_117 (rec4 : st_T × Int32 × Int32 → Option (Int32 × st_T)) (y2_4 : Int32) (y3_4 : Int32) (q41 : Nat) (S117 : st_T) (u0_117 : Int32) : Option (Int32 × st_T) :=
  (c_g (st_K S117 q41 = 20) (c_g (c_in y3_4 (st_ln S117 q41)) (c_l (st_wi S117 q41 (y3_4 : Int32).toNatClampNeg u0_117) (fun (S_117 : st_T) => (j_X9_worth_239 rec4 y2_4 S_117 (y3_4 + 1))))))
def j_X9_worth_40 (a0 : Nat) (rec4 : st_T × Int32 × Int32 → Option (Int32 × st_T)) (y2_4 : Int32) (y3_4 : Int32) (z4_19 : Int32) (S40 : st_T) : Option (Int32 × st_T) :=
  (c_g (st_K S40 a0 = 11) (c_n (st_fr S40 1025 a0) (fun (q41 : Nat) => (c_i (z4_19 = 1) (c_n (st_fr S40 1017 a0) (fun (q52 : Nat) => (c_g (st_K S40 q52 = 20) (c_g (c_in y2_4 (st_ln S40 q52)) (j_X9_worth_117 rec4 y2_4 y3_4 q41 S40 (st_ri S40 q52 (y2_4 : Int32).toNatClampNeg)))))) (c_i (z4_19 = 2) (c_n (st_fr S40 1023 a0) (fun (q67 : Nat) => (c_n (st_fr S40 1017 a0) (fun (q71 : Nat) => (c_g (st_K S40 q71 = 20) (c_g (c_in y2_4 (st_ln S40 q71)) (c_g (st_K S40 q67 = 20) (c_g (c_in (st_ri S40 q71 (y2_4 : Int32).toNatClampNeg) (st_ln S40 q67)) (j_X9_worth_117 rec4 y2_4 y3_4 q41 S40 (st_ri S40 q67 ((st_ri S40 q71 (y2_4 : Int32).toNatClampNeg) : Int32).toNatClampNeg)))))))))) (c_n (st_fr S40 1024 a0) (fun (q82 : Nat) => (c_n (st_fr S40 1017 a0) (fun (q86 : Nat) => (c_g (st_K S40 q86 = 20) (c_g (c_in y2_4 (st_ln S40 q86)) (c_g (st_K S40 q82 = 20) (c_g (c_in ((st_ri S40 q86 (y2_4 : Int32).toNatClampNeg) / 256) (st_ln S40 q82)) (c_g (c_in y2_4 (st_ln S40 q86)) (c_c (f_X9_isUnder S40 a0 (st_ri S40 q82 (((st_ri S40 q86 (y2_4 : Int32).toNatClampNeg) / 256) : Int32).toNatClampNeg) ((st_ri S40 q86 (y2_4 : Int32).toNatClampNeg) - (st_ri S40 q86 (y2_4 : Int32).toNatClampNeg) / 256 * 256)) (fun (r106 : Int32) (T106 : st_T) => (c_i (r106 = 0) (j_X9_worth_117 rec4 y2_4 y3_4 q41 T106 0) (j_X9_worth_117 rec4 y2_4 y3_4 q41 T106 1))))))))))))))))))
def j_X9_worth_238 (rec4 : st_T × Int32 × Int32 → Option (Int32 × st_T)) (y2_4 : Int32) (y3_4 : Int32) (q128 : Nat) (S238 : st_T) (u0_238 : Int32) : Option (Int32 × st_T) :=
  (c_g (st_K S238 q128 = 20) (c_g (c_in ((y3_4 + (-1)) - 1) (st_ln S238 q128)) (c_l (st_wi S238 q128 (((y3_4 + (-1)) - 1) : Int32).toNatClampNeg u0_238) (fun (S_238 : st_T) => (j_X9_worth_239 rec4 y2_4 S_238 (y3_4 + (-1)))))))
def j_X9_worth_237 (rec4 : st_T × Int32 × Int32 → Option (Int32 × st_T)) (y2_4 : Int32) (y3_4 : Int32) (q128 : Nat) (S237 : st_T) : Option (Int32 × st_T) :=
  (j_X9_worth_238 rec4 y2_4 y3_4 q128 S237 0)
def b_X9_worth_4 (a0 : Nat) (rec4 : st_T × Int32 × Int32 → Option (Int32 × st_T)) (q : st_T × Int32 × Int32) : Option (Int32 × st_T) :=
  (fun (S4 : st_T) (y2_4 : Int32) (y3_4 : Int32) =>
  (c_g (st_K S4 a0 = 11) (c_n (st_fr S4 1016 a0) (fun (q5 : Nat) => (c_g (st_K S4 q5 = 20) (c_g (c_in y2_4 (st_ln S4 q5)) (c_i ((st_ri S4 q5 (y2_4 : Int32).toNatClampNeg) = 0) (c_n (st_fr S4 1025 a0) (fun (q246 : Nat) => (c_g (st_K S4 q246 = 20) (c_g (c_in 0 (st_ln S4 q246)) (some ((st_ri S4 q246 (0 : Int32).toNatClampNeg), S4)))))) (c_g (c_in y2_4 (st_ln S4 q5)) (c_l (st_ri S4 q5 (y2_4 : Int32).toNatClampNeg) (fun (z4_19 : Int32) => (c_i (z4_19 = 1) (j_X9_worth_40 a0 rec4 y2_4 y3_4 z4_19 S4) (c_i (z4_19 = 2) (j_X9_worth_40 a0 rec4 y2_4 y3_4 z4_19 S4) (c_i (z4_19 = 8) (j_X9_worth_40 a0 rec4 y2_4 y3_4 z4_19 S4) (c_n (st_fr S4 1025 a0) (fun (q128 : Nat) => (c_g (st_K S4 q128 = 20) (c_g (c_in (y3_4 + (-1)) (st_ln S4 q128)) (c_l (st_ri S4 q128 ((y3_4 + (-1)) : Int32).toNatClampNeg) (fun (z5_133 : Int32) => (c_g (c_in ((y3_4 + (-1)) - 1) (st_ln S4 q128)) (c_l (st_ri S4 q128 (((y3_4 + (-1)) - 1) : Int32).toNatClampNeg) (fun (z6_143 : Int32) => (c_i (z4_19 = 3) (j_X9_worth_238 rec4 y2_4 y3_4 q128 S4 (z6_143 + z5_133)) (c_i (z4_19 = 4) (j_X9_worth_238 rec4 y2_4 y3_4 q128 S4 (z6_143 - z5_133)) (c_i (z4_19 = 5) (c_i (z5_133 ≤ z6_143) (j_X9_worth_238 rec4 y2_4 y3_4 q128 S4 0) (j_X9_worth_238 rec4 y2_4 y3_4 q128 S4 1)) (c_i (z4_19 = 6) (c_i (z6_143 = z5_133) (j_X9_worth_238 rec4 y2_4 y3_4 q128 S4 1) (j_X9_worth_238 rec4 y2_4 y3_4 q128 S4 0)) (c_i (z6_143 = 0) (j_X9_worth_237 rec4 y2_4 y3_4 q128 S4) (c_i (z5_133 = 0) (j_X9_worth_237 rec4 y2_4 y3_4 q128 S4) (j_X9_worth_238 rec4 y2_4 y3_4 q128 S4 1))))))))))))))))))))))))))))) q.1 q.2.1 q.2.2
def f_X9_worth (S : st_T) (a0 : Nat) (x1 : Int32) : Option (Int32 × st_T) :=
  (c_w (b_X9_worth_4 a0) c_N (S, x1, 0))
set_option maxRecDepth 100000 in
set_option maxHeartbeats 4000000 in
theorem s_X9_worth (l : Launch) (X : st_I) {S SE : st_T} {a0 : Nat} {x1 : Int32} {rr : Int32} (Hf : f_X9_worth S a0 x1 = some (rr, SE)) : Met l yX9_worth (Cond.code yX9_worth cX9_worth 7 (some .int) :: lw_g) { frames := 1, cells := 0, slots := 0, locals := 23 } (st_P X S [.ref a0, .int x1]) (st_Q X (st_A S) (some (.int rr)) SE) 0 0 (st_A S) := by
  refine st_ofW (by decide) (Nat.le_of_ble_eq_true rfl) ?_
  intro p e s m args below meth c hx hb hr hml hlocks hnm hts hown hK hRO hA hP hS ls hl
  have hown : s.vm.findClass RX9 = some m.cls := hown
  have hl : lv_has ls 7 [(0, .ref a0), (1, .int x1)] := hl
  unfold f_X9_worth at Hf
  refine lv_iload_n hx hb dX9_worth_0 rfl (lv_at hl 1 rfl) ?_
  refine lv_istore_n (lv' := [(2, .int x1), (0, .ref a0), (1, .int x1)]) hx hb dX9_worth_1 rfl hl (by decide) rfl (fun ls hl => ?_)
  refine lv_iconst (v := 0) hx hb dX9_worth_2 (by decide) ?_
  refine lv_istore_n (lv' := [(3, .int 0), (2, .int x1), (0, .ref a0), (1, .int x1)]) hx hb dX9_worth_3 rfl hl (by decide) rfl (fun ls hl => ?_)
  refine (c_w_ind (P := fun (q : st_T × Int32 × Int32) => ∀ (H : Heap) (locs : List Loc) (ls : Array Slot), st_HP X (st_A S) q.1 H → va_S (st_A S) s.heap H locs → lv_has ls 7 [(0, .ref a0), (2, .int q.2.1), (3, .int q.2.2)] → W p l e { frames := 1, cells := 0, slots := 0, locals := 23 } s m args below meth c H locs 0 0 (MQ below (st_Q X (st_A S) (some (.int rr)) SE) args s 0 0 (st_A S)) (F0 m 4 ls [])) ?_ _ _ Hf) _ _ _ hP hS (lv_sub hl [2, 1, 0] rfl)
  intro rec4 hrec4 q Hf H locs ls hP hS hl
  obtain ⟨S4, y2_4, y3_4⟩ := q
  unfold b_X9_worth_4 at Hf
  try dsimp only at Hf
  try dsimp only at hP
  try dsimp only at hl
  try dsimp only
  refine lv_aload_n hx hb dX9_worth_4 rfl (lv_at hl 0 rfl) ?_
  obtain ⟨hk_a0, Hf⟩ := c_g_some Hf
  obtain ⟨q5, hq5, Hf⟩ := c_n_some Hf
  refine fg_10_16 hx hb hts hown hK hP hk_a0 lkf_X9_70 hq5 dX9_worth_5 ?_
  refine lv_iload_n hx hb dX9_worth_8 rfl (lv_at hl 1 rfl) ?_
  obtain ⟨hk_q5, Hf⟩ := c_g_some Hf
  obtain ⟨hi9, Hf⟩ := c_g_some Hf
  refine r_iald hx hb hK hP hk_q5 hi9 dX9_worth_9 ?_
  refine lv_if_eq hx hb dX9_worth_10 (tgt := 245) (by decide) (fun hc => ?_) (fun hc => ?_)
  · have Hf := c_i_t Hf hc
    refine lv_aload_n hx hb dX9_worth_245 rfl (lv_at hl 0 rfl) ?_
    obtain ⟨q246, hq246, Hf⟩ := c_n_some Hf
    refine fg_10_25 hx hb hts hown hK hP hk_a0 lkf_X9_91 hq246 dX9_worth_246 ?_
    refine lv_iconst (v := 0) hx hb dX9_worth_249 (by decide) ?_
    obtain ⟨hk_q246, Hf⟩ := c_g_some Hf
    obtain ⟨hi250, Hf⟩ := c_g_some Hf
    refine r_iald hx hb hK hP hk_q246 hi250 dX9_worth_250 ?_
    cases Hf
    exact r_iret hx hb hr rfl hlocks dX9_worth_251 (Nat.le_of_ble_eq_true rfl) (Nat.le_of_ble_eq_true rfl) hP hS
  have Hf := c_i_f Hf hc
  refine lv_aload_n hx hb dX9_worth_13 rfl (lv_at hl 0 rfl) ?_
  refine fg_10_16 hx hb hts hown hK hP hk_a0 lkf_X9_70 hq5 dX9_worth_14 ?_
  refine lv_iload_n hx hb dX9_worth_17 rfl (lv_at hl 1 rfl) ?_
  obtain ⟨hi18, Hf⟩ := c_g_some Hf
  refine r_iald hx hb hK hP hk_q5 hi18 dX9_worth_18 ?_
  refine lv_topi (fun z4_19 ez4_19 => ?_)
  have Hf := c_l_ren Hf ez4_19
  refine lv_istore (lv' := [(4, .int z4_19), (0, .ref a0), (2, .int y2_4), (3, .int y3_4)]) hx hb dX9_worth_19 hl (by decide) rfl (fun ls hl => ?_)
  refine lv_iload hx hb dX9_worth_21 (lv_at hl 0 rfl) ?_
  refine lv_iconst (v := 1) hx hb dX9_worth_23 (by decide) ?_
  have hJ239 : ∀ (S239 : st_T) (y3_239 : Int32), j_X9_worth_239 rec4 y2_4 S239 y3_239 = some (rr, SE) → ∀ (H : Heap) (locs : List Loc) (ls : Array Slot), st_HP X (st_A S) S239 H → va_S (st_A S) s.heap H locs → lv_has ls 7 [(0, .ref a0), (2, .int y2_4), (3, .int y3_239)] → W p l e { frames := 1, cells := 0, slots := 0, locals := 23 } s m args below meth c H locs 0 0 (MQ below (st_Q X (st_A S) (some (.int rr)) SE) args s 0 0 (st_A S)) (F0 m 239 ls []) := by
    intro S239 y3_239 Hf H locs ls hP hS hl
    unfold j_X9_worth_239 at Hf
    refine lv_iinc (v := (y2_4 + 1)) (lv' := [(2, .int (y2_4 + 1)), (0, .ref a0), (3, .int y3_239)]) hx hb dX9_worth_239 hl (k := 1) rfl rfl (by decide) rfl (fun ls hl => ?_)
    refine lv_goto hx hb dX9_worth_242 (tgt := 4) (by decide) ?_
    exact hrec4 (S239, (y2_4 + 1), y3_239) Hf _ _ _ hP hS (lv_sub hl [1, 0, 2] rfl)
  have hJ40 : ∀ (S40 : st_T), j_X9_worth_40 a0 rec4 y2_4 y3_4 z4_19 S40 = some (rr, SE) → ∀ (H : Heap) (locs : List Loc) (ls : Array Slot), st_HP X (st_A S) S40 H → va_S (st_A S) s.heap H locs → lv_has ls 7 [(0, .ref a0), (2, .int y2_4), (3, .int y3_4), (4, .int z4_19)] → W p l e { frames := 1, cells := 0, slots := 0, locals := 23 } s m args below meth c H locs 0 0 (MQ below (st_Q X (st_A S) (some (.int rr)) SE) args s 0 0 (st_A S)) (F0 m 40 ls []) := by
    intro S40 Hf H locs ls hP hS hl
    unfold j_X9_worth_40 at Hf
    refine lv_aload_n hx hb dX9_worth_40 rfl (lv_at hl 0 rfl) ?_
    obtain ⟨hk_a0, Hf⟩ := c_g_some Hf
    obtain ⟨q41, hq41, Hf⟩ := c_n_some Hf
    refine fg_10_25 hx hb hts hown hK hP hk_a0 lkf_X9_91 hq41 dX9_worth_41 ?_
    refine lv_iload_n hx hb dX9_worth_44 rfl (lv_at hl 2 rfl) ?_
    refine lv_iload hx hb dX9_worth_45 (lv_at hl 3 rfl) ?_
    refine lv_iconst (v := 1) hx hb dX9_worth_47 (by decide) ?_
    have hJ117 : ∀ (S117 : st_T) (u0_117 : Int32), j_X9_worth_117 rec4 y2_4 y3_4 q41 S117 u0_117 = some (rr, SE) → ∀ (H : Heap) (locs : List Loc) (ls : Array Slot), st_HP X (st_A S) S117 H → va_S (st_A S) s.heap H locs → lv_has ls 7 [(0, .ref a0), (2, .int y2_4), (3, .int y3_4)] → W p l e { frames := 1, cells := 0, slots := 0, locals := 23 } s m args below meth c H locs 0 0 (MQ below (st_Q X (st_A S) (some (.int rr)) SE) args s 0 0 (st_A S)) (F0 m 117 ls [.int u0_117, .int y3_4, .ref q41]) := by
      intro S117 u0_117 Hf H locs ls hP hS hl
      unfold j_X9_worth_117 at Hf
      obtain ⟨hk_q41, Hf⟩ := c_g_some Hf
      obtain ⟨hi117, Hf⟩ := c_g_some Hf
      refine r_iast hx hb hK hP hS hk_q41 hi117 dX9_worth_117 (fun H locs hP hS => ?_)
      obtain ⟨S_117, eS_117, Hf⟩ := c_l_ex Hf
      have hP : st_HP X (st_A S) S_117 H := by rw [eS_117]; exact hP
      refine lv_iinc (v := (y3_4 + 1)) (lv' := [(3, .int (y3_4 + 1)), (0, .ref a0), (2, .int y2_4)]) hx hb dX9_worth_118 hl (k := 2) rfl rfl (by decide) rfl (fun ls hl => ?_)
      refine lv_goto hx hb dX9_worth_121 (tgt := 239) (by decide) ?_
      exact hJ239 S_117 (y3_4 + 1) Hf _ _ _ hP hS (lv_sub hl [1, 2, 0] rfl)
    refine lv_icmp_ne hx hb dX9_worth_48 (tgt := 60) (by decide) (fun hc => ?_) (fun hc => ?_)
    · have Hf := c_i_f Hf hc
      refine lv_iload hx hb dX9_worth_60 (lv_at hl 3 rfl) ?_
      refine lv_iconst (v := 2) hx hb dX9_worth_62 (by decide) ?_
      refine lv_icmp_ne hx hb dX9_worth_63 (tgt := 80) (by decide) (fun hc => ?_) (fun hc => ?_)
      · have Hf := c_i_f Hf hc
        refine lv_aload_n hx hb dX9_worth_80 rfl (lv_at hl 0 rfl) ?_
        refine lv_aload_n hx hb dX9_worth_81 rfl (lv_at hl 0 rfl) ?_
        obtain ⟨q82, hq82, Hf⟩ := c_n_some Hf
        refine fg_10_24 hx hb hts hown hK hP hk_a0 lkf_X9_88 hq82 dX9_worth_82 ?_
        refine lv_aload_n hx hb dX9_worth_85 rfl (lv_at hl 0 rfl) ?_
        obtain ⟨q86, hq86, Hf⟩ := c_n_some Hf
        refine fg_10_17 hx hb hts hown hK hP hk_a0 lkf_X9_73 hq86 dX9_worth_86 ?_
        refine lv_iload_n hx hb dX9_worth_89 rfl (lv_at hl 1 rfl) ?_
        obtain ⟨hk_q86, Hf⟩ := c_g_some Hf
        obtain ⟨hi90, Hf⟩ := c_g_some Hf
        refine r_iald hx hb hK hP hk_q86 hi90 dX9_worth_90 ?_
        refine lv_sipush (v := 256) hx hb dX9_worth_91 (by decide) ?_
        refine lv_idiv hx hb dX9_worth_94 (by decide) ?_
        obtain ⟨hk_q82, Hf⟩ := c_g_some Hf
        obtain ⟨hi95, Hf⟩ := c_g_some Hf
        refine r_iald hx hb hK hP hk_q82 hi95 dX9_worth_95 ?_
        refine lv_aload_n hx hb dX9_worth_96 rfl (lv_at hl 0 rfl) ?_
        refine fg_10_17 hx hb hts hown hK hP hk_a0 lkf_X9_73 hq86 dX9_worth_97 ?_
        refine lv_iload_n hx hb dX9_worth_100 rfl (lv_at hl 1 rfl) ?_
        obtain ⟨hi101, Hf⟩ := c_g_some Hf
        refine r_iald hx hb hK hP hk_q86 hi101 dX9_worth_101 ?_
        refine lv_sipush (v := 256) hx hb dX9_worth_102 (by decide) ?_
        refine lv_irem hx hb dX9_worth_105 (by decide) ?_
        obtain ⟨r106, T106, hq106, Hf⟩ := c_c_some Hf
        refine r_cV (n := 2) (As := [.int (st_ri S40 q82 (((st_ri S40 q86 (y2_4 : Int32).toNatClampNeg) / 256) : Int32).toNatClampNeg), .int ((st_ri S40 q86 (y2_4 : Int32).toNatClampNeg) - (st_ri S40 q86 (y2_4 : Int32).toNatClampNeg) / 256 * 256)]) (rest := [.int y3_4, .ref q41]) ⟨hx, hb, hml, hown, hts⟩ (s_X9_isUnder l X hq106) lkm_X9_232 (by decide +kernel) rfl (by decide) dX9_worth_106 rfl rfl ⟨Nat.le_of_ble_eq_true rfl, Nat.le_of_ble_eq_true rfl⟩ hk_a0 rfl hl.1 (Nat.le_of_ble_eq_true rfl) ⟨Nat.le_of_ble_eq_true rfl, Nat.le_of_ble_eq_true rfl⟩ hK hRO hA hP hS (fun H locs hP hS => ?_)
        refine W.eq (g2 := F0 m 109 ls [.int r106, .int y3_4, .ref q41]) rfl ?_
        refine lv_if_eq hx hb dX9_worth_109 (tgt := 116) (by decide) (fun hc => ?_) (fun hc => ?_)
        · have Hf := c_i_t Hf hc
          refine lv_iconst (v := 0) hx hb dX9_worth_116 (by decide) ?_
          exact hJ117 T106 0 Hf _ _ _ hP hS (lv_sub hl [0, 1, 2] rfl)
        have Hf := c_i_f Hf hc
        refine lv_iconst (v := 1) hx hb dX9_worth_112 (by decide) ?_
        refine lv_goto hx hb dX9_worth_113 (tgt := 117) (by decide) ?_
        exact hJ117 T106 1 Hf _ _ _ hP hS (lv_sub hl [0, 1, 2] rfl)
      have Hf := c_i_t Hf hc
      refine lv_aload_n hx hb dX9_worth_66 rfl (lv_at hl 0 rfl) ?_
      obtain ⟨q67, hq67, Hf⟩ := c_n_some Hf
      refine fg_10_23 hx hb hts hown hK hP hk_a0 lkf_X9_85 hq67 dX9_worth_67 ?_
      refine lv_aload_n hx hb dX9_worth_70 rfl (lv_at hl 0 rfl) ?_
      obtain ⟨q71, hq71, Hf⟩ := c_n_some Hf
      refine fg_10_17 hx hb hts hown hK hP hk_a0 lkf_X9_73 hq71 dX9_worth_71 ?_
      refine lv_iload_n hx hb dX9_worth_74 rfl (lv_at hl 1 rfl) ?_
      obtain ⟨hk_q71, Hf⟩ := c_g_some Hf
      obtain ⟨hi75, Hf⟩ := c_g_some Hf
      refine r_iald hx hb hK hP hk_q71 hi75 dX9_worth_75 ?_
      obtain ⟨hk_q67, Hf⟩ := c_g_some Hf
      obtain ⟨hi76, Hf⟩ := c_g_some Hf
      refine r_iald hx hb hK hP hk_q67 hi76 dX9_worth_76 ?_
      refine lv_goto hx hb dX9_worth_77 (tgt := 117) (by decide) ?_
      exact hJ117 S40 (st_ri S40 q67 ((st_ri S40 q71 (y2_4 : Int32).toNatClampNeg) : Int32).toNatClampNeg) Hf _ _ _ hP hS (lv_sub hl [0, 1, 2] rfl)
    have Hf := c_i_t Hf hc
    refine lv_aload_n hx hb dX9_worth_51 rfl (lv_at hl 0 rfl) ?_
    obtain ⟨q52, hq52, Hf⟩ := c_n_some Hf
    refine fg_10_17 hx hb hts hown hK hP hk_a0 lkf_X9_73 hq52 dX9_worth_52 ?_
    refine lv_iload_n hx hb dX9_worth_55 rfl (lv_at hl 1 rfl) ?_
    obtain ⟨hk_q52, Hf⟩ := c_g_some Hf
    obtain ⟨hi56, Hf⟩ := c_g_some Hf
    refine r_iald hx hb hK hP hk_q52 hi56 dX9_worth_56 ?_
    refine lv_goto hx hb dX9_worth_57 (tgt := 117) (by decide) ?_
    exact hJ117 S40 (st_ri S40 q52 (y2_4 : Int32).toNatClampNeg) Hf _ _ _ hP hS (lv_sub hl [0, 1, 2] rfl)
  refine lv_icmp_eq hx hb dX9_worth_24 (tgt := 40) (by decide) (fun hc => ?_) (fun hc => ?_)
  · have Hf := c_i_t Hf hc
    exact hJ40 S4 Hf _ _ _ hP hS (lv_sub hl [1, 2, 3, 0] rfl)
  have Hf := c_i_f Hf hc
  refine lv_iload hx hb dX9_worth_27 (lv_at hl 0 rfl) ?_
  refine lv_iconst (v := 2) hx hb dX9_worth_29 (by decide) ?_
  refine lv_icmp_eq hx hb dX9_worth_30 (tgt := 40) (by decide) (fun hc => ?_) (fun hc => ?_)
  · have Hf := c_i_t Hf hc
    exact hJ40 S4 Hf _ _ _ hP hS (lv_sub hl [1, 2, 3, 0] rfl)
  have Hf := c_i_f Hf hc
  refine lv_iload hx hb dX9_worth_33 (lv_at hl 0 rfl) ?_
  refine lv_bipush (v := 8) hx hb dX9_worth_35 (by decide) ?_
  refine lv_icmp_ne hx hb dX9_worth_37 (tgt := 124) (by decide) (fun hc => ?_) (fun hc => ?_)
  · have Hf := c_i_f Hf hc
    refine lv_iinc (v := (y3_4 + (-1))) (lv' := [(3, .int (y3_4 + (-1))), (4, .int z4_19), (0, .ref a0), (2, .int y2_4)]) hx hb dX9_worth_124 hl (k := 3) rfl rfl (by decide) rfl (fun ls hl => ?_)
    refine lv_aload_n hx hb dX9_worth_127 rfl (lv_at hl 2 rfl) ?_
    obtain ⟨q128, hq128, Hf⟩ := c_n_some Hf
    refine fg_10_25 hx hb hts hown hK hP hk_a0 lkf_X9_91 hq128 dX9_worth_128 ?_
    refine lv_iload_n hx hb dX9_worth_131 rfl (lv_at hl 0 rfl) ?_
    obtain ⟨hk_q128, Hf⟩ := c_g_some Hf
    obtain ⟨hi132, Hf⟩ := c_g_some Hf
    refine r_iald hx hb hK hP hk_q128 hi132 dX9_worth_132 ?_
    refine lv_topi (fun z5_133 ez5_133 => ?_)
    have Hf := c_l_ren Hf ez5_133
    refine lv_istore (lv' := [(5, .int z5_133), (3, .int (y3_4 + (-1))), (4, .int z4_19), (0, .ref a0), (2, .int y2_4)]) hx hb dX9_worth_133 hl (by decide) rfl (fun ls hl => ?_)
    refine lv_aload_n hx hb dX9_worth_135 rfl (lv_at hl 3 rfl) ?_
    refine fg_10_25 hx hb hts hown hK hP hk_a0 lkf_X9_91 hq128 dX9_worth_136 ?_
    refine lv_iload_n hx hb dX9_worth_139 rfl (lv_at hl 1 rfl) ?_
    refine lv_iconst (v := 1) hx hb dX9_worth_140 (by decide) ?_
    refine lv_isub hx hb dX9_worth_141 ?_
    obtain ⟨hi142, Hf⟩ := c_g_some Hf
    refine r_iald hx hb hK hP hk_q128 hi142 dX9_worth_142 ?_
    refine lv_topi (fun z6_143 ez6_143 => ?_)
    have Hf := c_l_ren Hf ez6_143
    refine lv_istore (lv' := [(6, .int z6_143), (5, .int z5_133), (3, .int (y3_4 + (-1))), (4, .int z4_19), (0, .ref a0), (2, .int y2_4)]) hx hb dX9_worth_143 hl (by decide) rfl (fun ls hl => ?_)
    refine lv_aload_n hx hb dX9_worth_145 rfl (lv_at hl 4 rfl) ?_
    refine fg_10_25 hx hb hts hown hK hP hk_a0 lkf_X9_91 hq128 dX9_worth_146 ?_
    refine lv_iload_n hx hb dX9_worth_149 rfl (lv_at hl 2 rfl) ?_
    refine lv_iconst (v := 1) hx hb dX9_worth_150 (by decide) ?_
    refine lv_isub hx hb dX9_worth_151 ?_
    refine lv_iload hx hb dX9_worth_152 (lv_at hl 3 rfl) ?_
    refine lv_iconst (v := 3) hx hb dX9_worth_154 (by decide) ?_
    have hJ238 : ∀ (S238 : st_T) (u0_238 : Int32), j_X9_worth_238 rec4 y2_4 y3_4 q128 S238 u0_238 = some (rr, SE) → ∀ (H : Heap) (locs : List Loc) (ls : Array Slot), st_HP X (st_A S) S238 H → va_S (st_A S) s.heap H locs → lv_has ls 7 [(0, .ref a0), (2, .int y2_4), (3, .int (y3_4 + (-1)))] → W p l e { frames := 1, cells := 0, slots := 0, locals := 23 } s m args below meth c H locs 0 0 (MQ below (st_Q X (st_A S) (some (.int rr)) SE) args s 0 0 (st_A S)) (F0 m 238 ls [.int u0_238, .int ((y3_4 + (-1)) - 1), .ref q128]) := by
      intro S238 u0_238 Hf H locs ls hP hS hl
      unfold j_X9_worth_238 at Hf
      obtain ⟨hk_q128, Hf⟩ := c_g_some Hf
      obtain ⟨hi238, Hf⟩ := c_g_some Hf
      refine r_iast hx hb hK hP hS hk_q128 hi238 dX9_worth_238 (fun H locs hP hS => ?_)
      obtain ⟨S_238, eS_238, Hf⟩ := c_l_ex Hf
      have hP : st_HP X (st_A S) S_238 H := by rw [eS_238]; exact hP
      exact hJ239 S_238 (y3_4 + (-1)) Hf _ _ _ hP hS (lv_sub hl [0, 1, 2] rfl)
    refine lv_icmp_ne hx hb dX9_worth_155 (tgt := 166) (by decide) (fun hc => ?_) (fun hc => ?_)
    · have Hf := c_i_f Hf hc
      refine lv_iload hx hb dX9_worth_166 (lv_at hl 3 rfl) ?_
      refine lv_iconst (v := 4) hx hb dX9_worth_168 (by decide) ?_
      refine lv_icmp_ne hx hb dX9_worth_169 (tgt := 180) (by decide) (fun hc => ?_) (fun hc => ?_)
      · have Hf := c_i_f Hf hc
        refine lv_iload hx hb dX9_worth_180 (lv_at hl 3 rfl) ?_
        refine lv_iconst (v := 5) hx hb dX9_worth_182 (by decide) ?_
        refine lv_icmp_ne hx hb dX9_worth_183 (tgt := 201) (by decide) (fun hc => ?_) (fun hc => ?_)
        · have Hf := c_i_f Hf hc
          refine lv_iload hx hb dX9_worth_201 (lv_at hl 3 rfl) ?_
          refine lv_bipush (v := 6) hx hb dX9_worth_203 (by decide) ?_
          refine lv_icmp_ne hx hb dX9_worth_205 (tgt := 223) (by decide) (fun hc => ?_) (fun hc => ?_)
          · have Hf := c_i_f Hf hc
            refine lv_iload hx hb dX9_worth_223 (lv_at hl 0 rfl) ?_
            have hJ237 : ∀ (S237 : st_T), j_X9_worth_237 rec4 y2_4 y3_4 q128 S237 = some (rr, SE) → ∀ (H : Heap) (locs : List Loc) (ls : Array Slot), st_HP X (st_A S) S237 H → va_S (st_A S) s.heap H locs → lv_has ls 7 [(0, .ref a0), (2, .int y2_4), (3, .int (y3_4 + (-1)))] → W p l e { frames := 1, cells := 0, slots := 0, locals := 23 } s m args below meth c H locs 0 0 (MQ below (st_Q X (st_A S) (some (.int rr)) SE) args s 0 0 (st_A S)) (F0 m 237 ls [.int ((y3_4 + (-1)) - 1), .ref q128]) := by
              intro S237 Hf H locs ls hP hS hl
              unfold j_X9_worth_237 at Hf
              refine lv_iconst (v := 0) hx hb dX9_worth_237 (by decide) ?_
              exact hJ238 S237 0 Hf _ _ _ hP hS (lv_sub hl [0, 1, 2] rfl)
            refine lv_if_eq hx hb dX9_worth_225 (tgt := 237) (by decide) (fun hc => ?_) (fun hc => ?_)
            · have Hf := c_i_t Hf hc
              exact hJ237 S4 Hf _ _ _ hP hS (lv_sub hl [4, 5, 2] rfl)
            have Hf := c_i_f Hf hc
            refine lv_iload hx hb dX9_worth_228 (lv_at hl 1 rfl) ?_
            refine lv_if_eq hx hb dX9_worth_230 (tgt := 237) (by decide) (fun hc => ?_) (fun hc => ?_)
            · have Hf := c_i_t Hf hc
              exact hJ237 S4 Hf _ _ _ hP hS (lv_sub hl [4, 5, 2] rfl)
            have Hf := c_i_f Hf hc
            refine lv_iconst (v := 1) hx hb dX9_worth_233 (by decide) ?_
            refine lv_goto hx hb dX9_worth_234 (tgt := 238) (by decide) ?_
            exact hJ238 S4 1 Hf _ _ _ hP hS (lv_sub hl [4, 5, 2] rfl)
          have Hf := c_i_t Hf hc
          refine lv_iload hx hb dX9_worth_208 (lv_at hl 0 rfl) ?_
          refine lv_iload hx hb dX9_worth_210 (lv_at hl 1 rfl) ?_
          refine lv_icmp_ne hx hb dX9_worth_212 (tgt := 219) (by decide) (fun hc => ?_) (fun hc => ?_)
          · have Hf := c_i_f Hf hc
            refine lv_iconst (v := 0) hx hb dX9_worth_219 (by decide) ?_
            refine lv_goto hx hb dX9_worth_220 (tgt := 238) (by decide) ?_
            exact hJ238 S4 0 Hf _ _ _ hP hS (lv_sub hl [4, 5, 2] rfl)
          have Hf := c_i_t Hf hc
          refine lv_iconst (v := 1) hx hb dX9_worth_215 (by decide) ?_
          refine lv_goto hx hb dX9_worth_216 (tgt := 238) (by decide) ?_
          exact hJ238 S4 1 Hf _ _ _ hP hS (lv_sub hl [4, 5, 2] rfl)
        have Hf := c_i_t Hf hc
        refine lv_iload hx hb dX9_worth_186 (lv_at hl 0 rfl) ?_
        refine lv_iload hx hb dX9_worth_188 (lv_at hl 1 rfl) ?_
        refine lv_icmp_ge hx hb dX9_worth_190 (tgt := 197) (by decide) (fun hc => ?_) (fun hc => ?_)
        · have Hf := c_i_t Hf hc
          refine lv_iconst (v := 0) hx hb dX9_worth_197 (by decide) ?_
          refine lv_goto hx hb dX9_worth_198 (tgt := 238) (by decide) ?_
          exact hJ238 S4 0 Hf _ _ _ hP hS (lv_sub hl [4, 5, 2] rfl)
        have Hf := c_i_f Hf hc
        refine lv_iconst (v := 1) hx hb dX9_worth_193 (by decide) ?_
        refine lv_goto hx hb dX9_worth_194 (tgt := 238) (by decide) ?_
        exact hJ238 S4 1 Hf _ _ _ hP hS (lv_sub hl [4, 5, 2] rfl)
      have Hf := c_i_t Hf hc
      refine lv_iload hx hb dX9_worth_172 (lv_at hl 0 rfl) ?_
      refine lv_iload hx hb dX9_worth_174 (lv_at hl 1 rfl) ?_
      refine lv_isub hx hb dX9_worth_176 ?_
      refine lv_goto hx hb dX9_worth_177 (tgt := 238) (by decide) ?_
      exact hJ238 S4 (z6_143 - z5_133) Hf _ _ _ hP hS (lv_sub hl [4, 5, 2] rfl)
    have Hf := c_i_t Hf hc
    refine lv_iload hx hb dX9_worth_158 (lv_at hl 0 rfl) ?_
    refine lv_iload hx hb dX9_worth_160 (lv_at hl 1 rfl) ?_
    refine lv_iadd hx hb dX9_worth_162 ?_
    refine lv_goto hx hb dX9_worth_163 (tgt := 238) (by decide) ?_
    exact hJ238 S4 (z6_143 + z5_133) Hf _ _ _ hP hS (lv_sub hl [4, 5, 2] rfl)
  have Hf := c_i_t Hf hc
  exact hJ40 S4 Hf _ _ _ hP hS (lv_sub hl [1, 2, 3, 0] rfl)

def f_X9_choose (S : st_T) (a0 : Nat) (x1 : Int32) : Option (Int32 × st_T) :=
  (c_g (st_K S a0 = 11) (c_l (st_pi S 1000 a0 0) (fun (S_2 : st_T) => (c_i (x1 < (-1)) (some (0, S_2)) (c_i (x1 < (st_fi S_2 1010 a0)) (c_l (st_pi S_2 1011 a0 x1) (fun (S_22 : st_T) => (some (1, S_22)))) (some (0, S_2)))))))
set_option maxRecDepth 100000 in
set_option maxHeartbeats 4000000 in
theorem s_X9_choose (l : Launch) (X : st_I) {S SE : st_T} {a0 : Nat} {x1 : Int32} {rr : Int32} (Hf : f_X9_choose S a0 x1 = some (rr, SE)) : Met l yX9_choose (Cond.code yX9_choose cX9_choose 2 (some .boolean) :: lw_g) { frames := 0, cells := 0, slots := 0, locals := 0 } (st_P X S [.ref a0, .int x1]) (st_Q X (st_A S) (some (.int rr)) SE) 0 0 (st_A S) := by
  refine st_ofW (by decide) (Nat.le_of_ble_eq_true rfl) ?_
  intro p e s m args below meth c hx hb hr hml hlocks hnm hts hown hK hRO hA hP hS ls hl
  have hown : s.vm.findClass RX9 = some m.cls := hown
  have hl : lv_has ls 2 [(0, .ref a0), (1, .int x1)] := hl
  unfold f_X9_choose at Hf
  refine lv_aload_n hx hb dX9_choose_0 rfl (lv_at hl 0 rfl) ?_
  refine lv_iconst (v := 0) hx hb dX9_choose_1 (by decide) ?_
  obtain ⟨hk_a0, Hf⟩ := c_g_some Hf
  refine fp_10_0 hx hb hts hown hK hP hS hk_a0 lkf_X9_131 dX9_choose_2 (fun H locs hP hS => ?_)
  obtain ⟨S_2, eS_2, Hf⟩ := c_l_ex Hf
  have hP : st_HP X (st_A S) S_2 H := by rw [eS_2]; exact hP
  refine lv_iload_n hx hb dX9_choose_5 rfl (lv_at hl 1 rfl) ?_
  refine lv_iconst (v := (-1)) hx hb dX9_choose_6 (by decide) ?_
  refine lv_icmp_lt hx hb dX9_choose_7 (tgt := 18) (by decide) (fun hc => ?_) (fun hc => ?_)
  · have Hf := c_i_t Hf hc
    refine lv_iconst (v := 0) hx hb dX9_choose_18 (by decide) ?_
    cases Hf
    exact r_zret hx hb hr rfl (Or.inl rfl) hlocks dX9_choose_19 (Nat.le_of_ble_eq_true rfl) (Nat.le_of_ble_eq_true rfl) hP hS
  have Hf := c_i_f Hf hc
  refine lv_iload_n hx hb dX9_choose_10 rfl (lv_at hl 1 rfl) ?_
  refine lv_aload_n hx hb dX9_choose_11 rfl (lv_at hl 0 rfl) ?_
  have hk_a0 : st_K S_2 a0 = 11 := by rw [kp_pi eS_2]; exact hk_a0
  refine fg_10_10 hx hb hts hown hK hP hk_a0 lkf_X9_186 dX9_choose_12 ?_
  refine lv_icmp_lt hx hb dX9_choose_15 (tgt := 20) (by decide) (fun hc => ?_) (fun hc => ?_)
  · have Hf := c_i_t Hf hc
    refine lv_aload_n hx hb dX9_choose_20 rfl (lv_at hl 0 rfl) ?_
    refine lv_iload_n hx hb dX9_choose_21 rfl (lv_at hl 1 rfl) ?_
    refine fp_10_11 hx hb hts hown hK hP hS hk_a0 lkf_X9_54 dX9_choose_22 (fun H locs hP hS => ?_)
    obtain ⟨S_22, eS_22, Hf⟩ := c_l_ex Hf
    have hP : st_HP X (st_A S) S_22 H := by rw [eS_22]; exact hP
    refine lv_iconst (v := 1) hx hb dX9_choose_25 (by decide) ?_
    cases Hf
    exact r_zret hx hb hr rfl (Or.inr rfl) hlocks dX9_choose_26 (Nat.le_of_ble_eq_true rfl) (Nat.le_of_ble_eq_true rfl) hP hS
  have Hf := c_i_f Hf hc
  refine lv_iconst (v := 0) hx hb dX9_choose_18 (by decide) ?_
  cases Hf
  exact r_zret hx hb hr rfl (Or.inl rfl) hlocks dX9_choose_19 (Nat.le_of_ble_eq_true rfl) (Nat.le_of_ble_eq_true rfl) hP hS

def f_X9_below (S : st_T) (a0 : Nat) (x1 : Int32) (x2 : Int32) : Option (Int32 × st_T) :=
  (c_g (st_K S a0 = 11) (c_l (st_pi S 1000 a0 0) (fun (S_2 : st_T) => (c_i (x1 < 1) (some (0, S_2)) (c_i (200 < x1) (some (0, S_2)) (c_i (x2 < 1) (some (0, S_2)) (c_i (x2 < x1) (c_n (st_fr S_2 1026 a0) (fun (q30 : Nat) => (c_g (st_K S_2 q30 = 20) (c_g (c_in x1 (st_ln S_2 q30)) (c_l (st_wi S_2 q30 (x1 : Int32).toNatClampNeg x2) (fun (S_35 : st_T) => (some (1, S_35)))))))) (some (0, S_2)))))))))
set_option maxRecDepth 100000 in
set_option maxHeartbeats 4000000 in
theorem s_X9_below (l : Launch) (X : st_I) {S SE : st_T} {a0 : Nat} {x1 : Int32} {x2 : Int32} {rr : Int32} (Hf : f_X9_below S a0 x1 x2 = some (rr, SE)) : Met l yX9_below (Cond.code yX9_below cX9_below 3 (some .boolean) :: lw_g) { frames := 0, cells := 0, slots := 0, locals := 0 } (st_P X S [.ref a0, .int x1, .int x2]) (st_Q X (st_A S) (some (.int rr)) SE) 0 0 (st_A S) := by
  refine st_ofW (by decide) (Nat.le_of_ble_eq_true rfl) ?_
  intro p e s m args below meth c hx hb hr hml hlocks hnm hts hown hK hRO hA hP hS ls hl
  have hown : s.vm.findClass RX9 = some m.cls := hown
  have hl : lv_has ls 3 [(0, .ref a0), (1, .int x1), (2, .int x2)] := hl
  unfold f_X9_below at Hf
  refine lv_aload_n hx hb dX9_below_0 rfl (lv_at hl 0 rfl) ?_
  refine lv_iconst (v := 0) hx hb dX9_below_1 (by decide) ?_
  obtain ⟨hk_a0, Hf⟩ := c_g_some Hf
  refine fp_10_0 hx hb hts hown hK hP hS hk_a0 lkf_X9_131 dX9_below_2 (fun H locs hP hS => ?_)
  obtain ⟨S_2, eS_2, Hf⟩ := c_l_ex Hf
  have hP : st_HP X (st_A S) S_2 H := by rw [eS_2]; exact hP
  refine lv_iload_n hx hb dX9_below_5 rfl (lv_at hl 1 rfl) ?_
  refine lv_iconst (v := 1) hx hb dX9_below_6 (by decide) ?_
  refine lv_icmp_lt hx hb dX9_below_7 (tgt := 27) (by decide) (fun hc => ?_) (fun hc => ?_)
  · have Hf := c_i_t Hf hc
    refine lv_iconst (v := 0) hx hb dX9_below_27 (by decide) ?_
    cases Hf
    exact r_zret hx hb hr rfl (Or.inl rfl) hlocks dX9_below_28 (Nat.le_of_ble_eq_true rfl) (Nat.le_of_ble_eq_true rfl) hP hS
  have Hf := c_i_f Hf hc
  refine lv_iload_n hx hb dX9_below_10 rfl (lv_at hl 1 rfl) ?_
  refine lv_sipush (v := 200) hx hb dX9_below_11 (by decide) ?_
  refine lv_icmp_gt hx hb dX9_below_14 (tgt := 27) (by decide) (fun hc => ?_) (fun hc => ?_)
  · have Hf := c_i_t Hf hc
    refine lv_iconst (v := 0) hx hb dX9_below_27 (by decide) ?_
    cases Hf
    exact r_zret hx hb hr rfl (Or.inl rfl) hlocks dX9_below_28 (Nat.le_of_ble_eq_true rfl) (Nat.le_of_ble_eq_true rfl) hP hS
  have Hf := c_i_f Hf hc
  refine lv_iload_n hx hb dX9_below_17 rfl (lv_at hl 2 rfl) ?_
  refine lv_iconst (v := 1) hx hb dX9_below_18 (by decide) ?_
  refine lv_icmp_lt hx hb dX9_below_19 (tgt := 27) (by decide) (fun hc => ?_) (fun hc => ?_)
  · have Hf := c_i_t Hf hc
    refine lv_iconst (v := 0) hx hb dX9_below_27 (by decide) ?_
    cases Hf
    exact r_zret hx hb hr rfl (Or.inl rfl) hlocks dX9_below_28 (Nat.le_of_ble_eq_true rfl) (Nat.le_of_ble_eq_true rfl) hP hS
  have Hf := c_i_f Hf hc
  refine lv_iload_n hx hb dX9_below_22 rfl (lv_at hl 2 rfl) ?_
  refine lv_iload_n hx hb dX9_below_23 rfl (lv_at hl 1 rfl) ?_
  refine lv_icmp_lt hx hb dX9_below_24 (tgt := 29) (by decide) (fun hc => ?_) (fun hc => ?_)
  · have Hf := c_i_t Hf hc
    refine lv_aload_n hx hb dX9_below_29 rfl (lv_at hl 0 rfl) ?_
    have hk_a0 : st_K S_2 a0 = 11 := by rw [kp_pi eS_2]; exact hk_a0
    obtain ⟨q30, hq30, Hf⟩ := c_n_some Hf
    refine fg_10_26 hx hb hts hown hK hP hk_a0 lkf_X9_94 hq30 dX9_below_30 ?_
    refine lv_iload_n hx hb dX9_below_33 rfl (lv_at hl 1 rfl) ?_
    refine lv_iload_n hx hb dX9_below_34 rfl (lv_at hl 2 rfl) ?_
    obtain ⟨hk_q30, Hf⟩ := c_g_some Hf
    obtain ⟨hi35, Hf⟩ := c_g_some Hf
    refine r_iast hx hb hK hP hS hk_q30 hi35 dX9_below_35 (fun H locs hP hS => ?_)
    obtain ⟨S_35, eS_35, Hf⟩ := c_l_ex Hf
    have hP : st_HP X (st_A S) S_35 H := by rw [eS_35]; exact hP
    refine lv_iconst (v := 1) hx hb dX9_below_36 (by decide) ?_
    cases Hf
    exact r_zret hx hb hr rfl (Or.inr rfl) hlocks dX9_below_37 (Nat.le_of_ble_eq_true rfl) (Nat.le_of_ble_eq_true rfl) hP hS
  have Hf := c_i_f Hf hc
  refine lv_iconst (v := 0) hx hb dX9_below_27 (by decide) ?_
  cases Hf
  exact r_zret hx hb hr rfl (Or.inl rfl) hlocks dX9_below_28 (Nat.le_of_ble_eq_true rfl) (Nat.le_of_ble_eq_true rfl) hP hS

def f_X9_isDiary (S : st_T) (a0 : Nat) (x1 : Int32) : Option (Int32 × st_T) :=
  (c_i (x1 < 0) (some (0, S)) (c_g (st_K S a0 = 11) (c_i ((st_fi S 1027 a0) ≤ x1) (some (0, S)) (some (1, S)))))
set_option maxRecDepth 100000 in
set_option maxHeartbeats 4000000 in
theorem s_X9_isDiary (l : Launch) (X : st_I) {S SE : st_T} {a0 : Nat} {x1 : Int32} {rr : Int32} (Hf : f_X9_isDiary S a0 x1 = some (rr, SE)) : Met l yX9_isDiary (Cond.code yX9_isDiary cX9_isDiary 2 (some .boolean) :: lw_g) { frames := 0, cells := 0, slots := 0, locals := 0 } (st_P X S [.ref a0, .int x1]) (st_Q X (st_A S) (some (.int rr)) SE) 0 0 (st_A S) := by
  refine st_ofW (by decide) (Nat.le_of_ble_eq_true rfl) ?_
  intro p e s m args below meth c hx hb hr hml hlocks hnm hts hown hK hRO hA hP hS ls hl
  have hown : s.vm.findClass RX9 = some m.cls := hown
  have hl : lv_has ls 2 [(0, .ref a0), (1, .int x1)] := hl
  unfold f_X9_isDiary at Hf
  refine lv_iload_n hx hb dX9_isDiary_0 rfl (lv_at hl 1 rfl) ?_
  refine lv_if_lt hx hb dX9_isDiary_1 (tgt := 16) (by decide) (fun hc => ?_) (fun hc => ?_)
  · have Hf := c_i_t Hf hc
    refine lv_iconst (v := 0) hx hb dX9_isDiary_16 (by decide) ?_
    cases Hf
    exact r_zret hx hb hr rfl (Or.inl rfl) hlocks dX9_isDiary_17 (Nat.le_of_ble_eq_true rfl) (Nat.le_of_ble_eq_true rfl) hP hS
  have Hf := c_i_f Hf hc
  refine lv_iload_n hx hb dX9_isDiary_4 rfl (lv_at hl 1 rfl) ?_
  refine lv_aload_n hx hb dX9_isDiary_5 rfl (lv_at hl 0 rfl) ?_
  obtain ⟨hk_a0, Hf⟩ := c_g_some Hf
  refine fg_10_27 hx hb hts hown hK hP hk_a0 lkf_X9_236 dX9_isDiary_6 ?_
  refine lv_icmp_ge hx hb dX9_isDiary_9 (tgt := 16) (by decide) (fun hc => ?_) (fun hc => ?_)
  · have Hf := c_i_t Hf hc
    refine lv_iconst (v := 0) hx hb dX9_isDiary_16 (by decide) ?_
    cases Hf
    exact r_zret hx hb hr rfl (Or.inl rfl) hlocks dX9_isDiary_17 (Nat.le_of_ble_eq_true rfl) (Nat.le_of_ble_eq_true rfl) hP hS
  have Hf := c_i_f Hf hc
  refine lv_iconst (v := 1) hx hb dX9_isDiary_12 (by decide) ?_
  refine lv_goto hx hb dX9_isDiary_13 (tgt := 17) (by decide) ?_
  cases Hf
  exact r_zret hx hb hr rfl (Or.inr rfl) hlocks dX9_isDiary_17 (Nat.le_of_ble_eq_true rfl) (Nat.le_of_ble_eq_true rfl) hP hS

def j_X9_diaryOf_55 (rec6 : st_T × Int32 × Int32 → Option (Int32 × st_T)) (y5_6 : Int32) (S55 : st_T) (u0_55 : Int32) : Option (Int32 × st_T) :=
  (rec6 (S55, u0_55, (y5_6 + 1)))
def j_X9_diaryOf_53 (rec6 : st_T × Int32 × Int32 → Option (Int32 × st_T)) (y4_6 : Int32) (y5_6 : Int32) (S53 : st_T) : Option (Int32 × st_T) :=
  (j_X9_diaryOf_55 rec6 y5_6 S53 y4_6)
def b_X9_diaryOf_6 (a0 : Nat) (x1 : Int32) (x2 : Int32) (x3 : Int32) (rec6 : st_T × Int32 × Int32 → Option (Int32 × st_T)) (q : st_T × Int32 × Int32) : Option (Int32 × st_T) :=
  (fun (S6 : st_T) (y4_6 : Int32) (y5_6 : Int32) =>
  (c_g (st_K S6 a0 = 11) (c_i ((st_fi S6 1027 a0) ≤ y5_6) (some (y4_6, S6)) (c_n (st_fr S6 1028 a0) (fun (q16 : Nat) => (c_g (st_K S6 q16 = 20) (c_g (c_in y5_6 (st_ln S6 q16)) (c_i ((st_ri S6 q16 (y5_6 : Int32).toNatClampNeg) = x1) (c_n (st_fr S6 1029 a0) (fun (q27 : Nat) => (c_g (st_K S6 q27 = 20) (c_g (c_in y5_6 (st_ln S6 q27)) (c_i ((st_ri S6 q27 (y5_6 : Int32).toNatClampNeg) = x2) (c_n (st_fr S6 1030 a0) (fun (q38 : Nat) => (c_g (st_K S6 q38 = 20) (c_g (c_in y5_6 (st_ln S6 q38)) (c_i ((st_ri S6 q38 (y5_6 : Int32).toNatClampNeg) = x3) (j_X9_diaryOf_55 rec6 y5_6 S6 y5_6) (j_X9_diaryOf_53 rec6 y4_6 y5_6 S6)))))) (j_X9_diaryOf_53 rec6 y4_6 y5_6 S6)))))) (j_X9_diaryOf_53 rec6 y4_6 y5_6 S6))))))))) q.1 q.2.1 q.2.2
def f_X9_diaryOf (S : st_T) (a0 : Nat) (x1 : Int32) (x2 : Int32) (x3 : Int32) : Option (Int32 × st_T) :=
  (c_w (b_X9_diaryOf_6 a0 x1 x2 x3) c_N (S, (-1), 0))
set_option maxRecDepth 100000 in
set_option maxHeartbeats 4000000 in
theorem s_X9_diaryOf (l : Launch) (X : st_I) {S SE : st_T} {a0 : Nat} {x1 : Int32} {x2 : Int32} {x3 : Int32} {rr : Int32} (Hf : f_X9_diaryOf S a0 x1 x2 x3 = some (rr, SE)) : Met l yX9_diaryOf (Cond.code yX9_diaryOf cX9_diaryOf 6 (some .int) :: lw_g) { frames := 0, cells := 0, slots := 0, locals := 0 } (st_P X S [.ref a0, .int x1, .int x2, .int x3]) (st_Q X (st_A S) (some (.int rr)) SE) 0 0 (st_A S) := by
  refine st_ofW (by decide) (Nat.le_of_ble_eq_true rfl) ?_
  intro p e s m args below meth c hx hb hr hml hlocks hnm hts hown hK hRO hA hP hS ls hl
  have hown : s.vm.findClass RX9 = some m.cls := hown
  have hl : lv_has ls 6 [(0, .ref a0), (1, .int x1), (2, .int x2), (3, .int x3)] := hl
  unfold f_X9_diaryOf at Hf
  refine lv_iconst (v := (-1)) hx hb dX9_diaryOf_0 (by decide) ?_
  refine lv_istore (lv' := [(4, .int (-1)), (0, .ref a0), (1, .int x1), (2, .int x2), (3, .int x3)]) hx hb dX9_diaryOf_1 hl (by decide) rfl (fun ls hl => ?_)
  refine lv_iconst (v := 0) hx hb dX9_diaryOf_3 (by decide) ?_
  refine lv_istore (lv' := [(5, .int 0), (4, .int (-1)), (0, .ref a0), (1, .int x1), (2, .int x2), (3, .int x3)]) hx hb dX9_diaryOf_4 hl (by decide) rfl (fun ls hl => ?_)
  refine (c_w_ind (P := fun (q : st_T × Int32 × Int32) => ∀ (H : Heap) (locs : List Loc) (ls : Array Slot), st_HP X (st_A S) q.1 H → va_S (st_A S) s.heap H locs → lv_has ls 6 [(0, .ref a0), (1, .int x1), (2, .int x2), (3, .int x3), (4, .int q.2.1), (5, .int q.2.2)] → W p l e { frames := 0, cells := 0, slots := 0, locals := 0 } s m args below meth c H locs 0 0 (MQ below (st_Q X (st_A S) (some (.int rr)) SE) args s 0 0 (st_A S)) (F0 m 6 ls [])) ?_ _ _ Hf) _ _ _ hP hS (lv_sub hl [2, 3, 4, 5, 1, 0] rfl)
  intro rec6 hrec6 q Hf H locs ls hP hS hl
  obtain ⟨S6, y4_6, y5_6⟩ := q
  unfold b_X9_diaryOf_6 at Hf
  try dsimp only at Hf
  try dsimp only at hP
  try dsimp only at hl
  try dsimp only
  refine lv_iload hx hb dX9_diaryOf_6 (lv_at hl 5 rfl) ?_
  refine lv_aload_n hx hb dX9_diaryOf_8 rfl (lv_at hl 0 rfl) ?_
  obtain ⟨hk_a0, Hf⟩ := c_g_some Hf
  refine fg_10_27 hx hb hts hown hK hP hk_a0 lkf_X9_236 dX9_diaryOf_9 ?_
  refine lv_icmp_ge hx hb dX9_diaryOf_12 (tgt := 63) (by decide) (fun hc => ?_) (fun hc => ?_)
  · have Hf := c_i_t Hf hc
    refine lv_iload hx hb dX9_diaryOf_63 (lv_at hl 4 rfl) ?_
    cases Hf
    exact r_iret hx hb hr rfl hlocks dX9_diaryOf_65 (Nat.le_of_ble_eq_true rfl) (Nat.le_of_ble_eq_true rfl) hP hS
  have Hf := c_i_f Hf hc
  refine lv_aload_n hx hb dX9_diaryOf_15 rfl (lv_at hl 0 rfl) ?_
  obtain ⟨q16, hq16, Hf⟩ := c_n_some Hf
  refine fg_10_28 hx hb hts hown hK hP hk_a0 lkf_X9_97 hq16 dX9_diaryOf_16 ?_
  refine lv_iload hx hb dX9_diaryOf_19 (lv_at hl 5 rfl) ?_
  obtain ⟨hk_q16, Hf⟩ := c_g_some Hf
  obtain ⟨hi21, Hf⟩ := c_g_some Hf
  refine r_iald hx hb hK hP hk_q16 hi21 dX9_diaryOf_21 ?_
  refine lv_iload_n hx hb dX9_diaryOf_22 rfl (lv_at hl 1 rfl) ?_
  have hJ55 : ∀ (S55 : st_T) (u0_55 : Int32), j_X9_diaryOf_55 rec6 y5_6 S55 u0_55 = some (rr, SE) → ∀ (H : Heap) (locs : List Loc) (ls : Array Slot), st_HP X (st_A S) S55 H → va_S (st_A S) s.heap H locs → lv_has ls 6 [(0, .ref a0), (1, .int x1), (2, .int x2), (3, .int x3), (5, .int y5_6)] → W p l e { frames := 0, cells := 0, slots := 0, locals := 0 } s m args below meth c H locs 0 0 (MQ below (st_Q X (st_A S) (some (.int rr)) SE) args s 0 0 (st_A S)) (F0 m 55 ls [.int u0_55]) := by
    intro S55 u0_55 Hf H locs ls hP hS hl
    unfold j_X9_diaryOf_55 at Hf
    refine lv_istore (lv' := [(4, .int u0_55), (0, .ref a0), (1, .int x1), (2, .int x2), (3, .int x3), (5, .int y5_6)]) hx hb dX9_diaryOf_55 hl (by decide) rfl (fun ls hl => ?_)
    refine lv_iinc (v := (y5_6 + 1)) (lv' := [(5, .int (y5_6 + 1)), (4, .int u0_55), (0, .ref a0), (1, .int x1), (2, .int x2), (3, .int x3)]) hx hb dX9_diaryOf_57 hl (k := 5) rfl rfl (by decide) rfl (fun ls hl => ?_)
    refine lv_goto hx hb dX9_diaryOf_60 (tgt := 6) (by decide) ?_
    exact hrec6 (S55, u0_55, (y5_6 + 1)) Hf _ _ _ hP hS (lv_sub hl [2, 3, 4, 5, 1, 0] rfl)
  have hJ53 : ∀ (S53 : st_T), j_X9_diaryOf_53 rec6 y4_6 y5_6 S53 = some (rr, SE) → ∀ (H : Heap) (locs : List Loc) (ls : Array Slot), st_HP X (st_A S) S53 H → va_S (st_A S) s.heap H locs → lv_has ls 6 [(0, .ref a0), (1, .int x1), (2, .int x2), (3, .int x3), (4, .int y4_6), (5, .int y5_6)] → W p l e { frames := 0, cells := 0, slots := 0, locals := 0 } s m args below meth c H locs 0 0 (MQ below (st_Q X (st_A S) (some (.int rr)) SE) args s 0 0 (st_A S)) (F0 m 53 ls []) := by
    intro S53 Hf H locs ls hP hS hl
    unfold j_X9_diaryOf_53 at Hf
    refine lv_iload hx hb dX9_diaryOf_53 (lv_at hl 4 rfl) ?_
    exact hJ55 S53 y4_6 Hf _ _ _ hP hS (lv_sub hl [0, 1, 2, 3, 5] rfl)
  refine lv_icmp_ne hx hb dX9_diaryOf_23 (tgt := 53) (by decide) (fun hc => ?_) (fun hc => ?_)
  · have Hf := c_i_f Hf hc
    exact hJ53 S6 Hf _ _ _ hP hS (lv_sub hl [0, 1, 2, 3, 4, 5] rfl)
  have Hf := c_i_t Hf hc
  refine lv_aload_n hx hb dX9_diaryOf_26 rfl (lv_at hl 0 rfl) ?_
  obtain ⟨q27, hq27, Hf⟩ := c_n_some Hf
  refine fg_10_29 hx hb hts hown hK hP hk_a0 lkf_X9_100 hq27 dX9_diaryOf_27 ?_
  refine lv_iload hx hb dX9_diaryOf_30 (lv_at hl 5 rfl) ?_
  obtain ⟨hk_q27, Hf⟩ := c_g_some Hf
  obtain ⟨hi32, Hf⟩ := c_g_some Hf
  refine r_iald hx hb hK hP hk_q27 hi32 dX9_diaryOf_32 ?_
  refine lv_iload_n hx hb dX9_diaryOf_33 rfl (lv_at hl 2 rfl) ?_
  refine lv_icmp_ne hx hb dX9_diaryOf_34 (tgt := 53) (by decide) (fun hc => ?_) (fun hc => ?_)
  · have Hf := c_i_f Hf hc
    exact hJ53 S6 Hf _ _ _ hP hS (lv_sub hl [0, 1, 2, 3, 4, 5] rfl)
  have Hf := c_i_t Hf hc
  refine lv_aload_n hx hb dX9_diaryOf_37 rfl (lv_at hl 0 rfl) ?_
  obtain ⟨q38, hq38, Hf⟩ := c_n_some Hf
  refine fg_10_30 hx hb hts hown hK hP hk_a0 lkf_X9_103 hq38 dX9_diaryOf_38 ?_
  refine lv_iload hx hb dX9_diaryOf_41 (lv_at hl 5 rfl) ?_
  obtain ⟨hk_q38, Hf⟩ := c_g_some Hf
  obtain ⟨hi43, Hf⟩ := c_g_some Hf
  refine r_iald hx hb hK hP hk_q38 hi43 dX9_diaryOf_43 ?_
  refine lv_iload_n hx hb dX9_diaryOf_44 rfl (lv_at hl 3 rfl) ?_
  refine lv_icmp_ne hx hb dX9_diaryOf_45 (tgt := 53) (by decide) (fun hc => ?_) (fun hc => ?_)
  · have Hf := c_i_f Hf hc
    exact hJ53 S6 Hf _ _ _ hP hS (lv_sub hl [0, 1, 2, 3, 4, 5] rfl)
  have Hf := c_i_t Hf hc
  refine lv_iload hx hb dX9_diaryOf_48 (lv_at hl 5 rfl) ?_
  refine lv_goto hx hb dX9_diaryOf_50 (tgt := 55) (by decide) ?_
  exact hJ55 S6 y5_6 Hf _ _ _ hP hS (lv_sub hl [0, 1, 2, 3, 5] rfl)

def f_X9_diary (S : st_T) (a0 : Nat) (x1 : Int32) (x2 : Int32) (x3 : Int32) (x4 : Int32) : Option (Int32 × st_T) :=
  (c_g (st_K S a0 = 11) (c_l (st_pi S 1000 a0 0) (fun (S_2 : st_T) => (c_i (x1 < 0) (some ((-1), S_2)) (c_i (9 < x1) (some ((-1), S_2)) (c_i (x2 < 0) (some ((-1), S_2)) (c_i (7 < x2) (some ((-1), S_2)) (c_i (x3 < 0) (some ((-1), S_2)) (c_i (6 < x3) (some ((-1), S_2)) (c_i (x4 < 0) (some ((-1), S_2)) (c_i (2 < x4) (some ((-1), S_2)) (c_i ((st_fi S_2 1027 a0) = 40) (some ((-1), S_2)) (c_c (f_X9_diaryOf S_2 a0 x1 x2 x3) (fun (r59 : Int32) (T59 : st_T) => (c_i (r59 < 0) (c_g (st_K T59 a0 = 11) (c_n (st_fr T59 1028 a0) (fun (q68 : Nat) => (c_g (st_K T59 q68 = 20) (c_g (c_in (st_fi T59 1027 a0) (st_ln T59 q68)) (c_l (st_wi T59 q68 ((st_fi T59 1027 a0) : Int32).toNatClampNeg x1) (fun (S_76 : st_T) => (c_n (st_fr S_76 1029 a0) (fun (q78 : Nat) => (c_g (st_K S_76 q78 = 20) (c_g (c_in (st_fi S_76 1027 a0) (st_ln S_76 q78)) (c_l (st_wi S_76 q78 ((st_fi S_76 1027 a0) : Int32).toNatClampNeg x2) (fun (S_86 : st_T) => (c_n (st_fr S_86 1030 a0) (fun (q88 : Nat) => (c_g (st_K S_86 q88 = 20) (c_g (c_in (st_fi S_86 1027 a0) (st_ln S_86 q88)) (c_l (st_wi S_86 q88 ((st_fi S_86 1027 a0) : Int32).toNatClampNeg x3) (fun (S_96 : st_T) => (c_n (st_fr S_96 1031 a0) (fun (q98 : Nat) => (c_g (st_K S_96 q98 = 20) (c_g (c_in (st_fi S_96 1027 a0) (st_ln S_96 q98)) (c_l (st_wi S_96 q98 ((st_fi S_96 1027 a0) : Int32).toNatClampNeg x4) (fun (S_107 : st_T) => (c_n (st_fr S_107 1032 a0) (fun (q109 : Nat) => (c_g (st_K S_107 q109 = 20) (c_g (c_in (st_fi S_107 1027 a0) (st_ln S_107 q109)) (c_l (st_wi S_107 q109 ((st_fi S_107 1027 a0) : Int32).toNatClampNeg 1000000) (fun (S_118 : st_T) => (c_l (st_pi S_118 1027 a0 ((st_fi S_118 1027 a0) + 1)) (fun (S_126 : st_T) => (some (((st_fi S_126 1027 a0) - 1), S_126))))))))))))))))))))))))))))))))))) (some ((-1), T59)))))))))))))))))
set_option maxRecDepth 100000 in
set_option maxHeartbeats 4000000 in
theorem s_X9_diary (l : Launch) (X : st_I) {S SE : st_T} {a0 : Nat} {x1 : Int32} {x2 : Int32} {x3 : Int32} {x4 : Int32} {rr : Int32} (Hf : f_X9_diary S a0 x1 x2 x3 x4 = some (rr, SE)) : Met l yX9_diary (Cond.code yX9_diary cX9_diary 5 (some .int) :: lw_g) { frames := 1, cells := 0, slots := 0, locals := 25 } (st_P X S [.ref a0, .int x1, .int x2, .int x3, .int x4]) (st_Q X (st_A S) (some (.int rr)) SE) 0 0 (st_A S) := by
  refine st_ofW (by decide) (Nat.le_of_ble_eq_true rfl) ?_
  intro p e s m args below meth c hx hb hr hml hlocks hnm hts hown hK hRO hA hP hS ls hl
  have hown : s.vm.findClass RX9 = some m.cls := hown
  have hl : lv_has ls 5 [(0, .ref a0), (1, .int x1), (2, .int x2), (3, .int x3), (4, .int x4)] := hl
  unfold f_X9_diary at Hf
  refine lv_aload_n hx hb dX9_diary_0 rfl (lv_at hl 0 rfl) ?_
  refine lv_iconst (v := 0) hx hb dX9_diary_1 (by decide) ?_
  obtain ⟨hk_a0, Hf⟩ := c_g_some Hf
  refine fp_10_0 hx hb hts hown hK hP hS hk_a0 lkf_X9_131 dX9_diary_2 (fun H locs hP hS => ?_)
  obtain ⟨S_2, eS_2, Hf⟩ := c_l_ex Hf
  have hP : st_HP X (st_A S) S_2 H := by rw [eS_2]; exact hP
  refine lv_iload_n hx hb dX9_diary_5 rfl (lv_at hl 1 rfl) ?_
  refine lv_if_lt hx hb dX9_diary_6 (tgt := 65) (by decide) (fun hc => ?_) (fun hc => ?_)
  · have Hf := c_i_t Hf hc
    refine lv_iconst (v := (-1)) hx hb dX9_diary_65 (by decide) ?_
    cases Hf
    exact r_iret hx hb hr rfl hlocks dX9_diary_66 (Nat.le_of_ble_eq_true rfl) (Nat.le_of_ble_eq_true rfl) hP hS
  have Hf := c_i_f Hf hc
  refine lv_iload_n hx hb dX9_diary_9 rfl (lv_at hl 1 rfl) ?_
  refine lv_bipush (v := 9) hx hb dX9_diary_10 (by decide) ?_
  refine lv_icmp_gt hx hb dX9_diary_12 (tgt := 65) (by decide) (fun hc => ?_) (fun hc => ?_)
  · have Hf := c_i_t Hf hc
    refine lv_iconst (v := (-1)) hx hb dX9_diary_65 (by decide) ?_
    cases Hf
    exact r_iret hx hb hr rfl hlocks dX9_diary_66 (Nat.le_of_ble_eq_true rfl) (Nat.le_of_ble_eq_true rfl) hP hS
  have Hf := c_i_f Hf hc
  refine lv_iload_n hx hb dX9_diary_15 rfl (lv_at hl 2 rfl) ?_
  refine lv_if_lt hx hb dX9_diary_16 (tgt := 65) (by decide) (fun hc => ?_) (fun hc => ?_)
  · have Hf := c_i_t Hf hc
    refine lv_iconst (v := (-1)) hx hb dX9_diary_65 (by decide) ?_
    cases Hf
    exact r_iret hx hb hr rfl hlocks dX9_diary_66 (Nat.le_of_ble_eq_true rfl) (Nat.le_of_ble_eq_true rfl) hP hS
  have Hf := c_i_f Hf hc
  refine lv_iload_n hx hb dX9_diary_19 rfl (lv_at hl 2 rfl) ?_
  refine lv_bipush (v := 7) hx hb dX9_diary_20 (by decide) ?_
  refine lv_icmp_gt hx hb dX9_diary_22 (tgt := 65) (by decide) (fun hc => ?_) (fun hc => ?_)
  · have Hf := c_i_t Hf hc
    refine lv_iconst (v := (-1)) hx hb dX9_diary_65 (by decide) ?_
    cases Hf
    exact r_iret hx hb hr rfl hlocks dX9_diary_66 (Nat.le_of_ble_eq_true rfl) (Nat.le_of_ble_eq_true rfl) hP hS
  have Hf := c_i_f Hf hc
  refine lv_iload_n hx hb dX9_diary_25 rfl (lv_at hl 3 rfl) ?_
  refine lv_if_lt hx hb dX9_diary_26 (tgt := 65) (by decide) (fun hc => ?_) (fun hc => ?_)
  · have Hf := c_i_t Hf hc
    refine lv_iconst (v := (-1)) hx hb dX9_diary_65 (by decide) ?_
    cases Hf
    exact r_iret hx hb hr rfl hlocks dX9_diary_66 (Nat.le_of_ble_eq_true rfl) (Nat.le_of_ble_eq_true rfl) hP hS
  have Hf := c_i_f Hf hc
  refine lv_iload_n hx hb dX9_diary_29 rfl (lv_at hl 3 rfl) ?_
  refine lv_bipush (v := 6) hx hb dX9_diary_30 (by decide) ?_
  refine lv_icmp_gt hx hb dX9_diary_32 (tgt := 65) (by decide) (fun hc => ?_) (fun hc => ?_)
  · have Hf := c_i_t Hf hc
    refine lv_iconst (v := (-1)) hx hb dX9_diary_65 (by decide) ?_
    cases Hf
    exact r_iret hx hb hr rfl hlocks dX9_diary_66 (Nat.le_of_ble_eq_true rfl) (Nat.le_of_ble_eq_true rfl) hP hS
  have Hf := c_i_f Hf hc
  refine lv_iload hx hb dX9_diary_35 (lv_at hl 4 rfl) ?_
  refine lv_if_lt hx hb dX9_diary_37 (tgt := 65) (by decide) (fun hc => ?_) (fun hc => ?_)
  · have Hf := c_i_t Hf hc
    refine lv_iconst (v := (-1)) hx hb dX9_diary_65 (by decide) ?_
    cases Hf
    exact r_iret hx hb hr rfl hlocks dX9_diary_66 (Nat.le_of_ble_eq_true rfl) (Nat.le_of_ble_eq_true rfl) hP hS
  have Hf := c_i_f Hf hc
  refine lv_iload hx hb dX9_diary_40 (lv_at hl 4 rfl) ?_
  refine lv_iconst (v := 2) hx hb dX9_diary_42 (by decide) ?_
  refine lv_icmp_gt hx hb dX9_diary_43 (tgt := 65) (by decide) (fun hc => ?_) (fun hc => ?_)
  · have Hf := c_i_t Hf hc
    refine lv_iconst (v := (-1)) hx hb dX9_diary_65 (by decide) ?_
    cases Hf
    exact r_iret hx hb hr rfl hlocks dX9_diary_66 (Nat.le_of_ble_eq_true rfl) (Nat.le_of_ble_eq_true rfl) hP hS
  have Hf := c_i_f Hf hc
  refine lv_aload_n hx hb dX9_diary_46 rfl (lv_at hl 0 rfl) ?_
  have hk_a0 : st_K S_2 a0 = 11 := by rw [kp_pi eS_2]; exact hk_a0
  refine fg_10_27 hx hb hts hown hK hP hk_a0 lkf_X9_236 dX9_diary_47 ?_
  refine lv_bipush (v := 40) hx hb dX9_diary_50 (by decide) ?_
  refine lv_icmp_eq hx hb dX9_diary_52 (tgt := 65) (by decide) (fun hc => ?_) (fun hc => ?_)
  · have Hf := c_i_t Hf hc
    refine lv_iconst (v := (-1)) hx hb dX9_diary_65 (by decide) ?_
    cases Hf
    exact r_iret hx hb hr rfl hlocks dX9_diary_66 (Nat.le_of_ble_eq_true rfl) (Nat.le_of_ble_eq_true rfl) hP hS
  have Hf := c_i_f Hf hc
  refine lv_aload_n hx hb dX9_diary_55 rfl (lv_at hl 0 rfl) ?_
  refine lv_iload_n hx hb dX9_diary_56 rfl (lv_at hl 1 rfl) ?_
  refine lv_iload_n hx hb dX9_diary_57 rfl (lv_at hl 2 rfl) ?_
  refine lv_iload_n hx hb dX9_diary_58 rfl (lv_at hl 3 rfl) ?_
  obtain ⟨r59, T59, hq59, Hf⟩ := c_c_some Hf
  refine r_cV (n := 3) (As := [.int x1, .int x2, .int x3]) (rest := []) ⟨hx, hb, hml, hown, hts⟩ (s_X9_diaryOf l X hq59) lkm_X9_239 (by decide +kernel) rfl (by decide) dX9_diary_59 rfl rfl ⟨Nat.le_of_ble_eq_true rfl, Nat.le_of_ble_eq_true rfl⟩ hk_a0 rfl hl.1 (Nat.le_of_ble_eq_true rfl) ⟨Nat.le_of_ble_eq_true rfl, Nat.le_of_ble_eq_true rfl⟩ hK hRO hA hP hS (fun H locs hP hS => ?_)
  refine W.eq (g2 := F0 m 62 ls [.int r59]) rfl ?_
  refine lv_if_lt hx hb dX9_diary_62 (tgt := 67) (by decide) (fun hc => ?_) (fun hc => ?_)
  · have Hf := c_i_t Hf hc
    refine lv_aload_n hx hb dX9_diary_67 rfl (lv_at hl 0 rfl) ?_
    obtain ⟨hk_a0, Hf⟩ := c_g_some Hf
    obtain ⟨q68, hq68, Hf⟩ := c_n_some Hf
    refine fg_10_28 hx hb hts hown hK hP hk_a0 lkf_X9_97 hq68 dX9_diary_68 ?_
    refine lv_aload_n hx hb dX9_diary_71 rfl (lv_at hl 0 rfl) ?_
    refine fg_10_27 hx hb hts hown hK hP hk_a0 lkf_X9_236 dX9_diary_72 ?_
    refine lv_iload_n hx hb dX9_diary_75 rfl (lv_at hl 1 rfl) ?_
    obtain ⟨hk_q68, Hf⟩ := c_g_some Hf
    obtain ⟨hi76, Hf⟩ := c_g_some Hf
    refine r_iast hx hb hK hP hS hk_q68 hi76 dX9_diary_76 (fun H locs hP hS => ?_)
    obtain ⟨S_76, eS_76, Hf⟩ := c_l_ex Hf
    have hP : st_HP X (st_A S) S_76 H := by rw [eS_76]; exact hP
    refine lv_aload_n hx hb dX9_diary_77 rfl (lv_at hl 0 rfl) ?_
    have hk_a0 : st_K S_76 a0 = 11 := by rw [kp_wi eS_76]; exact hk_a0
    obtain ⟨q78, hq78, Hf⟩ := c_n_some Hf
    refine fg_10_29 hx hb hts hown hK hP hk_a0 lkf_X9_100 hq78 dX9_diary_78 ?_
    refine lv_aload_n hx hb dX9_diary_81 rfl (lv_at hl 0 rfl) ?_
    refine fg_10_27 hx hb hts hown hK hP hk_a0 lkf_X9_236 dX9_diary_82 ?_
    refine lv_iload_n hx hb dX9_diary_85 rfl (lv_at hl 2 rfl) ?_
    obtain ⟨hk_q78, Hf⟩ := c_g_some Hf
    obtain ⟨hi86, Hf⟩ := c_g_some Hf
    refine r_iast hx hb hK hP hS hk_q78 hi86 dX9_diary_86 (fun H locs hP hS => ?_)
    obtain ⟨S_86, eS_86, Hf⟩ := c_l_ex Hf
    have hP : st_HP X (st_A S) S_86 H := by rw [eS_86]; exact hP
    refine lv_aload_n hx hb dX9_diary_87 rfl (lv_at hl 0 rfl) ?_
    have hk_a0 : st_K S_86 a0 = 11 := by rw [kp_wi eS_86]; exact hk_a0
    obtain ⟨q88, hq88, Hf⟩ := c_n_some Hf
    refine fg_10_30 hx hb hts hown hK hP hk_a0 lkf_X9_103 hq88 dX9_diary_88 ?_
    refine lv_aload_n hx hb dX9_diary_91 rfl (lv_at hl 0 rfl) ?_
    refine fg_10_27 hx hb hts hown hK hP hk_a0 lkf_X9_236 dX9_diary_92 ?_
    refine lv_iload_n hx hb dX9_diary_95 rfl (lv_at hl 3 rfl) ?_
    obtain ⟨hk_q88, Hf⟩ := c_g_some Hf
    obtain ⟨hi96, Hf⟩ := c_g_some Hf
    refine r_iast hx hb hK hP hS hk_q88 hi96 dX9_diary_96 (fun H locs hP hS => ?_)
    obtain ⟨S_96, eS_96, Hf⟩ := c_l_ex Hf
    have hP : st_HP X (st_A S) S_96 H := by rw [eS_96]; exact hP
    refine lv_aload_n hx hb dX9_diary_97 rfl (lv_at hl 0 rfl) ?_
    have hk_a0 : st_K S_96 a0 = 11 := by rw [kp_wi eS_96]; exact hk_a0
    obtain ⟨q98, hq98, Hf⟩ := c_n_some Hf
    refine fg_10_31 hx hb hts hown hK hP hk_a0 lkf_X9_106 hq98 dX9_diary_98 ?_
    refine lv_aload_n hx hb dX9_diary_101 rfl (lv_at hl 0 rfl) ?_
    refine fg_10_27 hx hb hts hown hK hP hk_a0 lkf_X9_236 dX9_diary_102 ?_
    refine lv_iload hx hb dX9_diary_105 (lv_at hl 4 rfl) ?_
    obtain ⟨hk_q98, Hf⟩ := c_g_some Hf
    obtain ⟨hi107, Hf⟩ := c_g_some Hf
    refine r_iast hx hb hK hP hS hk_q98 hi107 dX9_diary_107 (fun H locs hP hS => ?_)
    obtain ⟨S_107, eS_107, Hf⟩ := c_l_ex Hf
    have hP : st_HP X (st_A S) S_107 H := by rw [eS_107]; exact hP
    refine lv_aload_n hx hb dX9_diary_108 rfl (lv_at hl 0 rfl) ?_
    have hk_a0 : st_K S_107 a0 = 11 := by rw [kp_wi eS_107]; exact hk_a0
    obtain ⟨q109, hq109, Hf⟩ := c_n_some Hf
    refine fg_10_32 hx hb hts hown hK hP hk_a0 lkf_X9_109 hq109 dX9_diary_109 ?_
    refine lv_aload_n hx hb dX9_diary_112 rfl (lv_at hl 0 rfl) ?_
    refine fg_10_27 hx hb hts hown hK hP hk_a0 lkf_X9_236 dX9_diary_113 ?_
    refine lv_ldc hx hb hown (hts _ lkc_X9_243) dX9_diary_116 ?_
    obtain ⟨hk_q109, Hf⟩ := c_g_some Hf
    obtain ⟨hi118, Hf⟩ := c_g_some Hf
    refine r_iast hx hb hK hP hS hk_q109 hi118 dX9_diary_118 (fun H locs hP hS => ?_)
    obtain ⟨S_118, eS_118, Hf⟩ := c_l_ex Hf
    have hP : st_HP X (st_A S) S_118 H := by rw [eS_118]; exact hP
    refine lv_aload_n hx hb dX9_diary_119 rfl (lv_at hl 0 rfl) ?_
    refine lv_dup hx hb dX9_diary_120 rfl ?_
    have hk_a0 : st_K S_118 a0 = 11 := by rw [kp_wi eS_118]; exact hk_a0
    refine fg_10_27 hx hb hts hown hK hP hk_a0 lkf_X9_236 dX9_diary_121 ?_
    refine lv_iconst (v := 1) hx hb dX9_diary_124 (by decide) ?_
    refine lv_iadd hx hb dX9_diary_125 ?_
    refine fp_10_27 hx hb hts hown hK hP hS hk_a0 lkf_X9_236 dX9_diary_126 (fun H locs hP hS => ?_)
    obtain ⟨S_126, eS_126, Hf⟩ := c_l_ex Hf
    have hP : st_HP X (st_A S) S_126 H := by rw [eS_126]; exact hP
    refine lv_aload_n hx hb dX9_diary_129 rfl (lv_at hl 0 rfl) ?_
    have hk_a0 : st_K S_126 a0 = 11 := by rw [kp_pi eS_126]; exact hk_a0
    refine fg_10_27 hx hb hts hown hK hP hk_a0 lkf_X9_236 dX9_diary_130 ?_
    refine lv_iconst (v := 1) hx hb dX9_diary_133 (by decide) ?_
    refine lv_isub hx hb dX9_diary_134 ?_
    cases Hf
    exact r_iret hx hb hr rfl hlocks dX9_diary_135 (Nat.le_of_ble_eq_true rfl) (Nat.le_of_ble_eq_true rfl) hP hS
  have Hf := c_i_f Hf hc
  refine lv_iconst (v := (-1)) hx hb dX9_diary_65 (by decide) ?_
  cases Hf
  exact r_iret hx hb hr rfl hlocks dX9_diary_66 (Nat.le_of_ble_eq_true rfl) (Nat.le_of_ble_eq_true rfl) hP hS

def f_X9_of (S : st_T) (a0 : Nat) (x1 : Int32) (x2 : Int32) (x3 : Int32) : Option (Int32 × st_T) :=
  (c_g (st_K S a0 = 11) (c_n (st_fr S 1034 a0) (fun (q1 : Nat) => (c_g (st_K S q1 = 20) (c_g (c_in ((6 * ((24 * x1) + x2)) + x3) (st_ln S q1)) (some ((st_ri S q1 (((6 * ((24 * x1) + x2)) + x3) : Int32).toNatClampNeg), S)))))))
set_option maxRecDepth 100000 in
set_option maxHeartbeats 4000000 in
theorem s_X9_of (l : Launch) (X : st_I) {S SE : st_T} {a0 : Nat} {x1 : Int32} {x2 : Int32} {x3 : Int32} {rr : Int32} (Hf : f_X9_of S a0 x1 x2 x3 = some (rr, SE)) : Met l yX9_of (Cond.code yX9_of cX9_of 4 (some .int) :: lw_g) { frames := 0, cells := 0, slots := 0, locals := 0 } (st_P X S [.ref a0, .int x1, .int x2, .int x3]) (st_Q X (st_A S) (some (.int rr)) SE) 0 0 (st_A S) := by
  refine st_ofW (by decide) (Nat.le_of_ble_eq_true rfl) ?_
  intro p e s m args below meth c hx hb hr hml hlocks hnm hts hown hK hRO hA hP hS ls hl
  have hown : s.vm.findClass RX9 = some m.cls := hown
  have hl : lv_has ls 4 [(0, .ref a0), (1, .int x1), (2, .int x2), (3, .int x3)] := hl
  unfold f_X9_of at Hf
  refine lv_aload_n hx hb dX9_of_0 rfl (lv_at hl 0 rfl) ?_
  obtain ⟨hk_a0, Hf⟩ := c_g_some Hf
  obtain ⟨q1, hq1, Hf⟩ := c_n_some Hf
  refine fg_10_34 hx hb hts hown hK hP hk_a0 lkf_X9_115 hq1 dX9_of_1 ?_
  refine lv_bipush (v := 6) hx hb dX9_of_4 (by decide) ?_
  refine lv_bipush (v := 24) hx hb dX9_of_6 (by decide) ?_
  refine lv_iload_n hx hb dX9_of_8 rfl (lv_at hl 1 rfl) ?_
  refine lv_imul hx hb dX9_of_9 ?_
  refine lv_iload_n hx hb dX9_of_10 rfl (lv_at hl 2 rfl) ?_
  refine lv_iadd hx hb dX9_of_11 ?_
  refine lv_imul hx hb dX9_of_12 ?_
  refine lv_iload_n hx hb dX9_of_13 rfl (lv_at hl 3 rfl) ?_
  refine lv_iadd hx hb dX9_of_14 ?_
  obtain ⟨hk_q1, Hf⟩ := c_g_some Hf
  obtain ⟨hi15, Hf⟩ := c_g_some Hf
  refine r_iald hx hb hK hP hk_q1 hi15 dX9_of_15 ?_
  cases Hf
  exact r_iret hx hb hr rfl hlocks dX9_of_16 (Nat.le_of_ble_eq_true rfl) (Nat.le_of_ble_eq_true rfl) hP hS

def j_X9_lineAt_46 (rec5 : st_T × Int32 × Int32 → Option (Int32 × st_T)) (y4_5 : Int32) (S46 : st_T) (u0_46 : Int32) : Option (Int32 × st_T) :=
  (rec5 (S46, u0_46, (y4_5 + 1)))
def j_X9_lineAt_45 (rec5 : st_T × Int32 × Int32 → Option (Int32 × st_T)) (y3_5 : Int32) (y4_5 : Int32) (S45 : st_T) : Option (Int32 × st_T) :=
  (j_X9_lineAt_46 rec5 y4_5 S45 y3_5)
def b_X9_lineAt_5 (a0 : Nat) (x1 : Int32) (x2 : Int32) (rec5 : st_T × Int32 × Int32 → Option (Int32 × st_T)) (q : st_T × Int32 × Int32) : Option (Int32 × st_T) :=
  (fun (S5 : st_T) (y3_5 : Int32) (y4_5 : Int32) =>
  (c_g (st_K S5 a0 = 11) (c_n (st_fr S5 1033 a0) (fun (q8 : Nat) => (c_g (st_K S5 q8 = 20) (c_g (c_in x1 (st_ln S5 q8)) (c_i ((st_ri S5 q8 (x1 : Int32).toNatClampNeg) ≤ y4_5) (some (y3_5, S5)) (c_c (f_X9_of S5 a0 x1 y4_5 0) (fun (r21 : Int32) (T21 : st_T) => (c_i (x2 < r21) (j_X9_lineAt_45 rec5 y3_5 y4_5 T21) (c_g (st_K T21 a0 = 11) (c_c (f_X9_of T21 a0 x1 y4_5 1) (fun (r33 : Int32) (T33 : st_T) => (c_i (r33 < x2) (j_X9_lineAt_45 rec5 y3_5 y4_5 T33) (j_X9_lineAt_46 rec5 y4_5 T33 y4_5))))))))))))))) q.1 q.2.1 q.2.2
def f_X9_lineAt (S : st_T) (a0 : Nat) (x1 : Int32) (x2 : Int32) : Option (Int32 × st_T) :=
  (c_w (b_X9_lineAt_5 a0 x1 x2) c_N (S, (-1), 0))
set_option maxRecDepth 100000 in
set_option maxHeartbeats 4000000 in
theorem s_X9_lineAt (l : Launch) (X : st_I) {S SE : st_T} {a0 : Nat} {x1 : Int32} {x2 : Int32} {rr : Int32} (Hf : f_X9_lineAt S a0 x1 x2 = some (rr, SE)) : Met l yX9_lineAt (Cond.code yX9_lineAt cX9_lineAt 5 (some .int) :: lw_g) { frames := 1, cells := 0, slots := 0, locals := 23 } (st_P X S [.ref a0, .int x1, .int x2]) (st_Q X (st_A S) (some (.int rr)) SE) 0 0 (st_A S) := by
  refine st_ofW (by decide) (Nat.le_of_ble_eq_true rfl) ?_
  intro p e s m args below meth c hx hb hr hml hlocks hnm hts hown hK hRO hA hP hS ls hl
  have hown : s.vm.findClass RX9 = some m.cls := hown
  have hl : lv_has ls 5 [(0, .ref a0), (1, .int x1), (2, .int x2)] := hl
  unfold f_X9_lineAt at Hf
  refine lv_iconst (v := (-1)) hx hb dX9_lineAt_0 (by decide) ?_
  refine lv_istore_n (lv' := [(3, .int (-1)), (0, .ref a0), (1, .int x1), (2, .int x2)]) hx hb dX9_lineAt_1 rfl hl (by decide) rfl (fun ls hl => ?_)
  refine lv_iconst (v := 0) hx hb dX9_lineAt_2 (by decide) ?_
  refine lv_istore (lv' := [(4, .int 0), (3, .int (-1)), (0, .ref a0), (1, .int x1), (2, .int x2)]) hx hb dX9_lineAt_3 hl (by decide) rfl (fun ls hl => ?_)
  refine (c_w_ind (P := fun (q : st_T × Int32 × Int32) => ∀ (H : Heap) (locs : List Loc) (ls : Array Slot), st_HP X (st_A S) q.1 H → va_S (st_A S) s.heap H locs → lv_has ls 5 [(0, .ref a0), (1, .int x1), (2, .int x2), (3, .int q.2.1), (4, .int q.2.2)] → W p l e { frames := 1, cells := 0, slots := 0, locals := 23 } s m args below meth c H locs 0 0 (MQ below (st_Q X (st_A S) (some (.int rr)) SE) args s 0 0 (st_A S)) (F0 m 5 ls [])) ?_ _ _ Hf) _ _ _ hP hS (lv_sub hl [2, 3, 4, 1, 0] rfl)
  intro rec5 hrec5 q Hf H locs ls hP hS hl
  obtain ⟨S5, y3_5, y4_5⟩ := q
  unfold b_X9_lineAt_5 at Hf
  try dsimp only at Hf
  try dsimp only at hP
  try dsimp only at hl
  try dsimp only
  refine lv_iload hx hb dX9_lineAt_5 (lv_at hl 4 rfl) ?_
  refine lv_aload_n hx hb dX9_lineAt_7 rfl (lv_at hl 0 rfl) ?_
  obtain ⟨hk_a0, Hf⟩ := c_g_some Hf
  obtain ⟨q8, hq8, Hf⟩ := c_n_some Hf
  refine fg_10_33 hx hb hts hown hK hP hk_a0 lkf_X9_112 hq8 dX9_lineAt_8 ?_
  refine lv_iload_n hx hb dX9_lineAt_11 rfl (lv_at hl 1 rfl) ?_
  obtain ⟨hk_q8, Hf⟩ := c_g_some Hf
  obtain ⟨hi12, Hf⟩ := c_g_some Hf
  refine r_iald hx hb hK hP hk_q8 hi12 dX9_lineAt_12 ?_
  refine lv_icmp_ge hx hb dX9_lineAt_13 (tgt := 53) (by decide) (fun hc => ?_) (fun hc => ?_)
  · have Hf := c_i_t Hf hc
    refine lv_iload_n hx hb dX9_lineAt_53 rfl (lv_at hl 3 rfl) ?_
    cases Hf
    exact r_iret hx hb hr rfl hlocks dX9_lineAt_54 (Nat.le_of_ble_eq_true rfl) (Nat.le_of_ble_eq_true rfl) hP hS
  have Hf := c_i_f Hf hc
  refine lv_aload_n hx hb dX9_lineAt_16 rfl (lv_at hl 0 rfl) ?_
  refine lv_iload_n hx hb dX9_lineAt_17 rfl (lv_at hl 1 rfl) ?_
  refine lv_iload hx hb dX9_lineAt_18 (lv_at hl 4 rfl) ?_
  refine lv_iconst (v := 0) hx hb dX9_lineAt_20 (by decide) ?_
  obtain ⟨r21, T21, hq21, Hf⟩ := c_c_some Hf
  refine r_cV (n := 3) (As := [.int x1, .int y4_5, .int 0]) (rest := []) ⟨hx, hb, hml, hown, hts⟩ (s_X9_of l X hq21) lkm_X9_244 (by decide +kernel) rfl (by decide) dX9_lineAt_21 rfl rfl ⟨Nat.le_of_ble_eq_true rfl, Nat.le_of_ble_eq_true rfl⟩ hk_a0 rfl hl.1 (Nat.le_of_ble_eq_true rfl) ⟨Nat.le_of_ble_eq_true rfl, Nat.le_of_ble_eq_true rfl⟩ hK hRO hA hP hS (fun H locs hP hS => ?_)
  refine W.eq (g2 := F0 m 24 ls [.int r21]) rfl ?_
  refine lv_iload_n hx hb dX9_lineAt_24 rfl (lv_at hl 2 rfl) ?_
  have hJ46 : ∀ (S46 : st_T) (u0_46 : Int32), j_X9_lineAt_46 rec5 y4_5 S46 u0_46 = some (rr, SE) → ∀ (H : Heap) (locs : List Loc) (ls : Array Slot), st_HP X (st_A S) S46 H → va_S (st_A S) s.heap H locs → lv_has ls 5 [(0, .ref a0), (1, .int x1), (2, .int x2), (4, .int y4_5)] → W p l e { frames := 1, cells := 0, slots := 0, locals := 23 } s m args below meth c H locs 0 0 (MQ below (st_Q X (st_A S) (some (.int rr)) SE) args s 0 0 (st_A S)) (F0 m 46 ls [.int u0_46]) := by
    intro S46 u0_46 Hf H locs ls hP hS hl
    unfold j_X9_lineAt_46 at Hf
    refine lv_istore_n (lv' := [(3, .int u0_46), (0, .ref a0), (1, .int x1), (2, .int x2), (4, .int y4_5)]) hx hb dX9_lineAt_46 rfl hl (by decide) rfl (fun ls hl => ?_)
    refine lv_iinc (v := (y4_5 + 1)) (lv' := [(4, .int (y4_5 + 1)), (3, .int u0_46), (0, .ref a0), (1, .int x1), (2, .int x2)]) hx hb dX9_lineAt_47 hl (k := 4) rfl rfl (by decide) rfl (fun ls hl => ?_)
    refine lv_goto hx hb dX9_lineAt_50 (tgt := 5) (by decide) ?_
    exact hrec5 (S46, u0_46, (y4_5 + 1)) Hf _ _ _ hP hS (lv_sub hl [2, 3, 4, 1, 0] rfl)
  have hJ45 : ∀ (S45 : st_T), j_X9_lineAt_45 rec5 y3_5 y4_5 S45 = some (rr, SE) → ∀ (H : Heap) (locs : List Loc) (ls : Array Slot), st_HP X (st_A S) S45 H → va_S (st_A S) s.heap H locs → lv_has ls 5 [(0, .ref a0), (1, .int x1), (2, .int x2), (3, .int y3_5), (4, .int y4_5)] → W p l e { frames := 1, cells := 0, slots := 0, locals := 23 } s m args below meth c H locs 0 0 (MQ below (st_Q X (st_A S) (some (.int rr)) SE) args s 0 0 (st_A S)) (F0 m 45 ls []) := by
    intro S45 Hf H locs ls hP hS hl
    unfold j_X9_lineAt_45 at Hf
    refine lv_iload_n hx hb dX9_lineAt_45 rfl (lv_at hl 3 rfl) ?_
    exact hJ46 S45 y3_5 Hf _ _ _ hP hS (lv_sub hl [0, 1, 2, 4] rfl)
  refine lv_icmp_gt hx hb dX9_lineAt_25 (tgt := 45) (by decide) (fun hc => ?_) (fun hc => ?_)
  · have Hf := c_i_t Hf hc
    exact hJ45 T21 Hf _ _ _ hP hS (lv_sub hl [0, 1, 2, 3, 4] rfl)
  have Hf := c_i_f Hf hc
  refine lv_aload_n hx hb dX9_lineAt_28 rfl (lv_at hl 0 rfl) ?_
  refine lv_iload_n hx hb dX9_lineAt_29 rfl (lv_at hl 1 rfl) ?_
  refine lv_iload hx hb dX9_lineAt_30 (lv_at hl 4 rfl) ?_
  refine lv_iconst (v := 1) hx hb dX9_lineAt_32 (by decide) ?_
  obtain ⟨hk_a0, Hf⟩ := c_g_some Hf
  obtain ⟨r33, T33, hq33, Hf⟩ := c_c_some Hf
  refine r_cV (n := 3) (As := [.int x1, .int y4_5, .int 1]) (rest := []) ⟨hx, hb, hml, hown, hts⟩ (s_X9_of l X hq33) lkm_X9_244 (by decide +kernel) rfl (by decide) dX9_lineAt_33 rfl rfl ⟨Nat.le_of_ble_eq_true rfl, Nat.le_of_ble_eq_true rfl⟩ hk_a0 rfl hl.1 (Nat.le_of_ble_eq_true rfl) ⟨Nat.le_of_ble_eq_true rfl, Nat.le_of_ble_eq_true rfl⟩ hK hRO hA hP hS (fun H locs hP hS => ?_)
  refine W.eq (g2 := F0 m 36 ls [.int r33]) rfl ?_
  refine lv_iload_n hx hb dX9_lineAt_36 rfl (lv_at hl 2 rfl) ?_
  refine lv_icmp_lt hx hb dX9_lineAt_37 (tgt := 45) (by decide) (fun hc => ?_) (fun hc => ?_)
  · have Hf := c_i_t Hf hc
    exact hJ45 T33 Hf _ _ _ hP hS (lv_sub hl [0, 1, 2, 3, 4] rfl)
  have Hf := c_i_f Hf hc
  refine lv_iload hx hb dX9_lineAt_40 (lv_at hl 4 rfl) ?_
  refine lv_goto hx hb dX9_lineAt_42 (tgt := 46) (by decide) ?_
  exact hJ46 T33 y4_5 Hf _ _ _ hP hS (lv_sub hl [0, 1, 2, 4] rfl)

def j_X9_line_214 (a0 : Nat) (x1 : Int32) (x2 : Int32) (x3 : Int32) (x4 : Int32) (x5 : Int32) (x6 : Int32) (x7 : Int32) (y8_144 : Int32) (S214 : st_T) : Option (Int32 × st_T) :=
  (c_l (6 * ((24 * x1) + y8_144)) (fun (z9_224 : Int32) => (c_g (st_K S214 a0 = 11) (c_n (st_fr S214 1034 a0) (fun (q227 : Nat) => (c_g (st_K S214 q227 = 20) (c_g (c_in (z9_224 + 0) (st_ln S214 q227)) (c_l (st_wi S214 q227 ((z9_224 + 0) : Int32).toNatClampNeg x2) (fun (S_235 : st_T) => (c_g (c_in (z9_224 + 1) (st_ln S_235 q227)) (c_l (st_wi S_235 q227 ((z9_224 + 1) : Int32).toNatClampNeg x3) (fun (S_245 : st_T) => (c_g (c_in (z9_224 + 2) (st_ln S_245 q227)) (c_l (st_wi S_245 q227 ((z9_224 + 2) : Int32).toNatClampNeg x4) (fun (S_256 : st_T) => (c_g (c_in (z9_224 + 3) (st_ln S_256 q227)) (c_l (st_wi S_256 q227 ((z9_224 + 3) : Int32).toNatClampNeg x5) (fun (S_267 : st_T) => (c_g (c_in (z9_224 + 4) (st_ln S_267 q227)) (c_l (st_wi S_267 q227 ((z9_224 + 4) : Int32).toNatClampNeg x6) (fun (S_278 : st_T) => (c_g (c_in (z9_224 + 5) (st_ln S_278 q227)) (c_l (st_wi S_278 q227 ((z9_224 + 5) : Int32).toNatClampNeg x7) (fun (S_289 : st_T) => (c_n (st_fr S_289 1033 a0) (fun (q291 : Nat) => (c_g (st_K S_289 q291 = 20) (c_g (c_in x1 (st_ln S_289 q291)) (c_g (c_in x1 (st_ln S_289 q291)) (c_l (st_wi S_289 q291 (x1 : Int32).toNatClampNeg ((st_ri S_289 q291 (x1 : Int32).toNatClampNeg) + 1)) (fun (S_299 : st_T) => (c_g (c_in x1 (st_ln S_299 q291)) (some ((st_ri S_299 q291 (x1 : Int32).toNatClampNeg), S_299))))))))))))))))))))))))))))))))))
def b_X9_line_166 (a0 : Nat) (x1 : Int32) (rec144 : st_T × Int32 → Option (Int32 × st_T)) (y8_144 : Int32) (rec166 : st_T × Int32 → Option (Int32 × st_T)) (q : st_T × Int32) : Option (Int32 × st_T) :=
  (fun (S166 : st_T) (y9_166 : Int32) =>
  (c_i (6 ≤ y9_166) (rec144 (S166, (y8_144 + (-1)))) (c_g (st_K S166 a0 = 11) (c_n (st_fr S166 1034 a0) (fun (q174 : Nat) => (c_c (f_X9_of S166 a0 x1 (y8_144 - 1) y9_166) (fun (r198 : Int32) (T198 : st_T) => (c_g (st_K T198 q174 = 20) (c_g (c_in ((6 * ((24 * x1) + y8_144)) + y9_166) (st_ln T198 q174)) (c_l (st_wi T198 q174 (((6 * ((24 * x1) + y8_144)) + y9_166) : Int32).toNatClampNeg r198) (fun (S_201 : st_T) => (rec166 (S_201, (y9_166 + 1)))))))))))))) q.1 q.2
def b_X9_line_144 (a0 : Nat) (x1 : Int32) (x2 : Int32) (x3 : Int32) (x4 : Int32) (x5 : Int32) (x6 : Int32) (x7 : Int32) (rec144 : st_T × Int32 → Option (Int32 × st_T)) (q : st_T × Int32) : Option (Int32 × st_T) :=
  (fun (S144 : st_T) (y8_144 : Int32) =>
  (c_i (y8_144 ≤ 0) (j_X9_line_214 a0 x1 x2 x3 x4 x5 x6 x7 y8_144 S144) (c_g (st_K S144 a0 = 11) (c_c (f_X9_of S144 a0 x1 (y8_144 - 1) 0) (fun (r156 : Int32) (T156 : st_T) => (c_i (r156 ≤ x2) (j_X9_line_214 a0 x1 x2 x3 x4 x5 x6 x7 y8_144 T156) (c_w (b_X9_line_166 a0 x1 rec144 y8_144) c_N (T156, 0)))))))) q.1 q.2
def b_X9_line_112 (a0 : Nat) (x1 : Int32) (x2 : Int32) (x3 : Int32) (x4 : Int32) (x5 : Int32) (x6 : Int32) (x7 : Int32) (rec112 : st_T × Int32 → Option (Int32 × st_T)) (q : st_T × Int32) : Option (Int32 × st_T) :=
  (fun (S112 : st_T) (y8_112 : Int32) =>
  (c_i (x3 < y8_112) (c_g (st_K S112 a0 = 11) (c_n (st_fr S112 1033 a0) (fun (q137 : Nat) => (c_g (st_K S112 q137 = 20) (c_g (c_in x1 (st_ln S112 q137)) (c_l (st_ri S112 q137 (x1 : Int32).toNatClampNeg) (fun (z8_142 : Int32) => (c_w (b_X9_line_144 a0 x1 x2 x3 x4 x5 x6 x7) c_N (S112, z8_142))))))))) (c_g (st_K S112 a0 = 11) (c_c (f_X9_lineAt S112 a0 x1 y8_112) (fun (r122 : Int32) (T122 : st_T) => (c_i (r122 < 0) (rec112 (T122, (y8_112 + 1))) (some ((-1), T122)))))))) q.1 q.2
def f_X9_line (S : st_T) (a0 : Nat) (x1 : Int32) (x2 : Int32) (x3 : Int32) (x4 : Int32) (x5 : Int32) (x6 : Int32) (x7 : Int32) : Option (Int32 × st_T) :=
  (c_g (st_K S a0 = 11) (c_l (st_pi S 1000 a0 0) (fun (S_2 : st_T) => (c_c (f_X9_isDiary S_2 a0 x1) (fun (r7 : Int32) (T7 : st_T) => (c_i (r7 = 0) (some ((-1), T7)) (c_i (x2 < 0) (some ((-1), T7)) (c_i (x3 < x2) (some ((-1), T7)) (c_i (144 ≤ x3) (some ((-1), T7)) (c_i (x4 < 1) (some ((-1), T7)) (c_i (200 < x4) (some ((-1), T7)) (c_i (x5 < 0) (some ((-1), T7)) (c_i (200 < x5) (some ((-1), T7)) (c_i (x6 < 0) (some ((-1), T7)) (c_i (9 < x6) (some ((-1), T7)) (c_i (x7 < 0) (some ((-1), T7)) (c_i (255 < x7) (some ((-1), T7)) (c_g (st_K T7 a0 = 11) (c_n (st_fr T7 1029 a0) (fun (q84 : Nat) => (c_g (st_K T7 q84 = 20) (c_g (c_in x1 (st_ln T7 q84)) (c_i (((x7 >>> ((st_ri T7 q84 (x1 : Int32).toNatClampNeg) &&& 31)) &&& 1) = 1) (some ((-1), T7)) (c_n (st_fr T7 1033 a0) (fun (q97 : Nat) => (c_g (st_K T7 q97 = 20) (c_g (c_in x1 (st_ln T7 q97)) (c_i ((st_ri T7 q97 (x1 : Int32).toNatClampNeg) = 24) (some ((-1), T7)) (c_w (b_X9_line_112 a0 x1 x2 x3 x4 x5 x6 x7) c_N (T7, x2))))))))))))))))))))))))))))))
set_option maxRecDepth 100000 in
set_option maxHeartbeats 4000000 in
theorem s_X9_line (l : Launch) (X : st_I) {S SE : st_T} {a0 : Nat} {x1 : Int32} {x2 : Int32} {x3 : Int32} {x4 : Int32} {x5 : Int32} {x6 : Int32} {x7 : Int32} {rr : Int32} (Hf : f_X9_line S a0 x1 x2 x3 x4 x5 x6 x7 = some (rr, SE)) : Met l yX9_line (Cond.code yX9_line cX9_line 10 (some .int) :: lw_g) { frames := 2, cells := 0, slots := 0, locals := 47 } (st_P X S [.ref a0, .int x1, .int x2, .int x3, .int x4, .int x5, .int x6, .int x7]) (st_Q X (st_A S) (some (.int rr)) SE) 0 0 (st_A S) := by
  refine st_ofW (by decide) (Nat.le_of_ble_eq_true rfl) ?_
  intro p e s m args below meth c hx hb hr hml hlocks hnm hts hown hK hRO hA hP hS ls hl
  have hown : s.vm.findClass RX9 = some m.cls := hown
  have hl : lv_has ls 10 [(0, .ref a0), (1, .int x1), (2, .int x2), (3, .int x3), (4, .int x4), (5, .int x5), (6, .int x6), (7, .int x7)] := hl
  unfold f_X9_line at Hf
  refine lv_aload_n hx hb dX9_line_0 rfl (lv_at hl 0 rfl) ?_
  refine lv_iconst (v := 0) hx hb dX9_line_1 (by decide) ?_
  obtain ⟨hk_a0, Hf⟩ := c_g_some Hf
  refine fp_10_0 hx hb hts hown hK hP hS hk_a0 lkf_X9_131 dX9_line_2 (fun H locs hP hS => ?_)
  obtain ⟨S_2, eS_2, Hf⟩ := c_l_ex Hf
  have hP : st_HP X (st_A S) S_2 H := by rw [eS_2]; exact hP
  refine lv_aload_n hx hb dX9_line_5 rfl (lv_at hl 0 rfl) ?_
  refine lv_iload_n hx hb dX9_line_6 rfl (lv_at hl 1 rfl) ?_
  have hk_a0 : st_K S_2 a0 = 11 := by rw [kp_pi eS_2]; exact hk_a0
  obtain ⟨r7, T7, hq7, Hf⟩ := c_c_some Hf
  refine r_cV (n := 1) (As := [.int x1]) (rest := []) ⟨hx, hb, hml, hown, hts⟩ (s_X9_isDiary l X hq7) lkm_X9_247 (by decide +kernel) rfl (by decide) dX9_line_7 rfl rfl ⟨Nat.le_of_ble_eq_true rfl, Nat.le_of_ble_eq_true rfl⟩ hk_a0 rfl hl.1 (Nat.le_of_ble_eq_true rfl) ⟨Nat.le_of_ble_eq_true rfl, Nat.le_of_ble_eq_true rfl⟩ hK hRO hA hP hS (fun H locs hP hS => ?_)
  refine W.eq (g2 := F0 m 10 ls [.int r7]) rfl ?_
  refine lv_if_eq hx hb dX9_line_10 (tgt := 107) (by decide) (fun hc => ?_) (fun hc => ?_)
  · have Hf := c_i_t Hf hc
    refine lv_iconst (v := (-1)) hx hb dX9_line_107 (by decide) ?_
    cases Hf
    exact r_iret hx hb hr rfl hlocks dX9_line_108 (Nat.le_of_ble_eq_true rfl) (Nat.le_of_ble_eq_true rfl) hP hS
  have Hf := c_i_f Hf hc
  refine lv_iload_n hx hb dX9_line_13 rfl (lv_at hl 2 rfl) ?_
  refine lv_if_lt hx hb dX9_line_14 (tgt := 107) (by decide) (fun hc => ?_) (fun hc => ?_)
  · have Hf := c_i_t Hf hc
    refine lv_iconst (v := (-1)) hx hb dX9_line_107 (by decide) ?_
    cases Hf
    exact r_iret hx hb hr rfl hlocks dX9_line_108 (Nat.le_of_ble_eq_true rfl) (Nat.le_of_ble_eq_true rfl) hP hS
  have Hf := c_i_f Hf hc
  refine lv_iload_n hx hb dX9_line_17 rfl (lv_at hl 3 rfl) ?_
  refine lv_iload_n hx hb dX9_line_18 rfl (lv_at hl 2 rfl) ?_
  refine lv_icmp_lt hx hb dX9_line_19 (tgt := 107) (by decide) (fun hc => ?_) (fun hc => ?_)
  · have Hf := c_i_t Hf hc
    refine lv_iconst (v := (-1)) hx hb dX9_line_107 (by decide) ?_
    cases Hf
    exact r_iret hx hb hr rfl hlocks dX9_line_108 (Nat.le_of_ble_eq_true rfl) (Nat.le_of_ble_eq_true rfl) hP hS
  have Hf := c_i_f Hf hc
  refine lv_iload_n hx hb dX9_line_22 rfl (lv_at hl 3 rfl) ?_
  refine lv_sipush (v := 144) hx hb dX9_line_23 (by decide) ?_
  refine lv_icmp_ge hx hb dX9_line_26 (tgt := 107) (by decide) (fun hc => ?_) (fun hc => ?_)
  · have Hf := c_i_t Hf hc
    refine lv_iconst (v := (-1)) hx hb dX9_line_107 (by decide) ?_
    cases Hf
    exact r_iret hx hb hr rfl hlocks dX9_line_108 (Nat.le_of_ble_eq_true rfl) (Nat.le_of_ble_eq_true rfl) hP hS
  have Hf := c_i_f Hf hc
  refine lv_iload hx hb dX9_line_29 (lv_at hl 4 rfl) ?_
  refine lv_iconst (v := 1) hx hb dX9_line_31 (by decide) ?_
  refine lv_icmp_lt hx hb dX9_line_32 (tgt := 107) (by decide) (fun hc => ?_) (fun hc => ?_)
  · have Hf := c_i_t Hf hc
    refine lv_iconst (v := (-1)) hx hb dX9_line_107 (by decide) ?_
    cases Hf
    exact r_iret hx hb hr rfl hlocks dX9_line_108 (Nat.le_of_ble_eq_true rfl) (Nat.le_of_ble_eq_true rfl) hP hS
  have Hf := c_i_f Hf hc
  refine lv_iload hx hb dX9_line_35 (lv_at hl 4 rfl) ?_
  refine lv_sipush (v := 200) hx hb dX9_line_37 (by decide) ?_
  refine lv_icmp_gt hx hb dX9_line_40 (tgt := 107) (by decide) (fun hc => ?_) (fun hc => ?_)
  · have Hf := c_i_t Hf hc
    refine lv_iconst (v := (-1)) hx hb dX9_line_107 (by decide) ?_
    cases Hf
    exact r_iret hx hb hr rfl hlocks dX9_line_108 (Nat.le_of_ble_eq_true rfl) (Nat.le_of_ble_eq_true rfl) hP hS
  have Hf := c_i_f Hf hc
  refine lv_iload hx hb dX9_line_43 (lv_at hl 5 rfl) ?_
  refine lv_if_lt hx hb dX9_line_45 (tgt := 107) (by decide) (fun hc => ?_) (fun hc => ?_)
  · have Hf := c_i_t Hf hc
    refine lv_iconst (v := (-1)) hx hb dX9_line_107 (by decide) ?_
    cases Hf
    exact r_iret hx hb hr rfl hlocks dX9_line_108 (Nat.le_of_ble_eq_true rfl) (Nat.le_of_ble_eq_true rfl) hP hS
  have Hf := c_i_f Hf hc
  refine lv_iload hx hb dX9_line_48 (lv_at hl 5 rfl) ?_
  refine lv_sipush (v := 200) hx hb dX9_line_50 (by decide) ?_
  refine lv_icmp_gt hx hb dX9_line_53 (tgt := 107) (by decide) (fun hc => ?_) (fun hc => ?_)
  · have Hf := c_i_t Hf hc
    refine lv_iconst (v := (-1)) hx hb dX9_line_107 (by decide) ?_
    cases Hf
    exact r_iret hx hb hr rfl hlocks dX9_line_108 (Nat.le_of_ble_eq_true rfl) (Nat.le_of_ble_eq_true rfl) hP hS
  have Hf := c_i_f Hf hc
  refine lv_iload hx hb dX9_line_56 (lv_at hl 6 rfl) ?_
  refine lv_if_lt hx hb dX9_line_58 (tgt := 107) (by decide) (fun hc => ?_) (fun hc => ?_)
  · have Hf := c_i_t Hf hc
    refine lv_iconst (v := (-1)) hx hb dX9_line_107 (by decide) ?_
    cases Hf
    exact r_iret hx hb hr rfl hlocks dX9_line_108 (Nat.le_of_ble_eq_true rfl) (Nat.le_of_ble_eq_true rfl) hP hS
  have Hf := c_i_f Hf hc
  refine lv_iload hx hb dX9_line_61 (lv_at hl 6 rfl) ?_
  refine lv_bipush (v := 9) hx hb dX9_line_63 (by decide) ?_
  refine lv_icmp_gt hx hb dX9_line_65 (tgt := 107) (by decide) (fun hc => ?_) (fun hc => ?_)
  · have Hf := c_i_t Hf hc
    refine lv_iconst (v := (-1)) hx hb dX9_line_107 (by decide) ?_
    cases Hf
    exact r_iret hx hb hr rfl hlocks dX9_line_108 (Nat.le_of_ble_eq_true rfl) (Nat.le_of_ble_eq_true rfl) hP hS
  have Hf := c_i_f Hf hc
  refine lv_iload hx hb dX9_line_68 (lv_at hl 7 rfl) ?_
  refine lv_if_lt hx hb dX9_line_70 (tgt := 107) (by decide) (fun hc => ?_) (fun hc => ?_)
  · have Hf := c_i_t Hf hc
    refine lv_iconst (v := (-1)) hx hb dX9_line_107 (by decide) ?_
    cases Hf
    exact r_iret hx hb hr rfl hlocks dX9_line_108 (Nat.le_of_ble_eq_true rfl) (Nat.le_of_ble_eq_true rfl) hP hS
  have Hf := c_i_f Hf hc
  refine lv_iload hx hb dX9_line_73 (lv_at hl 7 rfl) ?_
  refine lv_sipush (v := 255) hx hb dX9_line_75 (by decide) ?_
  refine lv_icmp_gt hx hb dX9_line_78 (tgt := 107) (by decide) (fun hc => ?_) (fun hc => ?_)
  · have Hf := c_i_t Hf hc
    refine lv_iconst (v := (-1)) hx hb dX9_line_107 (by decide) ?_
    cases Hf
    exact r_iret hx hb hr rfl hlocks dX9_line_108 (Nat.le_of_ble_eq_true rfl) (Nat.le_of_ble_eq_true rfl) hP hS
  have Hf := c_i_f Hf hc
  refine lv_iload hx hb dX9_line_81 (lv_at hl 7 rfl) ?_
  refine lv_aload_n hx hb dX9_line_83 rfl (lv_at hl 0 rfl) ?_
  obtain ⟨hk_a0, Hf⟩ := c_g_some Hf
  obtain ⟨q84, hq84, Hf⟩ := c_n_some Hf
  refine fg_10_29 hx hb hts hown hK hP hk_a0 lkf_X9_100 hq84 dX9_line_84 ?_
  refine lv_iload_n hx hb dX9_line_87 rfl (lv_at hl 1 rfl) ?_
  obtain ⟨hk_q84, Hf⟩ := c_g_some Hf
  obtain ⟨hi88, Hf⟩ := c_g_some Hf
  refine r_iald hx hb hK hP hk_q84 hi88 dX9_line_88 ?_
  refine lv_ishr hx hb dX9_line_89 ?_
  refine lv_iconst (v := 1) hx hb dX9_line_90 (by decide) ?_
  refine lv_iand hx hb dX9_line_91 ?_
  refine lv_iconst (v := 1) hx hb dX9_line_92 (by decide) ?_
  refine lv_icmp_eq hx hb dX9_line_93 (tgt := 107) (by decide) (fun hc => ?_) (fun hc => ?_)
  · have Hf := c_i_t Hf hc
    refine lv_iconst (v := (-1)) hx hb dX9_line_107 (by decide) ?_
    cases Hf
    exact r_iret hx hb hr rfl hlocks dX9_line_108 (Nat.le_of_ble_eq_true rfl) (Nat.le_of_ble_eq_true rfl) hP hS
  have Hf := c_i_f Hf hc
  refine lv_aload_n hx hb dX9_line_96 rfl (lv_at hl 0 rfl) ?_
  obtain ⟨q97, hq97, Hf⟩ := c_n_some Hf
  refine fg_10_33 hx hb hts hown hK hP hk_a0 lkf_X9_112 hq97 dX9_line_97 ?_
  refine lv_iload_n hx hb dX9_line_100 rfl (lv_at hl 1 rfl) ?_
  obtain ⟨hk_q97, Hf⟩ := c_g_some Hf
  obtain ⟨hi101, Hf⟩ := c_g_some Hf
  refine r_iald hx hb hK hP hk_q97 hi101 dX9_line_101 ?_
  refine lv_bipush (v := 24) hx hb dX9_line_102 (by decide) ?_
  refine lv_icmp_ne hx hb dX9_line_104 (tgt := 109) (by decide) (fun hc => ?_) (fun hc => ?_)
  · have Hf := c_i_f Hf hc
    refine lv_iload_n hx hb dX9_line_109 rfl (lv_at hl 2 rfl) ?_
    refine lv_istore (lv' := [(8, .int x2), (0, .ref a0), (1, .int x1), (2, .int x2), (3, .int x3), (4, .int x4), (5, .int x5), (6, .int x6), (7, .int x7)]) hx hb dX9_line_110 hl (by decide) rfl (fun ls hl => ?_)
    refine (c_w_ind (P := fun (q : st_T × Int32) => ∀ (H : Heap) (locs : List Loc) (ls : Array Slot), st_HP X (st_A S) q.1 H → va_S (st_A S) s.heap H locs → lv_has ls 10 [(0, .ref a0), (1, .int x1), (2, .int x2), (3, .int x3), (4, .int x4), (5, .int x5), (6, .int x6), (7, .int x7), (8, .int q.2)] → W p l e { frames := 2, cells := 0, slots := 0, locals := 47 } s m args below meth c H locs 0 0 (MQ below (st_Q X (st_A S) (some (.int rr)) SE) args s 0 0 (st_A S)) (F0 m 112 ls [])) ?_ _ _ Hf) _ _ _ hP hS (lv_sub hl [1, 2, 3, 4, 5, 6, 7, 8, 0] rfl)
    intro rec112 hrec112 q Hf H locs ls hP hS hl
    obtain ⟨S112, y8_112⟩ := q
    unfold b_X9_line_112 at Hf
    try dsimp only at Hf
    try dsimp only at hP
    try dsimp only at hl
    try dsimp only
    refine lv_iload hx hb dX9_line_112 (lv_at hl 8 rfl) ?_
    refine lv_iload_n hx hb dX9_line_114 rfl (lv_at hl 3 rfl) ?_
    refine lv_icmp_gt hx hb dX9_line_115 (tgt := 136) (by decide) (fun hc => ?_) (fun hc => ?_)
    · have Hf := c_i_t Hf hc
      refine lv_aload_n hx hb dX9_line_136 rfl (lv_at hl 0 rfl) ?_
      obtain ⟨hk_a0, Hf⟩ := c_g_some Hf
      obtain ⟨q137, hq137, Hf⟩ := c_n_some Hf
      refine fg_10_33 hx hb hts hown hK hP hk_a0 lkf_X9_112 hq137 dX9_line_137 ?_
      refine lv_iload_n hx hb dX9_line_140 rfl (lv_at hl 1 rfl) ?_
      obtain ⟨hk_q137, Hf⟩ := c_g_some Hf
      obtain ⟨hi141, Hf⟩ := c_g_some Hf
      refine r_iald hx hb hK hP hk_q137 hi141 dX9_line_141 ?_
      refine lv_topi (fun z8_142 ez8_142 => ?_)
      have Hf := c_l_ren Hf ez8_142
      refine lv_istore (lv' := [(8, .int z8_142), (0, .ref a0), (1, .int x1), (2, .int x2), (3, .int x3), (4, .int x4), (5, .int x5), (6, .int x6), (7, .int x7)]) hx hb dX9_line_142 hl (by decide) rfl (fun ls hl => ?_)
      refine (c_w_ind (P := fun (q : st_T × Int32) => ∀ (H : Heap) (locs : List Loc) (ls : Array Slot), st_HP X (st_A S) q.1 H → va_S (st_A S) s.heap H locs → lv_has ls 10 [(0, .ref a0), (1, .int x1), (2, .int x2), (3, .int x3), (4, .int x4), (5, .int x5), (6, .int x6), (7, .int x7), (8, .int q.2)] → W p l e { frames := 2, cells := 0, slots := 0, locals := 47 } s m args below meth c H locs 0 0 (MQ below (st_Q X (st_A S) (some (.int rr)) SE) args s 0 0 (st_A S)) (F0 m 144 ls [])) ?_ _ _ Hf) _ _ _ hP hS (lv_sub hl [1, 2, 3, 4, 5, 6, 7, 8, 0] rfl)
      intro rec144 hrec144 q Hf H locs ls hP hS hl
      obtain ⟨S144, y8_144⟩ := q
      unfold b_X9_line_144 at Hf
      try dsimp only at Hf
      try dsimp only at hP
      try dsimp only at hl
      try dsimp only
      refine lv_iload hx hb dX9_line_144 (lv_at hl 8 rfl) ?_
      have hJ214 : ∀ (S214 : st_T), j_X9_line_214 a0 x1 x2 x3 x4 x5 x6 x7 y8_144 S214 = some (rr, SE) → ∀ (H : Heap) (locs : List Loc) (ls : Array Slot), st_HP X (st_A S) S214 H → va_S (st_A S) s.heap H locs → lv_has ls 10 [(0, .ref a0), (1, .int x1), (2, .int x2), (3, .int x3), (4, .int x4), (5, .int x5), (6, .int x6), (7, .int x7), (8, .int y8_144)] → W p l e { frames := 2, cells := 0, slots := 0, locals := 47 } s m args below meth c H locs 0 0 (MQ below (st_Q X (st_A S) (some (.int rr)) SE) args s 0 0 (st_A S)) (F0 m 214 ls []) := by
        intro S214 Hf H locs ls hP hS hl
        unfold j_X9_line_214 at Hf
        refine lv_bipush (v := 6) hx hb dX9_line_214 (by decide) ?_
        refine lv_bipush (v := 24) hx hb dX9_line_216 (by decide) ?_
        refine lv_iload_n hx hb dX9_line_218 rfl (lv_at hl 1 rfl) ?_
        refine lv_imul hx hb dX9_line_219 ?_
        refine lv_iload hx hb dX9_line_220 (lv_at hl 8 rfl) ?_
        refine lv_iadd hx hb dX9_line_222 ?_
        refine lv_imul hx hb dX9_line_223 ?_
        refine lv_topi (fun z9_224 ez9_224 => ?_)
        have Hf := c_l_ren Hf ez9_224
        refine lv_istore (lv' := [(9, .int z9_224), (0, .ref a0), (1, .int x1), (2, .int x2), (3, .int x3), (4, .int x4), (5, .int x5), (6, .int x6), (7, .int x7), (8, .int y8_144)]) hx hb dX9_line_224 hl (by decide) rfl (fun ls hl => ?_)
        refine lv_aload_n hx hb dX9_line_226 rfl (lv_at hl 1 rfl) ?_
        obtain ⟨hk_a0, Hf⟩ := c_g_some Hf
        obtain ⟨q227, hq227, Hf⟩ := c_n_some Hf
        refine fg_10_34 hx hb hts hown hK hP hk_a0 lkf_X9_115 hq227 dX9_line_227 ?_
        refine lv_iload hx hb dX9_line_230 (lv_at hl 0 rfl) ?_
        refine lv_iconst (v := 0) hx hb dX9_line_232 (by decide) ?_
        refine lv_iadd hx hb dX9_line_233 ?_
        refine lv_iload_n hx hb dX9_line_234 rfl (lv_at hl 3 rfl) ?_
        obtain ⟨hk_q227, Hf⟩ := c_g_some Hf
        obtain ⟨hi235, Hf⟩ := c_g_some Hf
        refine r_iast hx hb hK hP hS hk_q227 hi235 dX9_line_235 (fun H locs hP hS => ?_)
        obtain ⟨S_235, eS_235, Hf⟩ := c_l_ex Hf
        have hP : st_HP X (st_A S) S_235 H := by rw [eS_235]; exact hP
        refine lv_aload_n hx hb dX9_line_236 rfl (lv_at hl 1 rfl) ?_
        have hk_a0 : st_K S_235 a0 = 11 := by rw [kp_wi eS_235]; exact hk_a0
        have hq227 : st_fr S_235 1034 a0 = some q227 := by rw [fr_wi eS_235]; exact hq227
        refine fg_10_34 hx hb hts hown hK hP hk_a0 lkf_X9_115 hq227 dX9_line_237 ?_
        refine lv_iload hx hb dX9_line_240 (lv_at hl 0 rfl) ?_
        refine lv_iconst (v := 1) hx hb dX9_line_242 (by decide) ?_
        refine lv_iadd hx hb dX9_line_243 ?_
        refine lv_iload_n hx hb dX9_line_244 rfl (lv_at hl 4 rfl) ?_
        have hk_q227 : st_K S_235 q227 = 20 := by rw [kp_wi eS_235]; exact hk_q227
        obtain ⟨hi245, Hf⟩ := c_g_some Hf
        refine r_iast hx hb hK hP hS hk_q227 hi245 dX9_line_245 (fun H locs hP hS => ?_)
        obtain ⟨S_245, eS_245, Hf⟩ := c_l_ex Hf
        have hP : st_HP X (st_A S) S_245 H := by rw [eS_245]; exact hP
        refine lv_aload_n hx hb dX9_line_246 rfl (lv_at hl 1 rfl) ?_
        have hk_a0 : st_K S_245 a0 = 11 := by rw [kp_wi eS_245]; exact hk_a0
        have hq227 : st_fr S_245 1034 a0 = some q227 := by rw [fr_wi eS_245]; exact hq227
        refine fg_10_34 hx hb hts hown hK hP hk_a0 lkf_X9_115 hq227 dX9_line_247 ?_
        refine lv_iload hx hb dX9_line_250 (lv_at hl 0 rfl) ?_
        refine lv_iconst (v := 2) hx hb dX9_line_252 (by decide) ?_
        refine lv_iadd hx hb dX9_line_253 ?_
        refine lv_iload hx hb dX9_line_254 (lv_at hl 5 rfl) ?_
        have hk_q227 : st_K S_245 q227 = 20 := by rw [kp_wi eS_245]; exact hk_q227
        obtain ⟨hi256, Hf⟩ := c_g_some Hf
        refine r_iast hx hb hK hP hS hk_q227 hi256 dX9_line_256 (fun H locs hP hS => ?_)
        obtain ⟨S_256, eS_256, Hf⟩ := c_l_ex Hf
        have hP : st_HP X (st_A S) S_256 H := by rw [eS_256]; exact hP
        refine lv_aload_n hx hb dX9_line_257 rfl (lv_at hl 1 rfl) ?_
        have hk_a0 : st_K S_256 a0 = 11 := by rw [kp_wi eS_256]; exact hk_a0
        have hq227 : st_fr S_256 1034 a0 = some q227 := by rw [fr_wi eS_256]; exact hq227
        refine fg_10_34 hx hb hts hown hK hP hk_a0 lkf_X9_115 hq227 dX9_line_258 ?_
        refine lv_iload hx hb dX9_line_261 (lv_at hl 0 rfl) ?_
        refine lv_iconst (v := 3) hx hb dX9_line_263 (by decide) ?_
        refine lv_iadd hx hb dX9_line_264 ?_
        refine lv_iload hx hb dX9_line_265 (lv_at hl 6 rfl) ?_
        have hk_q227 : st_K S_256 q227 = 20 := by rw [kp_wi eS_256]; exact hk_q227
        obtain ⟨hi267, Hf⟩ := c_g_some Hf
        refine r_iast hx hb hK hP hS hk_q227 hi267 dX9_line_267 (fun H locs hP hS => ?_)
        obtain ⟨S_267, eS_267, Hf⟩ := c_l_ex Hf
        have hP : st_HP X (st_A S) S_267 H := by rw [eS_267]; exact hP
        refine lv_aload_n hx hb dX9_line_268 rfl (lv_at hl 1 rfl) ?_
        have hk_a0 : st_K S_267 a0 = 11 := by rw [kp_wi eS_267]; exact hk_a0
        have hq227 : st_fr S_267 1034 a0 = some q227 := by rw [fr_wi eS_267]; exact hq227
        refine fg_10_34 hx hb hts hown hK hP hk_a0 lkf_X9_115 hq227 dX9_line_269 ?_
        refine lv_iload hx hb dX9_line_272 (lv_at hl 0 rfl) ?_
        refine lv_iconst (v := 4) hx hb dX9_line_274 (by decide) ?_
        refine lv_iadd hx hb dX9_line_275 ?_
        refine lv_iload hx hb dX9_line_276 (lv_at hl 7 rfl) ?_
        have hk_q227 : st_K S_267 q227 = 20 := by rw [kp_wi eS_267]; exact hk_q227
        obtain ⟨hi278, Hf⟩ := c_g_some Hf
        refine r_iast hx hb hK hP hS hk_q227 hi278 dX9_line_278 (fun H locs hP hS => ?_)
        obtain ⟨S_278, eS_278, Hf⟩ := c_l_ex Hf
        have hP : st_HP X (st_A S) S_278 H := by rw [eS_278]; exact hP
        refine lv_aload_n hx hb dX9_line_279 rfl (lv_at hl 1 rfl) ?_
        have hk_a0 : st_K S_278 a0 = 11 := by rw [kp_wi eS_278]; exact hk_a0
        have hq227 : st_fr S_278 1034 a0 = some q227 := by rw [fr_wi eS_278]; exact hq227
        refine fg_10_34 hx hb hts hown hK hP hk_a0 lkf_X9_115 hq227 dX9_line_280 ?_
        refine lv_iload hx hb dX9_line_283 (lv_at hl 0 rfl) ?_
        refine lv_iconst (v := 5) hx hb dX9_line_285 (by decide) ?_
        refine lv_iadd hx hb dX9_line_286 ?_
        refine lv_iload hx hb dX9_line_287 (lv_at hl 8 rfl) ?_
        have hk_q227 : st_K S_278 q227 = 20 := by rw [kp_wi eS_278]; exact hk_q227
        obtain ⟨hi289, Hf⟩ := c_g_some Hf
        refine r_iast hx hb hK hP hS hk_q227 hi289 dX9_line_289 (fun H locs hP hS => ?_)
        obtain ⟨S_289, eS_289, Hf⟩ := c_l_ex Hf
        have hP : st_HP X (st_A S) S_289 H := by rw [eS_289]; exact hP
        refine lv_aload_n hx hb dX9_line_290 rfl (lv_at hl 1 rfl) ?_
        have hk_a0 : st_K S_289 a0 = 11 := by rw [kp_wi eS_289]; exact hk_a0
        obtain ⟨q291, hq291, Hf⟩ := c_n_some Hf
        refine fg_10_33 hx hb hts hown hK hP hk_a0 lkf_X9_112 hq291 dX9_line_291 ?_
        refine lv_iload_n hx hb dX9_line_294 rfl (lv_at hl 2 rfl) ?_
        refine lv_dup2_11 hx hb dX9_line_295 rfl rfl ?_
        obtain ⟨hk_q291, Hf⟩ := c_g_some Hf
        obtain ⟨hi296, Hf⟩ := c_g_some Hf
        refine r_iald hx hb hK hP hk_q291 hi296 dX9_line_296 ?_
        refine lv_iconst (v := 1) hx hb dX9_line_297 (by decide) ?_
        refine lv_iadd hx hb dX9_line_298 ?_
        obtain ⟨hi299, Hf⟩ := c_g_some Hf
        refine r_iast hx hb hK hP hS hk_q291 hi299 dX9_line_299 (fun H locs hP hS => ?_)
        obtain ⟨S_299, eS_299, Hf⟩ := c_l_ex Hf
        have hP : st_HP X (st_A S) S_299 H := by rw [eS_299]; exact hP
        refine lv_aload_n hx hb dX9_line_300 rfl (lv_at hl 1 rfl) ?_
        have hk_a0 : st_K S_299 a0 = 11 := by rw [kp_wi eS_299]; exact hk_a0
        have hq291 : st_fr S_299 1033 a0 = some q291 := by rw [fr_wi eS_299]; exact hq291
        refine fg_10_33 hx hb hts hown hK hP hk_a0 lkf_X9_112 hq291 dX9_line_301 ?_
        refine lv_iload_n hx hb dX9_line_304 rfl (lv_at hl 2 rfl) ?_
        have hk_q291 : st_K S_299 q291 = 20 := by rw [kp_wi eS_299]; exact hk_q291
        obtain ⟨hi305, Hf⟩ := c_g_some Hf
        refine r_iald hx hb hK hP hk_q291 hi305 dX9_line_305 ?_
        cases Hf
        exact r_iret hx hb hr rfl hlocks dX9_line_306 (Nat.le_of_ble_eq_true rfl) (Nat.le_of_ble_eq_true rfl) hP hS
      refine lv_if_le hx hb dX9_line_146 (tgt := 214) (by decide) (fun hc => ?_) (fun hc => ?_)
      · have Hf := c_i_t Hf hc
        exact hJ214 S144 Hf _ _ _ hP hS (lv_sub hl [0, 1, 2, 3, 4, 5, 6, 7, 8] rfl)
      have Hf := c_i_f Hf hc
      refine lv_aload_n hx hb dX9_line_149 rfl (lv_at hl 0 rfl) ?_
      refine lv_iload_n hx hb dX9_line_150 rfl (lv_at hl 1 rfl) ?_
      refine lv_iload hx hb dX9_line_151 (lv_at hl 8 rfl) ?_
      refine lv_iconst (v := 1) hx hb dX9_line_153 (by decide) ?_
      refine lv_isub hx hb dX9_line_154 ?_
      refine lv_iconst (v := 0) hx hb dX9_line_155 (by decide) ?_
      obtain ⟨hk_a0, Hf⟩ := c_g_some Hf
      obtain ⟨r156, T156, hq156, Hf⟩ := c_c_some Hf
      refine r_cV (n := 3) (As := [.int x1, .int (y8_144 - 1), .int 0]) (rest := []) ⟨hx, hb, hml, hown, hts⟩ (s_X9_of l X hq156) lkm_X9_244 (by decide +kernel) rfl (by decide) dX9_line_156 rfl rfl ⟨Nat.le_of_ble_eq_true rfl, Nat.le_of_ble_eq_true rfl⟩ hk_a0 rfl hl.1 (Nat.le_of_ble_eq_true rfl) ⟨Nat.le_of_ble_eq_true rfl, Nat.le_of_ble_eq_true rfl⟩ hK hRO hA hP hS (fun H locs hP hS => ?_)
      refine W.eq (g2 := F0 m 159 ls [.int r156]) rfl ?_
      refine lv_iload_n hx hb dX9_line_159 rfl (lv_at hl 2 rfl) ?_
      refine lv_icmp_le hx hb dX9_line_160 (tgt := 214) (by decide) (fun hc => ?_) (fun hc => ?_)
      · have Hf := c_i_t Hf hc
        exact hJ214 T156 Hf _ _ _ hP hS (lv_sub hl [0, 1, 2, 3, 4, 5, 6, 7, 8] rfl)
      have Hf := c_i_f Hf hc
      refine lv_iconst (v := 0) hx hb dX9_line_163 (by decide) ?_
      refine lv_istore (lv' := [(9, .int 0), (0, .ref a0), (1, .int x1), (2, .int x2), (3, .int x3), (4, .int x4), (5, .int x5), (6, .int x6), (7, .int x7), (8, .int y8_144)]) hx hb dX9_line_164 hl (by decide) rfl (fun ls hl => ?_)
      refine (c_w_ind (P := fun (q : st_T × Int32) => ∀ (H : Heap) (locs : List Loc) (ls : Array Slot), st_HP X (st_A S) q.1 H → va_S (st_A S) s.heap H locs → lv_has ls 10 [(0, .ref a0), (1, .int x1), (2, .int x2), (3, .int x3), (4, .int x4), (5, .int x5), (6, .int x6), (7, .int x7), (8, .int y8_144), (9, .int q.2)] → W p l e { frames := 2, cells := 0, slots := 0, locals := 47 } s m args below meth c H locs 0 0 (MQ below (st_Q X (st_A S) (some (.int rr)) SE) args s 0 0 (st_A S)) (F0 m 166 ls [])) ?_ _ _ Hf) _ _ _ hP hS (lv_sub hl [1, 2, 3, 4, 5, 6, 7, 8, 9, 0] rfl)
      intro rec166 hrec166 q Hf H locs ls hP hS hl
      obtain ⟨S166, y9_166⟩ := q
      unfold b_X9_line_166 at Hf
      try dsimp only at Hf
      try dsimp only at hP
      try dsimp only at hl
      try dsimp only
      refine lv_iload hx hb dX9_line_166 (lv_at hl 9 rfl) ?_
      refine lv_bipush (v := 6) hx hb dX9_line_168 (by decide) ?_
      refine lv_icmp_ge hx hb dX9_line_170 (tgt := 208) (by decide) (fun hc => ?_) (fun hc => ?_)
      · have Hf := c_i_t Hf hc
        refine lv_iinc (v := (y8_144 + (-1))) (lv' := [(8, .int (y8_144 + (-1))), (0, .ref a0), (1, .int x1), (2, .int x2), (3, .int x3), (4, .int x4), (5, .int x5), (6, .int x6), (7, .int x7), (9, .int y9_166)]) hx hb dX9_line_208 hl (k := 8) rfl rfl (by decide) rfl (fun ls hl => ?_)
        refine lv_goto hx hb dX9_line_211 (tgt := 144) (by decide) ?_
        exact hrec144 (S166, (y8_144 + (-1))) Hf _ _ _ hP hS (lv_sub hl [1, 2, 3, 4, 5, 6, 7, 8, 0] rfl)
      have Hf := c_i_f Hf hc
      refine lv_aload_n hx hb dX9_line_173 rfl (lv_at hl 0 rfl) ?_
      obtain ⟨hk_a0, Hf⟩ := c_g_some Hf
      obtain ⟨q174, hq174, Hf⟩ := c_n_some Hf
      refine fg_10_34 hx hb hts hown hK hP hk_a0 lkf_X9_115 hq174 dX9_line_174 ?_
      refine lv_bipush (v := 6) hx hb dX9_line_177 (by decide) ?_
      refine lv_bipush (v := 24) hx hb dX9_line_179 (by decide) ?_
      refine lv_iload_n hx hb dX9_line_181 rfl (lv_at hl 1 rfl) ?_
      refine lv_imul hx hb dX9_line_182 ?_
      refine lv_iload hx hb dX9_line_183 (lv_at hl 8 rfl) ?_
      refine lv_iadd hx hb dX9_line_185 ?_
      refine lv_imul hx hb dX9_line_186 ?_
      refine lv_iload hx hb dX9_line_187 (lv_at hl 9 rfl) ?_
      refine lv_iadd hx hb dX9_line_189 ?_
      refine lv_aload_n hx hb dX9_line_190 rfl (lv_at hl 0 rfl) ?_
      refine lv_iload_n hx hb dX9_line_191 rfl (lv_at hl 1 rfl) ?_
      refine lv_iload hx hb dX9_line_192 (lv_at hl 8 rfl) ?_
      refine lv_iconst (v := 1) hx hb dX9_line_194 (by decide) ?_
      refine lv_isub hx hb dX9_line_195 ?_
      refine lv_iload hx hb dX9_line_196 (lv_at hl 9 rfl) ?_
      obtain ⟨r198, T198, hq198, Hf⟩ := c_c_some Hf
      refine r_cV (n := 3) (As := [.int x1, .int (y8_144 - 1), .int y9_166]) (rest := [.int ((6 * ((24 * x1) + y8_144)) + y9_166), .ref q174]) ⟨hx, hb, hml, hown, hts⟩ (s_X9_of l X hq198) lkm_X9_244 (by decide +kernel) rfl (by decide) dX9_line_198 rfl rfl ⟨Nat.le_of_ble_eq_true rfl, Nat.le_of_ble_eq_true rfl⟩ hk_a0 rfl hl.1 (Nat.le_of_ble_eq_true rfl) ⟨Nat.le_of_ble_eq_true rfl, Nat.le_of_ble_eq_true rfl⟩ hK hRO hA hP hS (fun H locs hP hS => ?_)
      refine W.eq (g2 := F0 m 201 ls [.int r198, .int ((6 * ((24 * x1) + y8_144)) + y9_166), .ref q174]) rfl ?_
      obtain ⟨hk_q174, Hf⟩ := c_g_some Hf
      obtain ⟨hi201, Hf⟩ := c_g_some Hf
      refine r_iast hx hb hK hP hS hk_q174 hi201 dX9_line_201 (fun H locs hP hS => ?_)
      obtain ⟨S_201, eS_201, Hf⟩ := c_l_ex Hf
      have hP : st_HP X (st_A S) S_201 H := by rw [eS_201]; exact hP
      refine lv_iinc (v := (y9_166 + 1)) (lv' := [(9, .int (y9_166 + 1)), (0, .ref a0), (1, .int x1), (2, .int x2), (3, .int x3), (4, .int x4), (5, .int x5), (6, .int x6), (7, .int x7), (8, .int y8_144)]) hx hb dX9_line_202 hl (k := 9) rfl rfl (by decide) rfl (fun ls hl => ?_)
      refine lv_goto hx hb dX9_line_205 (tgt := 166) (by decide) ?_
      exact hrec166 (S_201, (y9_166 + 1)) Hf _ _ _ hP hS (lv_sub hl [1, 2, 3, 4, 5, 6, 7, 8, 9, 0] rfl)
    have Hf := c_i_f Hf hc
    refine lv_aload_n hx hb dX9_line_118 rfl (lv_at hl 0 rfl) ?_
    refine lv_iload_n hx hb dX9_line_119 rfl (lv_at hl 1 rfl) ?_
    refine lv_iload hx hb dX9_line_120 (lv_at hl 8 rfl) ?_
    obtain ⟨hk_a0, Hf⟩ := c_g_some Hf
    obtain ⟨r122, T122, hq122, Hf⟩ := c_c_some Hf
    refine r_cV (n := 2) (As := [.int x1, .int y8_112]) (rest := []) ⟨hx, hb, hml, hown, hts⟩ (s_X9_lineAt l X hq122) lkm_X9_250 (by decide +kernel) rfl (by decide) dX9_line_122 rfl rfl ⟨Nat.le_of_ble_eq_true rfl, Nat.le_of_ble_eq_true rfl⟩ hk_a0 rfl hl.1 (Nat.le_of_ble_eq_true rfl) ⟨Nat.le_of_ble_eq_true rfl, Nat.le_of_ble_eq_true rfl⟩ hK hRO hA hP hS (fun H locs hP hS => ?_)
    refine W.eq (g2 := F0 m 125 ls [.int r122]) rfl ?_
    refine lv_if_lt hx hb dX9_line_125 (tgt := 130) (by decide) (fun hc => ?_) (fun hc => ?_)
    · have Hf := c_i_t Hf hc
      refine lv_iinc (v := (y8_112 + 1)) (lv' := [(8, .int (y8_112 + 1)), (0, .ref a0), (1, .int x1), (2, .int x2), (3, .int x3), (4, .int x4), (5, .int x5), (6, .int x6), (7, .int x7)]) hx hb dX9_line_130 hl (k := 8) rfl rfl (by decide) rfl (fun ls hl => ?_)
      refine lv_goto hx hb dX9_line_133 (tgt := 112) (by decide) ?_
      exact hrec112 (T122, (y8_112 + 1)) Hf _ _ _ hP hS (lv_sub hl [1, 2, 3, 4, 5, 6, 7, 8, 0] rfl)
    have Hf := c_i_f Hf hc
    refine lv_iconst (v := (-1)) hx hb dX9_line_128 (by decide) ?_
    cases Hf
    exact r_iret hx hb hr rfl hlocks dX9_line_129 (Nat.le_of_ble_eq_true rfl) (Nat.le_of_ble_eq_true rfl) hP hS
  have Hf := c_i_t Hf hc
  refine lv_iconst (v := (-1)) hx hb dX9_line_107 (by decide) ?_
  cases Hf
  exact r_iret hx hb hr rfl hlocks dX9_line_108 (Nat.le_of_ble_eq_true rfl) (Nat.le_of_ble_eq_true rfl) hP hS
