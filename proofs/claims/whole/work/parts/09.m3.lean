def b_X9_codeBy_241 (a0 : Nat) (rec241 : st_T × Int32 → Option (Int32 × st_T)) (q : st_T × Int32) : Option (Int32 × st_T) :=
  (fun (S241 : st_T) (y6_241 : Int32) =>
  (c_g (st_K S241 a0 = 11) (c_n (st_fr S241 1012 a0) (fun (q251 : Nat) => (c_g (st_K S241 q251 = 20) (c_g (c_in (st_fi S241 1011 a0) (st_ln S241 q251)) (c_i (((24 * (st_fi S241 1011 a0)) + (st_ri S241 q251 ((st_fi S241 1011 a0) : Int32).toNatClampNeg)) ≤ y6_241) (some ((-1), S241)) (c_n (st_fr S241 1015 a0) (fun (q273 : Nat) => (c_g (st_K S241 q273 = 20) (c_g (c_in y6_241 (st_ln S241 q273)) (c_c (f_X9_worth S241 a0 ((880 * (st_fi S241 1011 a0)) + (st_ri S241 q273 (y6_241 : Int32).toNatClampNeg))) (fun (r280 : Int32) (T280 : st_T) => (c_i (r280 = 0) (rec241 (T280, (y6_241 + 1))) (c_g (st_K T280 a0 = 11) (c_n (st_fr T280 1014 a0) (fun (q287 : Nat) => (c_g (st_K T280 q287 = 20) (c_g (c_in y6_241 (st_ln T280 q287)) (some ((st_ri T280 q287 (y6_241 : Int32).toNatClampNeg), T280))))))))))))))))))))) q.1 q.2
def j_X9_codeBy_206 (a0 : Nat) (x1 : Int32) (q186 : Nat) (S206 : st_T) (u0_206 : Int32) : Option (Int32 × st_T) :=
  (c_g (st_K S206 q186 = 20) (c_g (c_in 4 (st_ln S206 q186)) (c_l (st_wi S206 q186 (4 : Int32).toNatClampNeg u0_206) (fun (S_206 : st_T) => (c_g (st_K S_206 a0 = 11) (c_n (st_fr S_206 1023 a0) (fun (q208 : Nat) => (c_n (st_fr S_206 1031 a0) (fun (q213 : Nat) => (c_g (st_K S_206 q213 = 20) (c_g (c_in x1 (st_ln S_206 q213)) (c_g (st_K S_206 q208 = 20) (c_g (c_in 5 (st_ln S_206 q208)) (c_l (st_wi S_206 q208 (5 : Int32).toNatClampNeg (st_ri S_206 q213 (x1 : Int32).toNatClampNeg)) (fun (S_218 : st_T) => (c_n (st_fr S_218 1030 a0) (fun (q226 : Nat) => (c_g (st_K S_218 q226 = 20) (c_g (c_in x1 (st_ln S_218 q226)) (c_g (c_in 6 (st_ln S_218 q208)) (c_l (st_wi S_218 q208 (6 : Int32).toNatClampNeg (st_ri S_218 q226 (x1 : Int32).toNatClampNeg)) (fun (S_231 : st_T) => (c_l (24 * (st_fi S_231 1011 a0)) (fun (z6_239 : Int32) => (c_w (b_X9_codeBy_241 a0) c_N (S_231, z6_239))))))))))))))))))))))))))
def j_X9_codeBy_127 (a0 : Nat) (x1 : Int32) (x2 : Int32) (y5_24 : Int32) (q98 : Nat) (S127 : st_T) (u0_127 : Int32) : Option (Int32 × st_T) :=
  (c_g (st_K S127 q98 = 20) (c_g (c_in 2 (st_ln S127 q98)) (c_l (st_wi S127 q98 (2 : Int32).toNatClampNeg u0_127) (fun (S_127 : st_T) => (c_g (st_K S_127 a0 = 11) (c_n (st_fr S_127 1023 a0) (fun (q129 : Nat) => (c_c (f_X9_of S_127 a0 x1 x2 4) (fun (r137 : Int32) (T137 : st_T) => (c_g (st_K T137 q129 = 20) (c_g (c_in 0 (st_ln T137 q129)) (c_l (st_wi T137 q129 (0 : Int32).toNatClampNeg r137) (fun (S_140 : st_T) => (c_g (st_K S_140 a0 = 11) (c_n (st_fr S_140 1023 a0) (fun (q142 : Nat) => (c_g (st_K S_140 q142 = 20) (c_g (c_in 1 (st_ln S_140 q142)) (c_l (st_wi S_140 q142 (1 : Int32).toNatClampNeg y5_24) (fun (S_148 : st_T) => (c_c (f_X9_of S_148 a0 x1 x2 0) (fun (r158 : Int32) (T158 : st_T) => (c_g (st_K T158 q142 = 20) (c_g (c_in 2 (st_ln T158 q142)) (c_l (st_wi T158 q142 (2 : Int32).toNatClampNeg r158) (fun (S_161 : st_T) => (c_g (st_K S_161 a0 = 11) (c_n (st_fr S_161 1023 a0) (fun (q163 : Nat) => (c_c (f_X9_of S_161 a0 x1 x2 1) (fun (r171 : Int32) (T171 : st_T) => (c_g (st_K T171 a0 = 11) (c_c (f_X9_of T171 a0 x1 x2 0) (fun (r178 : Int32) (T178 : st_T) => (c_g (st_K T178 q163 = 20) (c_g (c_in 3 (st_ln T178 q163)) (c_l (st_wi T178 q163 (3 : Int32).toNatClampNeg ((r171 - r178) + 1)) (fun (S_184 : st_T) => (c_g (st_K S_184 a0 = 11) (c_n (st_fr S_184 1023 a0) (fun (q186 : Nat) => (c_i (x2 = 0) (j_X9_codeBy_206 a0 x1 q186 S_184 (-1)) (c_n (st_fr S_184 1035 a0) (fun (q199 : Nat) => (c_g (st_K S_184 q199 = 20) (c_g (c_in (x2 - 1) (st_ln S_184 q199)) (j_X9_codeBy_206 a0 x1 q186 S_184 (st_ri S_184 q199 ((x2 - 1) : Int32).toNatClampNeg))))))))))))))))))))))))))))))))))))))))))))))))
def j_X9_codeBy_96 (a0 : Nat) (x1 : Int32) (x2 : Int32) (y5_24 : Int32) (q77 : Nat) (S96 : st_T) (u0_96 : Int32) : Option (Int32 × st_T) :=
  (c_g (st_K S96 q77 = 20) (c_g (c_in 1 (st_ln S96 q77)) (c_l (st_wi S96 q77 (1 : Int32).toNatClampNeg u0_96) (fun (S_96 : st_T) => (c_g (st_K S_96 a0 = 11) (c_n (st_fr S_96 1024 a0) (fun (q98 : Nat) => (c_n (st_fr S_96 1033 a0) (fun (q106 : Nat) => (c_g (st_K S_96 q106 = 20) (c_g (c_in x1 (st_ln S_96 q106)) (c_i ((st_ri S_96 q106 (x1 : Int32).toNatClampNeg) ≤ (x2 + 1)) (j_X9_codeBy_127 a0 x1 x2 y5_24 q98 S_96 0) (c_c (f_X9_of S_96 a0 x1 (x2 + 1) 2) (fun (r120 : Int32) (T120 : st_T) => (j_X9_codeBy_127 a0 x1 x2 y5_24 q98 T120 r120)))))))))))))))
def j_X9_codeBy_75 (a0 : Nat) (x1 : Int32) (x2 : Int32) (x3 : Int32) (y5_24 : Int32) (q50 : Nat) (S75 : st_T) (u0_75 : Int32) : Option (Int32 × st_T) :=
  (c_g (st_K S75 q50 = 20) (c_g (c_in 0 (st_ln S75 q50)) (c_l (st_wi S75 q50 (0 : Int32).toNatClampNeg u0_75) (fun (S_75 : st_T) => (c_g (st_K S_75 a0 = 11) (c_n (st_fr S_75 1024 a0) (fun (q77 : Nat) => (c_i (x3 = 0) (c_c (f_X9_of S_75 a0 x1 x2 3) (fun (r93 : Int32) (T93 : st_T) => (j_X9_codeBy_96 a0 x1 x2 y5_24 q77 T93 r93))) (j_X9_codeBy_96 a0 x1 x2 y5_24 q77 S_75 0)))))))))
def b_X9_codeBy_24 (a0 : Nat) (x1 : Int32) (x2 : Int32) (x3 : Int32) (r13 : Int32) (rec24 : st_T × Int32 × Int32 → Option (Int32 × st_T)) (q : st_T × Int32 × Int32) : Option (Int32 × st_T) :=
  (fun (S24 : st_T) (y5_24 : Int32) (y6_24 : Int32) =>
  (c_i (8 ≤ y6_24) (c_g (st_K S24 a0 = 11) (c_n (st_fr S24 1024 a0) (fun (q50 : Nat) => (c_i (x3 = 0) (c_c (f_X9_of S24 a0 x1 x2 2) (fun (r72 : Int32) (T72 : st_T) => (j_X9_codeBy_75 a0 x1 x2 x3 y5_24 q50 T72 r72))) (c_c (f_X9_of S24 a0 x1 x2 3) (fun (r62 : Int32) (T62 : st_T) => (j_X9_codeBy_75 a0 x1 x2 x3 y5_24 q50 T62 r62))))))) (c_l (y5_24 + ((r13 >>> (y6_24 &&& 31)) &&& 1)) (fun (z5_41 : Int32) => (rec24 (S24, z5_41, (y6_24 + 1))))))) q.1 q.2.1 q.2.2
def f_X9_codeBy (S : st_T) (a0 : Nat) (x1 : Int32) (x2 : Int32) (x3 : Int32) : Option (Int32 × st_T) :=
  (c_g (st_K S a0 = 11) (c_i (0 ≤ (st_fi S 1011 a0)) (c_c (f_X9_of S a0 x1 x2 5) (fun (r13 : Int32) (T13 : st_T) => (c_w (b_X9_codeBy_24 a0 x1 x2 x3 r13) c_N (T13, 0, 0)))) (some ((-1), S))))
set_option maxRecDepth 100000 in
set_option maxHeartbeats 4000000 in
theorem s_X9_codeBy (l : Launch) (X : st_I) {S SE : st_T} {a0 : Nat} {x1 : Int32} {x2 : Int32} {x3 : Int32} {rr : Int32} (Hf : f_X9_codeBy S a0 x1 x2 x3 = some (rr, SE)) : Met l yX9_codeBy (Cond.code yX9_codeBy cX9_codeBy 7 (some .int) :: lw_g) { frames := 2, cells := 0, slots := 0, locals := 49 } (st_P X S [.ref a0, .int x1, .int x2, .int x3]) (st_Q X (st_A S) (some (.int rr)) SE) 0 0 (st_A S) := by
  refine st_ofW (by decide) (Nat.le_of_ble_eq_true rfl) ?_
  intro p e s m args below meth c hx hb hr hml hlocks hnm hts hown hK hRO hA hP hS ls hl
  have hown : s.vm.findClass RX9 = some m.cls := hown
  have hl : lv_has ls 7 [(0, .ref a0), (1, .int x1), (2, .int x2), (3, .int x3)] := hl
  unfold f_X9_codeBy at Hf
  refine lv_aload_n hx hb dX9_codeBy_0 rfl (lv_at hl 0 rfl) ?_
  obtain ⟨hk_a0, Hf⟩ := c_g_some Hf
  refine fg_10_11 hx hb hts hown hK hP hk_a0 lkf_X9_54 dX9_codeBy_1 ?_
  refine lv_if_ge hx hb dX9_codeBy_4 (tgt := 9) (by decide) (fun hc => ?_) (fun hc => ?_)
  · have Hf := c_i_t Hf hc
    refine lv_aload_n hx hb dX9_codeBy_9 rfl (lv_at hl 0 rfl) ?_
    refine lv_iload_n hx hb dX9_codeBy_10 rfl (lv_at hl 1 rfl) ?_
    refine lv_iload_n hx hb dX9_codeBy_11 rfl (lv_at hl 2 rfl) ?_
    refine lv_iconst (v := 5) hx hb dX9_codeBy_12 (by decide) ?_
    obtain ⟨r13, T13, hq13, Hf⟩ := c_c_some Hf
    refine r_cV (n := 3) (As := [.int x1, .int x2, .int 5]) (rest := []) ⟨hx, hb, hml, hown, hts⟩ (s_X9_of l X hq13) lkm_X9_244 (by decide +kernel) rfl (by decide) dX9_codeBy_13 rfl rfl ⟨Nat.le_of_ble_eq_true rfl, Nat.le_of_ble_eq_true rfl⟩ hk_a0 rfl hl.1 (Nat.le_of_ble_eq_true rfl) ⟨Nat.le_of_ble_eq_true rfl, Nat.le_of_ble_eq_true rfl⟩ hK hRO hA hP hS (fun H locs hP hS => ?_)
    refine W.eq (g2 := F0 m 16 ls [.int r13]) rfl ?_
    refine lv_istore (lv' := [(4, .int r13), (0, .ref a0), (1, .int x1), (2, .int x2), (3, .int x3)]) hx hb dX9_codeBy_16 hl (by decide) rfl (fun ls hl => ?_)
    refine lv_iconst (v := 0) hx hb dX9_codeBy_18 (by decide) ?_
    refine lv_istore (lv' := [(5, .int 0), (4, .int r13), (0, .ref a0), (1, .int x1), (2, .int x2), (3, .int x3)]) hx hb dX9_codeBy_19 hl (by decide) rfl (fun ls hl => ?_)
    refine lv_iconst (v := 0) hx hb dX9_codeBy_21 (by decide) ?_
    refine lv_istore (lv' := [(6, .int 0), (5, .int 0), (4, .int r13), (0, .ref a0), (1, .int x1), (2, .int x2), (3, .int x3)]) hx hb dX9_codeBy_22 hl (by decide) rfl (fun ls hl => ?_)
    refine (c_w_ind (P := fun (q : st_T × Int32 × Int32) => ∀ (H : Heap) (locs : List Loc) (ls : Array Slot), st_HP X (st_A S) q.1 H → va_S (st_A S) s.heap H locs → lv_has ls 7 [(0, .ref a0), (1, .int x1), (2, .int x2), (3, .int x3), (4, .int r13), (5, .int q.2.1), (6, .int q.2.2)] → W p l e { frames := 2, cells := 0, slots := 0, locals := 49 } s m args below meth c H locs 0 0 (MQ below (st_Q X (st_A S) (some (.int rr)) SE) args s 0 0 (st_A S)) (F0 m 24 ls [])) ?_ _ _ Hf) _ _ _ hP hS (lv_sub hl [3, 4, 5, 6, 2, 1, 0] rfl)
    intro rec24 hrec24 q Hf H locs ls hP hS hl
    obtain ⟨S24, y5_24, y6_24⟩ := q
    unfold b_X9_codeBy_24 at Hf
    try dsimp only at Hf
    try dsimp only at hP
    try dsimp only at hl
    try dsimp only
    refine lv_iload hx hb dX9_codeBy_24 (lv_at hl 6 rfl) ?_
    refine lv_bipush (v := 8) hx hb dX9_codeBy_26 (by decide) ?_
    refine lv_icmp_ge hx hb dX9_codeBy_28 (tgt := 49) (by decide) (fun hc => ?_) (fun hc => ?_)
    · have Hf := c_i_t Hf hc
      refine lv_aload_n hx hb dX9_codeBy_49 rfl (lv_at hl 0 rfl) ?_
      obtain ⟨hk_a0, Hf⟩ := c_g_some Hf
      obtain ⟨q50, hq50, Hf⟩ := c_n_some Hf
      refine fg_10_24 hx hb hts hown hK hP hk_a0 lkf_X9_88 hq50 dX9_codeBy_50 ?_
      refine lv_iconst (v := 0) hx hb dX9_codeBy_53 (by decide) ?_
      refine lv_iload_n hx hb dX9_codeBy_54 rfl (lv_at hl 3 rfl) ?_
      have hJ75 : ∀ (S75 : st_T) (u0_75 : Int32), j_X9_codeBy_75 a0 x1 x2 x3 y5_24 q50 S75 u0_75 = some (rr, SE) → ∀ (H : Heap) (locs : List Loc) (ls : Array Slot), st_HP X (st_A S) S75 H → va_S (st_A S) s.heap H locs → lv_has ls 7 [(0, .ref a0), (1, .int x1), (2, .int x2), (3, .int x3), (5, .int y5_24)] → W p l e { frames := 2, cells := 0, slots := 0, locals := 49 } s m args below meth c H locs 0 0 (MQ below (st_Q X (st_A S) (some (.int rr)) SE) args s 0 0 (st_A S)) (F0 m 75 ls [.int u0_75, .int 0, .ref q50]) := by
        intro S75 u0_75 Hf H locs ls hP hS hl
        unfold j_X9_codeBy_75 at Hf
        obtain ⟨hk_q50, Hf⟩ := c_g_some Hf
        obtain ⟨hi75, Hf⟩ := c_g_some Hf
        refine r_iast hx hb hK hP hS hk_q50 hi75 dX9_codeBy_75 (fun H locs hP hS => ?_)
        obtain ⟨S_75, eS_75, Hf⟩ := c_l_ex Hf
        have hP : st_HP X (st_A S) S_75 H := by rw [eS_75]; exact hP
        refine lv_aload_n hx hb dX9_codeBy_76 rfl (lv_at hl 0 rfl) ?_
        obtain ⟨hk_a0, Hf⟩ := c_g_some Hf
        obtain ⟨q77, hq77, Hf⟩ := c_n_some Hf
        refine fg_10_24 hx hb hts hown hK hP hk_a0 lkf_X9_88 hq77 dX9_codeBy_77 ?_
        refine lv_iconst (v := 1) hx hb dX9_codeBy_80 (by decide) ?_
        refine lv_iload_n hx hb dX9_codeBy_81 rfl (lv_at hl 3 rfl) ?_
        have hJ96 : ∀ (S96 : st_T) (u0_96 : Int32), j_X9_codeBy_96 a0 x1 x2 y5_24 q77 S96 u0_96 = some (rr, SE) → ∀ (H : Heap) (locs : List Loc) (ls : Array Slot), st_HP X (st_A S) S96 H → va_S (st_A S) s.heap H locs → lv_has ls 7 [(0, .ref a0), (1, .int x1), (2, .int x2), (5, .int y5_24)] → W p l e { frames := 2, cells := 0, slots := 0, locals := 49 } s m args below meth c H locs 0 0 (MQ below (st_Q X (st_A S) (some (.int rr)) SE) args s 0 0 (st_A S)) (F0 m 96 ls [.int u0_96, .int 1, .ref q77]) := by
          intro S96 u0_96 Hf H locs ls hP hS hl
          unfold j_X9_codeBy_96 at Hf
          obtain ⟨hk_q77, Hf⟩ := c_g_some Hf
          obtain ⟨hi96, Hf⟩ := c_g_some Hf
          refine r_iast hx hb hK hP hS hk_q77 hi96 dX9_codeBy_96 (fun H locs hP hS => ?_)
          obtain ⟨S_96, eS_96, Hf⟩ := c_l_ex Hf
          have hP : st_HP X (st_A S) S_96 H := by rw [eS_96]; exact hP
          refine lv_aload_n hx hb dX9_codeBy_97 rfl (lv_at hl 0 rfl) ?_
          obtain ⟨hk_a0, Hf⟩ := c_g_some Hf
          obtain ⟨q98, hq98, Hf⟩ := c_n_some Hf
          refine fg_10_24 hx hb hts hown hK hP hk_a0 lkf_X9_88 hq98 dX9_codeBy_98 ?_
          refine lv_iconst (v := 2) hx hb dX9_codeBy_101 (by decide) ?_
          refine lv_iload_n hx hb dX9_codeBy_102 rfl (lv_at hl 2 rfl) ?_
          refine lv_iconst (v := 1) hx hb dX9_codeBy_103 (by decide) ?_
          refine lv_iadd hx hb dX9_codeBy_104 ?_
          refine lv_aload_n hx hb dX9_codeBy_105 rfl (lv_at hl 0 rfl) ?_
          obtain ⟨q106, hq106, Hf⟩ := c_n_some Hf
          refine fg_10_33 hx hb hts hown hK hP hk_a0 lkf_X9_112 hq106 dX9_codeBy_106 ?_
          refine lv_iload_n hx hb dX9_codeBy_109 rfl (lv_at hl 1 rfl) ?_
          obtain ⟨hk_q106, Hf⟩ := c_g_some Hf
          obtain ⟨hi110, Hf⟩ := c_g_some Hf
          refine r_iald hx hb hK hP hk_q106 hi110 dX9_codeBy_110 ?_
          have hJ127 : ∀ (S127 : st_T) (u0_127 : Int32), j_X9_codeBy_127 a0 x1 x2 y5_24 q98 S127 u0_127 = some (rr, SE) → ∀ (H : Heap) (locs : List Loc) (ls : Array Slot), st_HP X (st_A S) S127 H → va_S (st_A S) s.heap H locs → lv_has ls 7 [(0, .ref a0), (1, .int x1), (2, .int x2), (5, .int y5_24)] → W p l e { frames := 2, cells := 0, slots := 0, locals := 49 } s m args below meth c H locs 0 0 (MQ below (st_Q X (st_A S) (some (.int rr)) SE) args s 0 0 (st_A S)) (F0 m 127 ls [.int u0_127, .int 2, .ref q98]) := by
            intro S127 u0_127 Hf H locs ls hP hS hl
            unfold j_X9_codeBy_127 at Hf
            obtain ⟨hk_q98, Hf⟩ := c_g_some Hf
            obtain ⟨hi127, Hf⟩ := c_g_some Hf
            refine r_iast hx hb hK hP hS hk_q98 hi127 dX9_codeBy_127 (fun H locs hP hS => ?_)
            obtain ⟨S_127, eS_127, Hf⟩ := c_l_ex Hf
            have hP : st_HP X (st_A S) S_127 H := by rw [eS_127]; exact hP
            refine lv_aload_n hx hb dX9_codeBy_128 rfl (lv_at hl 0 rfl) ?_
            obtain ⟨hk_a0, Hf⟩ := c_g_some Hf
            obtain ⟨q129, hq129, Hf⟩ := c_n_some Hf
            refine fg_10_23 hx hb hts hown hK hP hk_a0 lkf_X9_85 hq129 dX9_codeBy_129 ?_
            refine lv_iconst (v := 0) hx hb dX9_codeBy_132 (by decide) ?_
            refine lv_aload_n hx hb dX9_codeBy_133 rfl (lv_at hl 0 rfl) ?_
            refine lv_iload_n hx hb dX9_codeBy_134 rfl (lv_at hl 1 rfl) ?_
            refine lv_iload_n hx hb dX9_codeBy_135 rfl (lv_at hl 2 rfl) ?_
            refine lv_iconst (v := 4) hx hb dX9_codeBy_136 (by decide) ?_
            obtain ⟨r137, T137, hq137, Hf⟩ := c_c_some Hf
            refine r_cV (n := 3) (As := [.int x1, .int x2, .int 4]) (rest := [.int 0, .ref q129]) ⟨hx, hb, hml, hown, hts⟩ (s_X9_of l X hq137) lkm_X9_244 (by decide +kernel) rfl (by decide) dX9_codeBy_137 rfl rfl ⟨Nat.le_of_ble_eq_true rfl, Nat.le_of_ble_eq_true rfl⟩ hk_a0 rfl hl.1 (Nat.le_of_ble_eq_true rfl) ⟨Nat.le_of_ble_eq_true rfl, Nat.le_of_ble_eq_true rfl⟩ hK hRO hA hP hS (fun H locs hP hS => ?_)
            refine W.eq (g2 := F0 m 140 ls [.int r137, .int 0, .ref q129]) rfl ?_
            obtain ⟨hk_q129, Hf⟩ := c_g_some Hf
            obtain ⟨hi140, Hf⟩ := c_g_some Hf
            refine r_iast hx hb hK hP hS hk_q129 hi140 dX9_codeBy_140 (fun H locs hP hS => ?_)
            obtain ⟨S_140, eS_140, Hf⟩ := c_l_ex Hf
            have hP : st_HP X (st_A S) S_140 H := by rw [eS_140]; exact hP
            refine lv_aload_n hx hb dX9_codeBy_141 rfl (lv_at hl 0 rfl) ?_
            obtain ⟨hk_a0, Hf⟩ := c_g_some Hf
            obtain ⟨q142, hq142, Hf⟩ := c_n_some Hf
            refine fg_10_23 hx hb hts hown hK hP hk_a0 lkf_X9_85 hq142 dX9_codeBy_142 ?_
            refine lv_iconst (v := 1) hx hb dX9_codeBy_145 (by decide) ?_
            refine lv_iload hx hb dX9_codeBy_146 (lv_at hl 3 rfl) ?_
            obtain ⟨hk_q142, Hf⟩ := c_g_some Hf
            obtain ⟨hi148, Hf⟩ := c_g_some Hf
            refine r_iast hx hb hK hP hS hk_q142 hi148 dX9_codeBy_148 (fun H locs hP hS => ?_)
            obtain ⟨S_148, eS_148, Hf⟩ := c_l_ex Hf
            have hP : st_HP X (st_A S) S_148 H := by rw [eS_148]; exact hP
            refine lv_aload_n hx hb dX9_codeBy_149 rfl (lv_at hl 0 rfl) ?_
            have hk_a0 : st_K S_148 a0 = 11 := by rw [kp_wi eS_148]; exact hk_a0
            have hq142 : st_fr S_148 1023 a0 = some q142 := by rw [fr_wi eS_148]; exact hq142
            refine fg_10_23 hx hb hts hown hK hP hk_a0 lkf_X9_85 hq142 dX9_codeBy_150 ?_
            refine lv_iconst (v := 2) hx hb dX9_codeBy_153 (by decide) ?_
            refine lv_aload_n hx hb dX9_codeBy_154 rfl (lv_at hl 0 rfl) ?_
            refine lv_iload_n hx hb dX9_codeBy_155 rfl (lv_at hl 1 rfl) ?_
            refine lv_iload_n hx hb dX9_codeBy_156 rfl (lv_at hl 2 rfl) ?_
            refine lv_iconst (v := 0) hx hb dX9_codeBy_157 (by decide) ?_
            obtain ⟨r158, T158, hq158, Hf⟩ := c_c_some Hf
            refine r_cV (n := 3) (As := [.int x1, .int x2, .int 0]) (rest := [.int 2, .ref q142]) ⟨hx, hb, hml, hown, hts⟩ (s_X9_of l X hq158) lkm_X9_244 (by decide +kernel) rfl (by decide) dX9_codeBy_158 rfl rfl ⟨Nat.le_of_ble_eq_true rfl, Nat.le_of_ble_eq_true rfl⟩ hk_a0 rfl hl.1 (Nat.le_of_ble_eq_true rfl) ⟨Nat.le_of_ble_eq_true rfl, Nat.le_of_ble_eq_true rfl⟩ hK hRO hA hP hS (fun H locs hP hS => ?_)
            refine W.eq (g2 := F0 m 161 ls [.int r158, .int 2, .ref q142]) rfl ?_
            obtain ⟨hk_q142, Hf⟩ := c_g_some Hf
            obtain ⟨hi161, Hf⟩ := c_g_some Hf
            refine r_iast hx hb hK hP hS hk_q142 hi161 dX9_codeBy_161 (fun H locs hP hS => ?_)
            obtain ⟨S_161, eS_161, Hf⟩ := c_l_ex Hf
            have hP : st_HP X (st_A S) S_161 H := by rw [eS_161]; exact hP
            refine lv_aload_n hx hb dX9_codeBy_162 rfl (lv_at hl 0 rfl) ?_
            obtain ⟨hk_a0, Hf⟩ := c_g_some Hf
            obtain ⟨q163, hq163, Hf⟩ := c_n_some Hf
            refine fg_10_23 hx hb hts hown hK hP hk_a0 lkf_X9_85 hq163 dX9_codeBy_163 ?_
            refine lv_iconst (v := 3) hx hb dX9_codeBy_166 (by decide) ?_
            refine lv_aload_n hx hb dX9_codeBy_167 rfl (lv_at hl 0 rfl) ?_
            refine lv_iload_n hx hb dX9_codeBy_168 rfl (lv_at hl 1 rfl) ?_
            refine lv_iload_n hx hb dX9_codeBy_169 rfl (lv_at hl 2 rfl) ?_
            refine lv_iconst (v := 1) hx hb dX9_codeBy_170 (by decide) ?_
            obtain ⟨r171, T171, hq171, Hf⟩ := c_c_some Hf
            refine r_cV (n := 3) (As := [.int x1, .int x2, .int 1]) (rest := [.int 3, .ref q163]) ⟨hx, hb, hml, hown, hts⟩ (s_X9_of l X hq171) lkm_X9_244 (by decide +kernel) rfl (by decide) dX9_codeBy_171 rfl rfl ⟨Nat.le_of_ble_eq_true rfl, Nat.le_of_ble_eq_true rfl⟩ hk_a0 rfl hl.1 (Nat.le_of_ble_eq_true rfl) ⟨Nat.le_of_ble_eq_true rfl, Nat.le_of_ble_eq_true rfl⟩ hK hRO hA hP hS (fun H locs hP hS => ?_)
            refine W.eq (g2 := F0 m 174 ls [.int r171, .int 3, .ref q163]) rfl ?_
            refine lv_aload_n hx hb dX9_codeBy_174 rfl (lv_at hl 0 rfl) ?_
            refine lv_iload_n hx hb dX9_codeBy_175 rfl (lv_at hl 1 rfl) ?_
            refine lv_iload_n hx hb dX9_codeBy_176 rfl (lv_at hl 2 rfl) ?_
            refine lv_iconst (v := 0) hx hb dX9_codeBy_177 (by decide) ?_
            obtain ⟨hk_a0, Hf⟩ := c_g_some Hf
            obtain ⟨r178, T178, hq178, Hf⟩ := c_c_some Hf
            refine r_cV (n := 3) (As := [.int x1, .int x2, .int 0]) (rest := [.int r171, .int 3, .ref q163]) ⟨hx, hb, hml, hown, hts⟩ (s_X9_of l X hq178) lkm_X9_244 (by decide +kernel) rfl (by decide) dX9_codeBy_178 rfl rfl ⟨Nat.le_of_ble_eq_true rfl, Nat.le_of_ble_eq_true rfl⟩ hk_a0 rfl hl.1 (Nat.le_of_ble_eq_true rfl) ⟨Nat.le_of_ble_eq_true rfl, Nat.le_of_ble_eq_true rfl⟩ hK hRO hA hP hS (fun H locs hP hS => ?_)
            refine W.eq (g2 := F0 m 181 ls [.int r178, .int r171, .int 3, .ref q163]) rfl ?_
            refine lv_isub hx hb dX9_codeBy_181 ?_
            refine lv_iconst (v := 1) hx hb dX9_codeBy_182 (by decide) ?_
            refine lv_iadd hx hb dX9_codeBy_183 ?_
            obtain ⟨hk_q163, Hf⟩ := c_g_some Hf
            obtain ⟨hi184, Hf⟩ := c_g_some Hf
            refine r_iast hx hb hK hP hS hk_q163 hi184 dX9_codeBy_184 (fun H locs hP hS => ?_)
            obtain ⟨S_184, eS_184, Hf⟩ := c_l_ex Hf
            have hP : st_HP X (st_A S) S_184 H := by rw [eS_184]; exact hP
            refine lv_aload_n hx hb dX9_codeBy_185 rfl (lv_at hl 0 rfl) ?_
            obtain ⟨hk_a0, Hf⟩ := c_g_some Hf
            obtain ⟨q186, hq186, Hf⟩ := c_n_some Hf
            refine fg_10_23 hx hb hts hown hK hP hk_a0 lkf_X9_85 hq186 dX9_codeBy_186 ?_
            refine lv_iconst (v := 4) hx hb dX9_codeBy_189 (by decide) ?_
            refine lv_iload_n hx hb dX9_codeBy_190 rfl (lv_at hl 2 rfl) ?_
            have hJ206 : ∀ (S206 : st_T) (u0_206 : Int32), j_X9_codeBy_206 a0 x1 q186 S206 u0_206 = some (rr, SE) → ∀ (H : Heap) (locs : List Loc) (ls : Array Slot), st_HP X (st_A S) S206 H → va_S (st_A S) s.heap H locs → lv_has ls 7 [(0, .ref a0), (1, .int x1)] → W p l e { frames := 2, cells := 0, slots := 0, locals := 49 } s m args below meth c H locs 0 0 (MQ below (st_Q X (st_A S) (some (.int rr)) SE) args s 0 0 (st_A S)) (F0 m 206 ls [.int u0_206, .int 4, .ref q186]) := by
              intro S206 u0_206 Hf H locs ls hP hS hl
              unfold j_X9_codeBy_206 at Hf
              obtain ⟨hk_q186, Hf⟩ := c_g_some Hf
              obtain ⟨hi206, Hf⟩ := c_g_some Hf
              refine r_iast hx hb hK hP hS hk_q186 hi206 dX9_codeBy_206 (fun H locs hP hS => ?_)
              obtain ⟨S_206, eS_206, Hf⟩ := c_l_ex Hf
              have hP : st_HP X (st_A S) S_206 H := by rw [eS_206]; exact hP
              refine lv_aload_n hx hb dX9_codeBy_207 rfl (lv_at hl 0 rfl) ?_
              obtain ⟨hk_a0, Hf⟩ := c_g_some Hf
              obtain ⟨q208, hq208, Hf⟩ := c_n_some Hf
              refine fg_10_23 hx hb hts hown hK hP hk_a0 lkf_X9_85 hq208 dX9_codeBy_208 ?_
              refine lv_iconst (v := 5) hx hb dX9_codeBy_211 (by decide) ?_
              refine lv_aload_n hx hb dX9_codeBy_212 rfl (lv_at hl 0 rfl) ?_
              obtain ⟨q213, hq213, Hf⟩ := c_n_some Hf
              refine fg_10_31 hx hb hts hown hK hP hk_a0 lkf_X9_106 hq213 dX9_codeBy_213 ?_
              refine lv_iload_n hx hb dX9_codeBy_216 rfl (lv_at hl 1 rfl) ?_
              obtain ⟨hk_q213, Hf⟩ := c_g_some Hf
              obtain ⟨hi217, Hf⟩ := c_g_some Hf
              refine r_iald hx hb hK hP hk_q213 hi217 dX9_codeBy_217 ?_
              obtain ⟨hk_q208, Hf⟩ := c_g_some Hf
              obtain ⟨hi218, Hf⟩ := c_g_some Hf
              refine r_iast hx hb hK hP hS hk_q208 hi218 dX9_codeBy_218 (fun H locs hP hS => ?_)
              obtain ⟨S_218, eS_218, Hf⟩ := c_l_ex Hf
              have hP : st_HP X (st_A S) S_218 H := by rw [eS_218]; exact hP
              refine lv_aload_n hx hb dX9_codeBy_219 rfl (lv_at hl 0 rfl) ?_
              have hk_a0 : st_K S_218 a0 = 11 := by rw [kp_wi eS_218]; exact hk_a0
              have hq208 : st_fr S_218 1023 a0 = some q208 := by rw [fr_wi eS_218]; exact hq208
              refine fg_10_23 hx hb hts hown hK hP hk_a0 lkf_X9_85 hq208 dX9_codeBy_220 ?_
              refine lv_bipush (v := 6) hx hb dX9_codeBy_223 (by decide) ?_
              refine lv_aload_n hx hb dX9_codeBy_225 rfl (lv_at hl 0 rfl) ?_
              obtain ⟨q226, hq226, Hf⟩ := c_n_some Hf
              refine fg_10_30 hx hb hts hown hK hP hk_a0 lkf_X9_103 hq226 dX9_codeBy_226 ?_
              refine lv_iload_n hx hb dX9_codeBy_229 rfl (lv_at hl 1 rfl) ?_
              obtain ⟨hk_q226, Hf⟩ := c_g_some Hf
              obtain ⟨hi230, Hf⟩ := c_g_some Hf
              refine r_iald hx hb hK hP hk_q226 hi230 dX9_codeBy_230 ?_
              have hk_q208 : st_K S_218 q208 = 20 := by rw [kp_wi eS_218]; exact hk_q208
              obtain ⟨hi231, Hf⟩ := c_g_some Hf
              refine r_iast hx hb hK hP hS hk_q208 hi231 dX9_codeBy_231 (fun H locs hP hS => ?_)
              obtain ⟨S_231, eS_231, Hf⟩ := c_l_ex Hf
              have hP : st_HP X (st_A S) S_231 H := by rw [eS_231]; exact hP
              refine lv_bipush (v := 24) hx hb dX9_codeBy_232 (by decide) ?_
              refine lv_aload_n hx hb dX9_codeBy_234 rfl (lv_at hl 0 rfl) ?_
              have hk_a0 : st_K S_231 a0 = 11 := by rw [kp_wi eS_231]; exact hk_a0
              refine fg_10_11 hx hb hts hown hK hP hk_a0 lkf_X9_54 dX9_codeBy_235 ?_
              refine lv_imul hx hb dX9_codeBy_238 ?_
              refine lv_topi (fun z6_239 ez6_239 => ?_)
              have Hf := c_l_ren Hf ez6_239
              refine lv_istore (lv' := [(6, .int z6_239), (0, .ref a0), (1, .int x1)]) hx hb dX9_codeBy_239 hl (by decide) rfl (fun ls hl => ?_)
              refine (c_w_ind (P := fun (q : st_T × Int32) => ∀ (H : Heap) (locs : List Loc) (ls : Array Slot), st_HP X (st_A S) q.1 H → va_S (st_A S) s.heap H locs → lv_has ls 7 [(0, .ref a0), (6, .int q.2)] → W p l e { frames := 2, cells := 0, slots := 0, locals := 49 } s m args below meth c H locs 0 0 (MQ below (st_Q X (st_A S) (some (.int rr)) SE) args s 0 0 (st_A S)) (F0 m 241 ls [])) ?_ _ _ Hf) _ _ _ hP hS (lv_sub hl [1, 0] rfl)
              intro rec241 hrec241 q Hf H locs ls hP hS hl
              obtain ⟨S241, y6_241⟩ := q
              unfold b_X9_codeBy_241 at Hf
              try dsimp only at Hf
              try dsimp only at hP
              try dsimp only at hl
              try dsimp only
              refine lv_iload hx hb dX9_codeBy_241 (lv_at hl 1 rfl) ?_
              refine lv_bipush (v := 24) hx hb dX9_codeBy_243 (by decide) ?_
              refine lv_aload_n hx hb dX9_codeBy_245 rfl (lv_at hl 0 rfl) ?_
              obtain ⟨hk_a0, Hf⟩ := c_g_some Hf
              refine fg_10_11 hx hb hts hown hK hP hk_a0 lkf_X9_54 dX9_codeBy_246 ?_
              refine lv_imul hx hb dX9_codeBy_249 ?_
              refine lv_aload_n hx hb dX9_codeBy_250 rfl (lv_at hl 0 rfl) ?_
              obtain ⟨q251, hq251, Hf⟩ := c_n_some Hf
              refine fg_10_12 hx hb hts hown hK hP hk_a0 lkf_X9_58 hq251 dX9_codeBy_251 ?_
              refine lv_aload_n hx hb dX9_codeBy_254 rfl (lv_at hl 0 rfl) ?_
              refine fg_10_11 hx hb hts hown hK hP hk_a0 lkf_X9_54 dX9_codeBy_255 ?_
              obtain ⟨hk_q251, Hf⟩ := c_g_some Hf
              obtain ⟨hi258, Hf⟩ := c_g_some Hf
              refine r_iald hx hb hK hP hk_q251 hi258 dX9_codeBy_258 ?_
              refine lv_iadd hx hb dX9_codeBy_259 ?_
              refine lv_icmp_ge hx hb dX9_codeBy_260 (tgt := 300) (by decide) (fun hc => ?_) (fun hc => ?_)
              · have Hf := c_i_t Hf hc
                refine lv_iconst (v := (-1)) hx hb dX9_codeBy_300 (by decide) ?_
                cases Hf
                exact r_iret hx hb hr rfl hlocks dX9_codeBy_301 (Nat.le_of_ble_eq_true rfl) (Nat.le_of_ble_eq_true rfl) hP hS
              have Hf := c_i_f Hf hc
              refine lv_aload_n hx hb dX9_codeBy_263 rfl (lv_at hl 0 rfl) ?_
              refine lv_sipush (v := 880) hx hb dX9_codeBy_264 (by decide) ?_
              refine lv_aload_n hx hb dX9_codeBy_267 rfl (lv_at hl 0 rfl) ?_
              refine fg_10_11 hx hb hts hown hK hP hk_a0 lkf_X9_54 dX9_codeBy_268 ?_
              refine lv_imul hx hb dX9_codeBy_271 ?_
              refine lv_aload_n hx hb dX9_codeBy_272 rfl (lv_at hl 0 rfl) ?_
              obtain ⟨q273, hq273, Hf⟩ := c_n_some Hf
              refine fg_10_15 hx hb hts hown hK hP hk_a0 lkf_X9_67 hq273 dX9_codeBy_273 ?_
              refine lv_iload hx hb dX9_codeBy_276 (lv_at hl 1 rfl) ?_
              obtain ⟨hk_q273, Hf⟩ := c_g_some Hf
              obtain ⟨hi278, Hf⟩ := c_g_some Hf
              refine r_iald hx hb hK hP hk_q273 hi278 dX9_codeBy_278 ?_
              refine lv_iadd hx hb dX9_codeBy_279 ?_
              obtain ⟨r280, T280, hq280, Hf⟩ := c_c_some Hf
              refine r_cV (n := 1) (As := [.int ((880 * (st_fi S241 1011 a0)) + (st_ri S241 q273 (y6_241 : Int32).toNatClampNeg))]) (rest := []) ⟨hx, hb, hml, hown, hts⟩ (s_X9_worth l X hq280) lkm_X9_253 (by decide +kernel) rfl (by decide) dX9_codeBy_280 rfl rfl ⟨Nat.le_of_ble_eq_true rfl, Nat.le_of_ble_eq_true rfl⟩ hk_a0 rfl hl.1 (Nat.le_of_ble_eq_true rfl) ⟨Nat.le_of_ble_eq_true rfl, Nat.le_of_ble_eq_true rfl⟩ hK hRO hA hP hS (fun H locs hP hS => ?_)
              refine W.eq (g2 := F0 m 283 ls [.int r280]) rfl ?_
              refine lv_if_eq hx hb dX9_codeBy_283 (tgt := 294) (by decide) (fun hc => ?_) (fun hc => ?_)
              · have Hf := c_i_t Hf hc
                refine lv_iinc (v := (y6_241 + 1)) (lv' := [(6, .int (y6_241 + 1)), (0, .ref a0)]) hx hb dX9_codeBy_294 hl (k := 1) rfl rfl (by decide) rfl (fun ls hl => ?_)
                refine lv_goto hx hb dX9_codeBy_297 (tgt := 241) (by decide) ?_
                exact hrec241 (T280, (y6_241 + 1)) Hf _ _ _ hP hS (lv_sub hl [1, 0] rfl)
              have Hf := c_i_f Hf hc
              refine lv_aload_n hx hb dX9_codeBy_286 rfl (lv_at hl 0 rfl) ?_
              obtain ⟨hk_a0, Hf⟩ := c_g_some Hf
              obtain ⟨q287, hq287, Hf⟩ := c_n_some Hf
              refine fg_10_14 hx hb hts hown hK hP hk_a0 lkf_X9_64 hq287 dX9_codeBy_287 ?_
              refine lv_iload hx hb dX9_codeBy_290 (lv_at hl 1 rfl) ?_
              obtain ⟨hk_q287, Hf⟩ := c_g_some Hf
              obtain ⟨hi292, Hf⟩ := c_g_some Hf
              refine r_iald hx hb hK hP hk_q287 hi292 dX9_codeBy_292 ?_
              cases Hf
              exact r_iret hx hb hr rfl hlocks dX9_codeBy_293 (Nat.le_of_ble_eq_true rfl) (Nat.le_of_ble_eq_true rfl) hP hS
            refine lv_if_ne hx hb dX9_codeBy_191 (tgt := 198) (by decide) (fun hc => ?_) (fun hc => ?_)
            · have Hf := c_i_f Hf hc
              refine lv_aload_n hx hb dX9_codeBy_198 rfl (lv_at hl 0 rfl) ?_
              obtain ⟨q199, hq199, Hf⟩ := c_n_some Hf
              refine fg_10_35 hx hb hts hown hK hP hk_a0 lkf_X9_118 hq199 dX9_codeBy_199 ?_
              refine lv_iload_n hx hb dX9_codeBy_202 rfl (lv_at hl 2 rfl) ?_
              refine lv_iconst (v := 1) hx hb dX9_codeBy_203 (by decide) ?_
              refine lv_isub hx hb dX9_codeBy_204 ?_
              obtain ⟨hk_q199, Hf⟩ := c_g_some Hf
              obtain ⟨hi205, Hf⟩ := c_g_some Hf
              refine r_iald hx hb hK hP hk_q199 hi205 dX9_codeBy_205 ?_
              exact hJ206 S_184 (st_ri S_184 q199 ((x2 - 1) : Int32).toNatClampNeg) Hf _ _ _ hP hS (lv_sub hl [0, 1] rfl)
            have Hf := c_i_t Hf hc
            refine lv_iconst (v := (-1)) hx hb dX9_codeBy_194 (by decide) ?_
            refine lv_goto hx hb dX9_codeBy_195 (tgt := 206) (by decide) ?_
            exact hJ206 S_184 (-1) Hf _ _ _ hP hS (lv_sub hl [0, 1] rfl)
          refine lv_icmp_ge hx hb dX9_codeBy_111 (tgt := 126) (by decide) (fun hc => ?_) (fun hc => ?_)
          · have Hf := c_i_t Hf hc
            refine lv_iconst (v := 0) hx hb dX9_codeBy_126 (by decide) ?_
            exact hJ127 S_96 0 Hf _ _ _ hP hS (lv_sub hl [0, 1, 2, 3] rfl)
          have Hf := c_i_f Hf hc
          refine lv_aload_n hx hb dX9_codeBy_114 rfl (lv_at hl 0 rfl) ?_
          refine lv_iload_n hx hb dX9_codeBy_115 rfl (lv_at hl 1 rfl) ?_
          refine lv_iload_n hx hb dX9_codeBy_116 rfl (lv_at hl 2 rfl) ?_
          refine lv_iconst (v := 1) hx hb dX9_codeBy_117 (by decide) ?_
          refine lv_iadd hx hb dX9_codeBy_118 ?_
          refine lv_iconst (v := 2) hx hb dX9_codeBy_119 (by decide) ?_
          obtain ⟨r120, T120, hq120, Hf⟩ := c_c_some Hf
          refine r_cV (n := 3) (As := [.int x1, .int (x2 + 1), .int 2]) (rest := [.int 2, .ref q98]) ⟨hx, hb, hml, hown, hts⟩ (s_X9_of l X hq120) lkm_X9_244 (by decide +kernel) rfl (by decide) dX9_codeBy_120 rfl rfl ⟨Nat.le_of_ble_eq_true rfl, Nat.le_of_ble_eq_true rfl⟩ hk_a0 rfl hl.1 (Nat.le_of_ble_eq_true rfl) ⟨Nat.le_of_ble_eq_true rfl, Nat.le_of_ble_eq_true rfl⟩ hK hRO hA hP hS (fun H locs hP hS => ?_)
          refine W.eq (g2 := F0 m 123 ls [.int r120, .int 2, .ref q98]) rfl ?_
          refine lv_goto hx hb dX9_codeBy_123 (tgt := 127) (by decide) ?_
          exact hJ127 T120 r120 Hf _ _ _ hP hS (lv_sub hl [0, 1, 2, 3] rfl)
        refine lv_if_eq hx hb dX9_codeBy_82 (tgt := 89) (by decide) (fun hc => ?_) (fun hc => ?_)
        · have Hf := c_i_t Hf hc
          refine lv_aload_n hx hb dX9_codeBy_89 rfl (lv_at hl 0 rfl) ?_
          refine lv_iload_n hx hb dX9_codeBy_90 rfl (lv_at hl 1 rfl) ?_
          refine lv_iload_n hx hb dX9_codeBy_91 rfl (lv_at hl 2 rfl) ?_
          refine lv_iconst (v := 3) hx hb dX9_codeBy_92 (by decide) ?_
          obtain ⟨r93, T93, hq93, Hf⟩ := c_c_some Hf
          refine r_cV (n := 3) (As := [.int x1, .int x2, .int 3]) (rest := [.int 1, .ref q77]) ⟨hx, hb, hml, hown, hts⟩ (s_X9_of l X hq93) lkm_X9_244 (by decide +kernel) rfl (by decide) dX9_codeBy_93 rfl rfl ⟨Nat.le_of_ble_eq_true rfl, Nat.le_of_ble_eq_true rfl⟩ hk_a0 rfl hl.1 (Nat.le_of_ble_eq_true rfl) ⟨Nat.le_of_ble_eq_true rfl, Nat.le_of_ble_eq_true rfl⟩ hK hRO hA hP hS (fun H locs hP hS => ?_)
          refine W.eq (g2 := F0 m 96 ls [.int r93, .int 1, .ref q77]) rfl ?_
          exact hJ96 T93 r93 Hf _ _ _ hP hS (lv_sub hl [0, 1, 2, 4] rfl)
        have Hf := c_i_f Hf hc
        refine lv_iconst (v := 0) hx hb dX9_codeBy_85 (by decide) ?_
        refine lv_goto hx hb dX9_codeBy_86 (tgt := 96) (by decide) ?_
        exact hJ96 S_75 0 Hf _ _ _ hP hS (lv_sub hl [0, 1, 2, 4] rfl)
      refine lv_if_eq hx hb dX9_codeBy_55 (tgt := 68) (by decide) (fun hc => ?_) (fun hc => ?_)
      · have Hf := c_i_t Hf hc
        refine lv_aload_n hx hb dX9_codeBy_68 rfl (lv_at hl 0 rfl) ?_
        refine lv_iload_n hx hb dX9_codeBy_69 rfl (lv_at hl 1 rfl) ?_
        refine lv_iload_n hx hb dX9_codeBy_70 rfl (lv_at hl 2 rfl) ?_
        refine lv_iconst (v := 2) hx hb dX9_codeBy_71 (by decide) ?_
        obtain ⟨r72, T72, hq72, Hf⟩ := c_c_some Hf
        refine r_cV (n := 3) (As := [.int x1, .int x2, .int 2]) (rest := [.int 0, .ref q50]) ⟨hx, hb, hml, hown, hts⟩ (s_X9_of l X hq72) lkm_X9_244 (by decide +kernel) rfl (by decide) dX9_codeBy_72 rfl rfl ⟨Nat.le_of_ble_eq_true rfl, Nat.le_of_ble_eq_true rfl⟩ hk_a0 rfl hl.1 (Nat.le_of_ble_eq_true rfl) ⟨Nat.le_of_ble_eq_true rfl, Nat.le_of_ble_eq_true rfl⟩ hK hRO hA hP hS (fun H locs hP hS => ?_)
        refine W.eq (g2 := F0 m 75 ls [.int r72, .int 0, .ref q50]) rfl ?_
        exact hJ75 T72 r72 Hf _ _ _ hP hS (lv_sub hl [0, 1, 2, 3, 5] rfl)
      have Hf := c_i_f Hf hc
      refine lv_aload_n hx hb dX9_codeBy_58 rfl (lv_at hl 0 rfl) ?_
      refine lv_iload_n hx hb dX9_codeBy_59 rfl (lv_at hl 1 rfl) ?_
      refine lv_iload_n hx hb dX9_codeBy_60 rfl (lv_at hl 2 rfl) ?_
      refine lv_iconst (v := 3) hx hb dX9_codeBy_61 (by decide) ?_
      obtain ⟨r62, T62, hq62, Hf⟩ := c_c_some Hf
      refine r_cV (n := 3) (As := [.int x1, .int x2, .int 3]) (rest := [.int 0, .ref q50]) ⟨hx, hb, hml, hown, hts⟩ (s_X9_of l X hq62) lkm_X9_244 (by decide +kernel) rfl (by decide) dX9_codeBy_62 rfl rfl ⟨Nat.le_of_ble_eq_true rfl, Nat.le_of_ble_eq_true rfl⟩ hk_a0 rfl hl.1 (Nat.le_of_ble_eq_true rfl) ⟨Nat.le_of_ble_eq_true rfl, Nat.le_of_ble_eq_true rfl⟩ hK hRO hA hP hS (fun H locs hP hS => ?_)
      refine W.eq (g2 := F0 m 65 ls [.int r62, .int 0, .ref q50]) rfl ?_
      refine lv_goto hx hb dX9_codeBy_65 (tgt := 75) (by decide) ?_
      exact hJ75 T62 r62 Hf _ _ _ hP hS (lv_sub hl [0, 1, 2, 3, 5] rfl)
    have Hf := c_i_f Hf hc
    refine lv_iload hx hb dX9_codeBy_31 (lv_at hl 5 rfl) ?_
    refine lv_iload hx hb dX9_codeBy_33 (lv_at hl 4 rfl) ?_
    refine lv_iload hx hb dX9_codeBy_35 (lv_at hl 6 rfl) ?_
    refine lv_ishr hx hb dX9_codeBy_37 ?_
    refine lv_iconst (v := 1) hx hb dX9_codeBy_38 (by decide) ?_
    refine lv_iand hx hb dX9_codeBy_39 ?_
    refine lv_iadd hx hb dX9_codeBy_40 ?_
    refine lv_topi (fun z5_41 ez5_41 => ?_)
    have Hf := c_l_ren Hf ez5_41
    refine lv_istore (lv' := [(5, .int z5_41), (0, .ref a0), (1, .int x1), (2, .int x2), (3, .int x3), (4, .int r13), (6, .int y6_24)]) hx hb dX9_codeBy_41 hl (by decide) rfl (fun ls hl => ?_)
    refine lv_iinc (v := (y6_24 + 1)) (lv' := [(6, .int (y6_24 + 1)), (5, .int z5_41), (0, .ref a0), (1, .int x1), (2, .int x2), (3, .int x3), (4, .int r13)]) hx hb dX9_codeBy_43 hl (k := 6) rfl rfl (by decide) rfl (fun ls hl => ?_)
    refine lv_goto hx hb dX9_codeBy_46 (tgt := 24) (by decide) ?_
    exact hrec24 (S24, z5_41, (y6_24 + 1)) Hf _ _ _ hP hS (lv_sub hl [2, 3, 4, 5, 6, 1, 0] rfl)
  have Hf := c_i_f Hf hc
  refine lv_iconst (v := (-1)) hx hb dX9_codeBy_7 (by decide) ?_
  cases Hf
  exact r_iret hx hb hr rfl hlocks dX9_codeBy_8 (Nat.le_of_ble_eq_true rfl) (Nat.le_of_ble_eq_true rfl) hP hS

def f_X9_gapAhead (S : st_T) (a0 : Nat) (x1 : Int32) (x2 : Int32) : Option (Int32 × st_T) :=
  (c_i (x2 = 0) (some (0, S)) (c_g (st_K S a0 = 11) (c_c (f_X9_of S a0 x1 x2 0) (fun (r12 : Int32) (T12 : st_T) => (c_g (st_K T12 a0 = 11) (c_c (f_X9_of T12 a0 x1 (x2 - 1) 1) (fun (r21 : Int32) (T21 : st_T) => (some (((r12 - r21) - 1), T21)))))))))
set_option maxRecDepth 100000 in
set_option maxHeartbeats 4000000 in
theorem s_X9_gapAhead (l : Launch) (X : st_I) {S SE : st_T} {a0 : Nat} {x1 : Int32} {x2 : Int32} {rr : Int32} (Hf : f_X9_gapAhead S a0 x1 x2 = some (rr, SE)) : Met l yX9_gapAhead (Cond.code yX9_gapAhead cX9_gapAhead 3 (some .int) :: lw_g) { frames := 1, cells := 0, slots := 0, locals := 23 } (st_P X S [.ref a0, .int x1, .int x2]) (st_Q X (st_A S) (some (.int rr)) SE) 0 0 (st_A S) := by
  refine st_ofW (by decide) (Nat.le_of_ble_eq_true rfl) ?_
  intro p e s m args below meth c hx hb hr hml hlocks hnm hts hown hK hRO hA hP hS ls hl
  have hown : s.vm.findClass RX9 = some m.cls := hown
  have hl : lv_has ls 3 [(0, .ref a0), (1, .int x1), (2, .int x2)] := hl
  unfold f_X9_gapAhead at Hf
  refine lv_iload_n hx hb dX9_gapAhead_0 rfl (lv_at hl 2 rfl) ?_
  refine lv_if_ne hx hb dX9_gapAhead_1 (tgt := 8) (by decide) (fun hc => ?_) (fun hc => ?_)
  · have Hf := c_i_f Hf hc
    refine lv_aload_n hx hb dX9_gapAhead_8 rfl (lv_at hl 0 rfl) ?_
    refine lv_iload_n hx hb dX9_gapAhead_9 rfl (lv_at hl 1 rfl) ?_
    refine lv_iload_n hx hb dX9_gapAhead_10 rfl (lv_at hl 2 rfl) ?_
    refine lv_iconst (v := 0) hx hb dX9_gapAhead_11 (by decide) ?_
    obtain ⟨hk_a0, Hf⟩ := c_g_some Hf
    obtain ⟨r12, T12, hq12, Hf⟩ := c_c_some Hf
    refine r_cV (n := 3) (As := [.int x1, .int x2, .int 0]) (rest := []) ⟨hx, hb, hml, hown, hts⟩ (s_X9_of l X hq12) lkm_X9_244 (by decide +kernel) rfl (by decide) dX9_gapAhead_12 rfl rfl ⟨Nat.le_of_ble_eq_true rfl, Nat.le_of_ble_eq_true rfl⟩ hk_a0 rfl hl.1 (Nat.le_of_ble_eq_true rfl) ⟨Nat.le_of_ble_eq_true rfl, Nat.le_of_ble_eq_true rfl⟩ hK hRO hA hP hS (fun H locs hP hS => ?_)
    refine W.eq (g2 := F0 m 15 ls [.int r12]) rfl ?_
    refine lv_aload_n hx hb dX9_gapAhead_15 rfl (lv_at hl 0 rfl) ?_
    refine lv_iload_n hx hb dX9_gapAhead_16 rfl (lv_at hl 1 rfl) ?_
    refine lv_iload_n hx hb dX9_gapAhead_17 rfl (lv_at hl 2 rfl) ?_
    refine lv_iconst (v := 1) hx hb dX9_gapAhead_18 (by decide) ?_
    refine lv_isub hx hb dX9_gapAhead_19 ?_
    refine lv_iconst (v := 1) hx hb dX9_gapAhead_20 (by decide) ?_
    obtain ⟨hk_a0, Hf⟩ := c_g_some Hf
    obtain ⟨r21, T21, hq21, Hf⟩ := c_c_some Hf
    refine r_cV (n := 3) (As := [.int x1, .int (x2 - 1), .int 1]) (rest := [.int r12]) ⟨hx, hb, hml, hown, hts⟩ (s_X9_of l X hq21) lkm_X9_244 (by decide +kernel) rfl (by decide) dX9_gapAhead_21 rfl rfl ⟨Nat.le_of_ble_eq_true rfl, Nat.le_of_ble_eq_true rfl⟩ hk_a0 rfl hl.1 (Nat.le_of_ble_eq_true rfl) ⟨Nat.le_of_ble_eq_true rfl, Nat.le_of_ble_eq_true rfl⟩ hK hRO hA hP hS (fun H locs hP hS => ?_)
    refine W.eq (g2 := F0 m 24 ls [.int r21, .int r12]) rfl ?_
    refine lv_isub hx hb dX9_gapAhead_24 ?_
    refine lv_iconst (v := 1) hx hb dX9_gapAhead_25 (by decide) ?_
    refine lv_isub hx hb dX9_gapAhead_26 ?_
    cases Hf
    exact r_iret hx hb hr rfl hlocks dX9_gapAhead_27 (Nat.le_of_ble_eq_true rfl) (Nat.le_of_ble_eq_true rfl) hP hS
  have Hf := c_i_t Hf hc
  refine lv_iconst (v := 0) hx hb dX9_gapAhead_4 (by decide) ?_
  refine lv_goto hx hb dX9_gapAhead_5 (tgt := 27) (by decide) ?_
  cases Hf
  exact r_iret hx hb hr rfl hlocks dX9_gapAhead_27 (Nat.le_of_ble_eq_true rfl) (Nat.le_of_ble_eq_true rfl) hP hS

def j_X9_findCodes_119 (rec2 : st_T × Int32 → Option (Unit × st_T)) (y2_2 : Int32) (q60 : Nat) (S119 : st_T) (u0_119 : Int32) : Option (Unit × st_T) :=
  (c_g (st_K S119 q60 = 23) (c_g (c_in y2_2 (st_ln S119 q60)) (c_l (st_wi S119 q60 (y2_2 : Int32).toNatClampNeg (vp_nar .boolean u0_119)) (fun (S_119 : st_T) => (rec2 (S_119, (y2_2 + 1)))))))
def j_X9_findCodes_118 (rec2 : st_T × Int32 → Option (Unit × st_T)) (y2_2 : Int32) (q60 : Nat) (S118 : st_T) : Option (Unit × st_T) :=
  (j_X9_findCodes_119 rec2 y2_2 q60 S118 0)
def j_X9_findCodes_51 (a0 : Nat) (x1 : Int32) (rec2 : st_T × Int32 → Option (Unit × st_T)) (y2_2 : Int32) (q26 : Nat) (S51 : st_T) (u0_51 : Int32) : Option (Unit × st_T) :=
  (c_g (st_K S51 q26 = 20) (c_g (c_in y2_2 (st_ln S51 q26)) (c_l (st_wi S51 q26 (y2_2 : Int32).toNatClampNeg u0_51) (fun (S_51 : st_T) => (c_g (st_K S_51 a0 = 11) (c_c (f_X9_gapAhead S_51 a0 x1 y2_2) (fun (r55 : Int32) (T55 : st_T) => (c_g (st_K T55 a0 = 11) (c_n (st_fr T55 1037 a0) (fun (q60 : Nat) => (c_i (r55 ≤ 0) (j_X9_findCodes_118 rec2 y2_2 q60 T55) (c_i ((st_fi T55 1011 a0) < 0) (j_X9_findCodes_118 rec2 y2_2 q60 T55) (c_n (st_fr T55 1013 a0) (fun (q77 : Nat) => (c_g (st_K T55 q77 = 20) (c_g (c_in (st_fi T55 1011 a0) (st_ln T55 q77)) (c_i ((st_ri T55 q77 ((st_fi T55 1011 a0) : Int32).toNatClampNeg) < r55) (j_X9_findCodes_118 rec2 y2_2 q60 T55) (c_n (st_fr T55 1035 a0) (fun (q89 : Nat) => (c_g (st_K T55 q89 = 20) (c_g (c_in y2_2 (st_ln T55 q89)) (c_i ((st_ri T55 q89 (y2_2 : Int32).toNatClampNeg) < 0) (j_X9_findCodes_118 rec2 y2_2 q60 T55) (c_g (c_in y2_2 (st_ln T55 q89)) (c_g (c_in (y2_2 - 1) (st_ln T55 q89)) (c_i ((st_ri T55 q89 (y2_2 : Int32).toNatClampNeg) = (st_ri T55 q89 ((y2_2 - 1) : Int32).toNatClampNeg)) (j_X9_findCodes_119 rec2 y2_2 q60 T55 1) (j_X9_findCodes_118 rec2 y2_2 q60 T55))))))))))))))))))))))))))
def b_X9_findCodes_2 (a0 : Nat) (x1 : Int32) (rec2 : st_T × Int32 → Option (Unit × st_T)) (q : st_T × Int32) : Option (Unit × st_T) :=
  (fun (S2 : st_T) (y2_2 : Int32) =>
  (c_g (st_K S2 a0 = 11) (c_n (st_fr S2 1033 a0) (fun (q4 : Nat) => (c_g (st_K S2 q4 = 20) (c_g (c_in x1 (st_ln S2 q4)) (c_i ((st_ri S2 q4 (x1 : Int32).toNatClampNeg) ≤ y2_2) (some ((), S2)) (c_n (st_fr S2 1035 a0) (fun (q13 : Nat) => (c_c (f_X9_codeBy S2 a0 x1 y2_2 0) (fun (r21 : Int32) (T21 : st_T) => (c_g (st_K T21 q13 = 20) (c_g (c_in y2_2 (st_ln T21 q13)) (c_l (st_wi T21 q13 (y2_2 : Int32).toNatClampNeg r21) (fun (S_24 : st_T) => (c_g (st_K S_24 a0 = 11) (c_n (st_fr S_24 1036 a0) (fun (q26 : Nat) => (c_c (f_X9_of S_24 a0 x1 y2_2 3) (fun (r34 : Int32) (T34 : st_T) => (c_i (r34 = 0) (j_X9_findCodes_51 a0 x1 rec2 y2_2 q26 T34 (-1)) (c_g (st_K T34 a0 = 11) (c_c (f_X9_codeBy T34 a0 x1 y2_2 1) (fun (r48 : Int32) (T48 : st_T) => (j_X9_findCodes_51 a0 x1 rec2 y2_2 q26 T48 r48))))))))))))))))))))))))) q.1 q.2
def f_X9_findCodes (S : st_T) (a0 : Nat) (x1 : Int32) : Option (Unit × st_T) :=
  (c_w (b_X9_findCodes_2 a0 x1) c_N (S, 0))
set_option maxRecDepth 100000 in
set_option maxHeartbeats 4000000 in
theorem s_X9_findCodes (l : Launch) (X : st_I) {S SE : st_T} {a0 : Nat} {x1 : Int32} {rr : Unit} (Hf : f_X9_findCodes S a0 x1 = some (rr, SE)) : Met l yX9_findCodes (Cond.code yX9_findCodes cX9_findCodes 4 (none) :: lw_g) { frames := 3, cells := 0, slots := 0, locals := 75 } (st_P X S [.ref a0, .int x1]) (st_Q X (st_A S) none SE) 0 0 (st_A S) := by
  refine st_ofW (by decide) (Nat.le_of_ble_eq_true rfl) ?_
  intro p e s m args below meth c hx hb hr hml hlocks hnm hts hown hK hRO hA hP hS ls hl
  have hown : s.vm.findClass RX9 = some m.cls := hown
  have hl : lv_has ls 4 [(0, .ref a0), (1, .int x1)] := hl
  unfold f_X9_findCodes at Hf
  refine lv_iconst (v := 0) hx hb dX9_findCodes_0 (by decide) ?_
  refine lv_istore_n (lv' := [(2, .int 0), (0, .ref a0), (1, .int x1)]) hx hb dX9_findCodes_1 rfl hl (by decide) rfl (fun ls hl => ?_)
  refine (c_w_ind (P := fun (q : st_T × Int32) => ∀ (H : Heap) (locs : List Loc) (ls : Array Slot), st_HP X (st_A S) q.1 H → va_S (st_A S) s.heap H locs → lv_has ls 4 [(0, .ref a0), (1, .int x1), (2, .int q.2)] → W p l e { frames := 3, cells := 0, slots := 0, locals := 75 } s m args below meth c H locs 0 0 (MQ below (st_Q X (st_A S) none SE) args s 0 0 (st_A S)) (F0 m 2 ls [])) ?_ _ _ Hf) _ _ _ hP hS (lv_sub hl [1, 2, 0] rfl)
  intro rec2 hrec2 q Hf H locs ls hP hS hl
  obtain ⟨S2, y2_2⟩ := q
  unfold b_X9_findCodes_2 at Hf
  try dsimp only at Hf
  try dsimp only at hP
  try dsimp only at hl
  try dsimp only
  refine lv_iload_n hx hb dX9_findCodes_2 rfl (lv_at hl 2 rfl) ?_
  refine lv_aload_n hx hb dX9_findCodes_3 rfl (lv_at hl 0 rfl) ?_
  obtain ⟨hk_a0, Hf⟩ := c_g_some Hf
  obtain ⟨q4, hq4, Hf⟩ := c_n_some Hf
  refine fg_10_33 hx hb hts hown hK hP hk_a0 lkf_X9_112 hq4 dX9_findCodes_4 ?_
  refine lv_iload_n hx hb dX9_findCodes_7 rfl (lv_at hl 1 rfl) ?_
  obtain ⟨hk_q4, Hf⟩ := c_g_some Hf
  obtain ⟨hi8, Hf⟩ := c_g_some Hf
  refine r_iald hx hb hK hP hk_q4 hi8 dX9_findCodes_8 ?_
  refine lv_icmp_ge hx hb dX9_findCodes_9 (tgt := 126) (by decide) (fun hc => ?_) (fun hc => ?_)
  · have Hf := c_i_t Hf hc
    cases Hf
    exact r_vret hx hb hr rfl hlocks dX9_findCodes_126 (Nat.le_of_ble_eq_true rfl) (Nat.le_of_ble_eq_true rfl) hP hS
  have Hf := c_i_f Hf hc
  refine lv_aload_n hx hb dX9_findCodes_12 rfl (lv_at hl 0 rfl) ?_
  obtain ⟨q13, hq13, Hf⟩ := c_n_some Hf
  refine fg_10_35 hx hb hts hown hK hP hk_a0 lkf_X9_118 hq13 dX9_findCodes_13 ?_
  refine lv_iload_n hx hb dX9_findCodes_16 rfl (lv_at hl 2 rfl) ?_
  refine lv_aload_n hx hb dX9_findCodes_17 rfl (lv_at hl 0 rfl) ?_
  refine lv_iload_n hx hb dX9_findCodes_18 rfl (lv_at hl 1 rfl) ?_
  refine lv_iload_n hx hb dX9_findCodes_19 rfl (lv_at hl 2 rfl) ?_
  refine lv_iconst (v := 0) hx hb dX9_findCodes_20 (by decide) ?_
  obtain ⟨r21, T21, hq21, Hf⟩ := c_c_some Hf
  refine r_cV (n := 3) (As := [.int x1, .int y2_2, .int 0]) (rest := [.int y2_2, .ref q13]) ⟨hx, hb, hml, hown, hts⟩ (s_X9_codeBy l X hq21) lkm_X9_256 (by decide +kernel) rfl (by decide) dX9_findCodes_21 rfl rfl ⟨Nat.le_of_ble_eq_true rfl, Nat.le_of_ble_eq_true rfl⟩ hk_a0 rfl hl.1 (Nat.le_of_ble_eq_true rfl) ⟨Nat.le_of_ble_eq_true rfl, Nat.le_of_ble_eq_true rfl⟩ hK hRO hA hP hS (fun H locs hP hS => ?_)
  refine W.eq (g2 := F0 m 24 ls [.int r21, .int y2_2, .ref q13]) rfl ?_
  obtain ⟨hk_q13, Hf⟩ := c_g_some Hf
  obtain ⟨hi24, Hf⟩ := c_g_some Hf
  refine r_iast hx hb hK hP hS hk_q13 hi24 dX9_findCodes_24 (fun H locs hP hS => ?_)
  obtain ⟨S_24, eS_24, Hf⟩ := c_l_ex Hf
  have hP : st_HP X (st_A S) S_24 H := by rw [eS_24]; exact hP
  refine lv_aload_n hx hb dX9_findCodes_25 rfl (lv_at hl 0 rfl) ?_
  obtain ⟨hk_a0, Hf⟩ := c_g_some Hf
  obtain ⟨q26, hq26, Hf⟩ := c_n_some Hf
  refine fg_10_36 hx hb hts hown hK hP hk_a0 lkf_X9_121 hq26 dX9_findCodes_26 ?_
  refine lv_iload_n hx hb dX9_findCodes_29 rfl (lv_at hl 2 rfl) ?_
  refine lv_aload_n hx hb dX9_findCodes_30 rfl (lv_at hl 0 rfl) ?_
  refine lv_iload_n hx hb dX9_findCodes_31 rfl (lv_at hl 1 rfl) ?_
  refine lv_iload_n hx hb dX9_findCodes_32 rfl (lv_at hl 2 rfl) ?_
  refine lv_iconst (v := 3) hx hb dX9_findCodes_33 (by decide) ?_
  obtain ⟨r34, T34, hq34, Hf⟩ := c_c_some Hf
  refine r_cV (n := 3) (As := [.int x1, .int y2_2, .int 3]) (rest := [.int y2_2, .ref q26]) ⟨hx, hb, hml, hown, hts⟩ (s_X9_of l X hq34) lkm_X9_244 (by decide +kernel) rfl (by decide) dX9_findCodes_34 rfl rfl ⟨Nat.le_of_ble_eq_true rfl, Nat.le_of_ble_eq_true rfl⟩ hk_a0 rfl hl.1 (Nat.le_of_ble_eq_true rfl) ⟨Nat.le_of_ble_eq_true rfl, Nat.le_of_ble_eq_true rfl⟩ hK hRO hA hP hS (fun H locs hP hS => ?_)
  refine W.eq (g2 := F0 m 37 ls [.int r34, .int y2_2, .ref q26]) rfl ?_
  have hJ51 : ∀ (S51 : st_T) (u0_51 : Int32), j_X9_findCodes_51 a0 x1 rec2 y2_2 q26 S51 u0_51 = some (rr, SE) → ∀ (H : Heap) (locs : List Loc) (ls : Array Slot), st_HP X (st_A S) S51 H → va_S (st_A S) s.heap H locs → lv_has ls 4 [(0, .ref a0), (1, .int x1), (2, .int y2_2)] → W p l e { frames := 3, cells := 0, slots := 0, locals := 75 } s m args below meth c H locs 0 0 (MQ below (st_Q X (st_A S) none SE) args s 0 0 (st_A S)) (F0 m 51 ls [.int u0_51, .int y2_2, .ref q26]) := by
    intro S51 u0_51 Hf H locs ls hP hS hl
    unfold j_X9_findCodes_51 at Hf
    obtain ⟨hk_q26, Hf⟩ := c_g_some Hf
    obtain ⟨hi51, Hf⟩ := c_g_some Hf
    refine r_iast hx hb hK hP hS hk_q26 hi51 dX9_findCodes_51 (fun H locs hP hS => ?_)
    obtain ⟨S_51, eS_51, Hf⟩ := c_l_ex Hf
    have hP : st_HP X (st_A S) S_51 H := by rw [eS_51]; exact hP
    refine lv_aload_n hx hb dX9_findCodes_52 rfl (lv_at hl 0 rfl) ?_
    refine lv_iload_n hx hb dX9_findCodes_53 rfl (lv_at hl 1 rfl) ?_
    refine lv_iload_n hx hb dX9_findCodes_54 rfl (lv_at hl 2 rfl) ?_
    obtain ⟨hk_a0, Hf⟩ := c_g_some Hf
    obtain ⟨r55, T55, hq55, Hf⟩ := c_c_some Hf
    refine r_cV (n := 2) (As := [.int x1, .int y2_2]) (rest := []) ⟨hx, hb, hml, hown, hts⟩ (s_X9_gapAhead l X hq55) lkm_X9_260 (by decide +kernel) rfl (by decide) dX9_findCodes_55 rfl rfl ⟨Nat.le_of_ble_eq_true rfl, Nat.le_of_ble_eq_true rfl⟩ hk_a0 rfl hl.1 (Nat.le_of_ble_eq_true rfl) ⟨Nat.le_of_ble_eq_true rfl, Nat.le_of_ble_eq_true rfl⟩ hK hRO hA hP hS (fun H locs hP hS => ?_)
    refine W.eq (g2 := F0 m 58 ls [.int r55]) rfl ?_
    refine lv_istore_n (lv' := [(3, .int r55), (0, .ref a0), (1, .int x1), (2, .int y2_2)]) hx hb dX9_findCodes_58 rfl hl (by decide) rfl (fun ls hl => ?_)
    refine lv_aload_n hx hb dX9_findCodes_59 rfl (lv_at hl 1 rfl) ?_
    obtain ⟨hk_a0, Hf⟩ := c_g_some Hf
    obtain ⟨q60, hq60, Hf⟩ := c_n_some Hf
    refine fg_10_37 hx hb hts hown hK hP hk_a0 lkf_X9_124 hq60 dX9_findCodes_60 ?_
    refine lv_iload_n hx hb dX9_findCodes_63 rfl (lv_at hl 3 rfl) ?_
    refine lv_iload_n hx hb dX9_findCodes_64 rfl (lv_at hl 0 rfl) ?_
    have hJ119 : ∀ (S119 : st_T) (u0_119 : Int32), j_X9_findCodes_119 rec2 y2_2 q60 S119 u0_119 = some (rr, SE) → ∀ (H : Heap) (locs : List Loc) (ls : Array Slot), st_HP X (st_A S) S119 H → va_S (st_A S) s.heap H locs → lv_has ls 4 [(0, .ref a0), (1, .int x1), (2, .int y2_2)] → W p l e { frames := 3, cells := 0, slots := 0, locals := 75 } s m args below meth c H locs 0 0 (MQ below (st_Q X (st_A S) none SE) args s 0 0 (st_A S)) (F0 m 119 ls [.int u0_119, .int y2_2, .ref q60]) := by
      intro S119 u0_119 Hf H locs ls hP hS hl
      unfold j_X9_findCodes_119 at Hf
      obtain ⟨hk_q60, Hf⟩ := c_g_some Hf
      obtain ⟨hi119, Hf⟩ := c_g_some Hf
      refine r_zast hx hb hK hP hS hk_q60 hi119 dX9_findCodes_119 (fun H locs hP hS => ?_)
      obtain ⟨S_119, eS_119, Hf⟩ := c_l_ex Hf
      have hP : st_HP X (st_A S) S_119 H := by rw [eS_119]; exact hP
      refine lv_iinc (v := (y2_2 + 1)) (lv' := [(2, .int (y2_2 + 1)), (0, .ref a0), (1, .int x1)]) hx hb dX9_findCodes_120 hl (k := 2) rfl rfl (by decide) rfl (fun ls hl => ?_)
      refine lv_goto hx hb dX9_findCodes_123 (tgt := 2) (by decide) ?_
      exact hrec2 (S_119, (y2_2 + 1)) Hf _ _ _ hP hS (lv_sub hl [1, 2, 0] rfl)
    have hJ118 : ∀ (S118 : st_T), j_X9_findCodes_118 rec2 y2_2 q60 S118 = some (rr, SE) → ∀ (H : Heap) (locs : List Loc) (ls : Array Slot), st_HP X (st_A S) S118 H → va_S (st_A S) s.heap H locs → lv_has ls 4 [(0, .ref a0), (1, .int x1), (2, .int y2_2)] → W p l e { frames := 3, cells := 0, slots := 0, locals := 75 } s m args below meth c H locs 0 0 (MQ below (st_Q X (st_A S) none SE) args s 0 0 (st_A S)) (F0 m 118 ls [.int y2_2, .ref q60]) := by
      intro S118 Hf H locs ls hP hS hl
      unfold j_X9_findCodes_118 at Hf
      refine lv_iconst (v := 0) hx hb dX9_findCodes_118 (by decide) ?_
      exact hJ119 S118 0 Hf _ _ _ hP hS (lv_sub hl [0, 1, 2] rfl)
    refine lv_if_le hx hb dX9_findCodes_65 (tgt := 118) (by decide) (fun hc => ?_) (fun hc => ?_)
    · have Hf := c_i_t Hf hc
      exact hJ118 T55 Hf _ _ _ hP hS (lv_sub hl [1, 2, 3] rfl)
    have Hf := c_i_f Hf hc
    refine lv_aload_n hx hb dX9_findCodes_68 rfl (lv_at hl 1 rfl) ?_
    refine fg_10_11 hx hb hts hown hK hP hk_a0 lkf_X9_54 dX9_findCodes_69 ?_
    refine lv_if_lt hx hb dX9_findCodes_72 (tgt := 118) (by decide) (fun hc => ?_) (fun hc => ?_)
    · have Hf := c_i_t Hf hc
      exact hJ118 T55 Hf _ _ _ hP hS (lv_sub hl [1, 2, 3] rfl)
    have Hf := c_i_f Hf hc
    refine lv_iload_n hx hb dX9_findCodes_75 rfl (lv_at hl 0 rfl) ?_
    refine lv_aload_n hx hb dX9_findCodes_76 rfl (lv_at hl 1 rfl) ?_
    obtain ⟨q77, hq77, Hf⟩ := c_n_some Hf
    refine fg_10_13 hx hb hts hown hK hP hk_a0 lkf_X9_61 hq77 dX9_findCodes_77 ?_
    refine lv_aload_n hx hb dX9_findCodes_80 rfl (lv_at hl 1 rfl) ?_
    refine fg_10_11 hx hb hts hown hK hP hk_a0 lkf_X9_54 dX9_findCodes_81 ?_
    obtain ⟨hk_q77, Hf⟩ := c_g_some Hf
    obtain ⟨hi84, Hf⟩ := c_g_some Hf
    refine r_iald hx hb hK hP hk_q77 hi84 dX9_findCodes_84 ?_
    refine lv_icmp_gt hx hb dX9_findCodes_85 (tgt := 118) (by decide) (fun hc => ?_) (fun hc => ?_)
    · have Hf := c_i_t Hf hc
      exact hJ118 T55 Hf _ _ _ hP hS (lv_sub hl [1, 2, 3] rfl)
    have Hf := c_i_f Hf hc
    refine lv_aload_n hx hb dX9_findCodes_88 rfl (lv_at hl 1 rfl) ?_
    obtain ⟨q89, hq89, Hf⟩ := c_n_some Hf
    refine fg_10_35 hx hb hts hown hK hP hk_a0 lkf_X9_118 hq89 dX9_findCodes_89 ?_
    refine lv_iload_n hx hb dX9_findCodes_92 rfl (lv_at hl 3 rfl) ?_
    obtain ⟨hk_q89, Hf⟩ := c_g_some Hf
    obtain ⟨hi93, Hf⟩ := c_g_some Hf
    refine r_iald hx hb hK hP hk_q89 hi93 dX9_findCodes_93 ?_
    refine lv_if_lt hx hb dX9_findCodes_94 (tgt := 118) (by decide) (fun hc => ?_) (fun hc => ?_)
    · have Hf := c_i_t Hf hc
      exact hJ118 T55 Hf _ _ _ hP hS (lv_sub hl [1, 2, 3] rfl)
    have Hf := c_i_f Hf hc
    refine lv_aload_n hx hb dX9_findCodes_97 rfl (lv_at hl 1 rfl) ?_
    refine fg_10_35 hx hb hts hown hK hP hk_a0 lkf_X9_118 hq89 dX9_findCodes_98 ?_
    refine lv_iload_n hx hb dX9_findCodes_101 rfl (lv_at hl 3 rfl) ?_
    obtain ⟨hi102, Hf⟩ := c_g_some Hf
    refine r_iald hx hb hK hP hk_q89 hi102 dX9_findCodes_102 ?_
    refine lv_aload_n hx hb dX9_findCodes_103 rfl (lv_at hl 1 rfl) ?_
    refine fg_10_35 hx hb hts hown hK hP hk_a0 lkf_X9_118 hq89 dX9_findCodes_104 ?_
    refine lv_iload_n hx hb dX9_findCodes_107 rfl (lv_at hl 3 rfl) ?_
    refine lv_iconst (v := 1) hx hb dX9_findCodes_108 (by decide) ?_
    refine lv_isub hx hb dX9_findCodes_109 ?_
    obtain ⟨hi110, Hf⟩ := c_g_some Hf
    refine r_iald hx hb hK hP hk_q89 hi110 dX9_findCodes_110 ?_
    refine lv_icmp_ne hx hb dX9_findCodes_111 (tgt := 118) (by decide) (fun hc => ?_) (fun hc => ?_)
    · have Hf := c_i_f Hf hc
      exact hJ118 T55 Hf _ _ _ hP hS (lv_sub hl [1, 2, 3] rfl)
    have Hf := c_i_t Hf hc
    refine lv_iconst (v := 1) hx hb dX9_findCodes_114 (by decide) ?_
    refine lv_goto hx hb dX9_findCodes_115 (tgt := 119) (by decide) ?_
    exact hJ119 T55 1 Hf _ _ _ hP hS (lv_sub hl [1, 2, 3] rfl)
  refine lv_if_ne hx hb dX9_findCodes_37 (tgt := 44) (by decide) (fun hc => ?_) (fun hc => ?_)
  · have Hf := c_i_f Hf hc
    refine lv_aload_n hx hb dX9_findCodes_44 rfl (lv_at hl 0 rfl) ?_
    refine lv_iload_n hx hb dX9_findCodes_45 rfl (lv_at hl 1 rfl) ?_
    refine lv_iload_n hx hb dX9_findCodes_46 rfl (lv_at hl 2 rfl) ?_
    refine lv_iconst (v := 1) hx hb dX9_findCodes_47 (by decide) ?_
    obtain ⟨hk_a0, Hf⟩ := c_g_some Hf
    obtain ⟨r48, T48, hq48, Hf⟩ := c_c_some Hf
    refine r_cV (n := 3) (As := [.int x1, .int y2_2, .int 1]) (rest := [.int y2_2, .ref q26]) ⟨hx, hb, hml, hown, hts⟩ (s_X9_codeBy l X hq48) lkm_X9_256 (by decide +kernel) rfl (by decide) dX9_findCodes_48 rfl rfl ⟨Nat.le_of_ble_eq_true rfl, Nat.le_of_ble_eq_true rfl⟩ hk_a0 rfl hl.1 (Nat.le_of_ble_eq_true rfl) ⟨Nat.le_of_ble_eq_true rfl, Nat.le_of_ble_eq_true rfl⟩ hK hRO hA hP hS (fun H locs hP hS => ?_)
    refine W.eq (g2 := F0 m 51 ls [.int r48, .int y2_2, .ref q26]) rfl ?_
    exact hJ51 T48 r48 Hf _ _ _ hP hS (lv_sub hl [0, 1, 2] rfl)
  have Hf := c_i_t Hf hc
  refine lv_iconst (v := (-1)) hx hb dX9_findCodes_40 (by decide) ?_
  refine lv_goto hx hb dX9_findCodes_41 (tgt := 51) (by decide) ?_
  exact hJ51 T34 (-1) Hf _ _ _ hP hS (lv_sub hl [0, 1, 2] rfl)

def f_X9_code (S : st_T) (a0 : Nat) (x1 : Int32) (x2 : Int32) : Option (Int32 × st_T) :=
  (c_g (st_K S a0 = 11) (c_l (st_pi S 1000 a0 0) (fun (S_2 : st_T) => (c_c (f_X9_isDiary S_2 a0 x1) (fun (r7 : Int32) (T7 : st_T) => (c_i (r7 = 0) (some ((-2), T7)) (c_i (x2 < 0) (some ((-2), T7)) (c_g (st_K T7 a0 = 11) (c_n (st_fr T7 1033 a0) (fun (q19 : Nat) => (c_g (st_K T7 q19 = 20) (c_g (c_in x1 (st_ln T7 q19)) (c_i (x2 < (st_ri T7 q19 (x1 : Int32).toNatClampNeg)) (c_c (f_X9_findCodes T7 a0 x1) (fun (r32 : Unit) (T32 : st_T) => (c_g (st_K T32 a0 = 11) (c_n (st_fr T32 1035 a0) (fun (q36 : Nat) => (c_g (st_K T32 q36 = 20) (c_g (c_in x2 (st_ln T32 q36)) (some ((st_ri T32 q36 (x2 : Int32).toNatClampNeg), T32))))))))) (some ((-2), T7)))))))))))))))
set_option maxRecDepth 100000 in
set_option maxHeartbeats 4000000 in
theorem s_X9_code (l : Launch) (X : st_I) {S SE : st_T} {a0 : Nat} {x1 : Int32} {x2 : Int32} {rr : Int32} (Hf : f_X9_code S a0 x1 x2 = some (rr, SE)) : Met l yX9_code (Cond.code yX9_code cX9_code 3 (some .int) :: lw_g) { frames := 4, cells := 0, slots := 0, locals := 98 } (st_P X S [.ref a0, .int x1, .int x2]) (st_Q X (st_A S) (some (.int rr)) SE) 0 0 (st_A S) := by
  refine st_ofW (by decide) (Nat.le_of_ble_eq_true rfl) ?_
  intro p e s m args below meth c hx hb hr hml hlocks hnm hts hown hK hRO hA hP hS ls hl
  have hown : s.vm.findClass RX9 = some m.cls := hown
  have hl : lv_has ls 3 [(0, .ref a0), (1, .int x1), (2, .int x2)] := hl
  unfold f_X9_code at Hf
  refine lv_aload_n hx hb dX9_code_0 rfl (lv_at hl 0 rfl) ?_
  refine lv_iconst (v := 0) hx hb dX9_code_1 (by decide) ?_
  obtain ⟨hk_a0, Hf⟩ := c_g_some Hf
  refine fp_10_0 hx hb hts hown hK hP hS hk_a0 lkf_X9_131 dX9_code_2 (fun H locs hP hS => ?_)
  obtain ⟨S_2, eS_2, Hf⟩ := c_l_ex Hf
  have hP : st_HP X (st_A S) S_2 H := by rw [eS_2]; exact hP
  refine lv_aload_n hx hb dX9_code_5 rfl (lv_at hl 0 rfl) ?_
  refine lv_iload_n hx hb dX9_code_6 rfl (lv_at hl 1 rfl) ?_
  have hk_a0 : st_K S_2 a0 = 11 := by rw [kp_pi eS_2]; exact hk_a0
  obtain ⟨r7, T7, hq7, Hf⟩ := c_c_some Hf
  refine r_cV (n := 1) (As := [.int x1]) (rest := []) ⟨hx, hb, hml, hown, hts⟩ (s_X9_isDiary l X hq7) lkm_X9_247 (by decide +kernel) rfl (by decide) dX9_code_7 rfl rfl ⟨Nat.le_of_ble_eq_true rfl, Nat.le_of_ble_eq_true rfl⟩ hk_a0 rfl hl.1 (Nat.le_of_ble_eq_true rfl) ⟨Nat.le_of_ble_eq_true rfl, Nat.le_of_ble_eq_true rfl⟩ hK hRO hA hP hS (fun H locs hP hS => ?_)
  refine W.eq (g2 := F0 m 10 ls [.int r7]) rfl ?_
  refine lv_if_eq hx hb dX9_code_10 (tgt := 27) (by decide) (fun hc => ?_) (fun hc => ?_)
  · have Hf := c_i_t Hf hc
    refine lv_bipush (v := (-2)) hx hb dX9_code_27 (by decide) ?_
    cases Hf
    exact r_iret hx hb hr rfl hlocks dX9_code_29 (Nat.le_of_ble_eq_true rfl) (Nat.le_of_ble_eq_true rfl) hP hS
  have Hf := c_i_f Hf hc
  refine lv_iload_n hx hb dX9_code_13 rfl (lv_at hl 2 rfl) ?_
  refine lv_if_lt hx hb dX9_code_14 (tgt := 27) (by decide) (fun hc => ?_) (fun hc => ?_)
  · have Hf := c_i_t Hf hc
    refine lv_bipush (v := (-2)) hx hb dX9_code_27 (by decide) ?_
    cases Hf
    exact r_iret hx hb hr rfl hlocks dX9_code_29 (Nat.le_of_ble_eq_true rfl) (Nat.le_of_ble_eq_true rfl) hP hS
  have Hf := c_i_f Hf hc
  refine lv_iload_n hx hb dX9_code_17 rfl (lv_at hl 2 rfl) ?_
  refine lv_aload_n hx hb dX9_code_18 rfl (lv_at hl 0 rfl) ?_
  obtain ⟨hk_a0, Hf⟩ := c_g_some Hf
  obtain ⟨q19, hq19, Hf⟩ := c_n_some Hf
  refine fg_10_33 hx hb hts hown hK hP hk_a0 lkf_X9_112 hq19 dX9_code_19 ?_
  refine lv_iload_n hx hb dX9_code_22 rfl (lv_at hl 1 rfl) ?_
  obtain ⟨hk_q19, Hf⟩ := c_g_some Hf
  obtain ⟨hi23, Hf⟩ := c_g_some Hf
  refine r_iald hx hb hK hP hk_q19 hi23 dX9_code_23 ?_
  refine lv_icmp_lt hx hb dX9_code_24 (tgt := 30) (by decide) (fun hc => ?_) (fun hc => ?_)
  · have Hf := c_i_t Hf hc
    refine lv_aload_n hx hb dX9_code_30 rfl (lv_at hl 0 rfl) ?_
    refine lv_iload_n hx hb dX9_code_31 rfl (lv_at hl 1 rfl) ?_
    obtain ⟨r32, T32, hq32, Hf⟩ := c_c_some Hf
    refine r_cV (n := 1) (As := [.int x1]) (rest := []) ⟨hx, hb, hml, hown, hts⟩ (s_X9_findCodes l X hq32) lkm_X9_263 (by decide +kernel) rfl (by decide) dX9_code_32 rfl rfl ⟨Nat.le_of_ble_eq_true rfl, Nat.le_of_ble_eq_true rfl⟩ hk_a0 rfl hl.1 (Nat.le_of_ble_eq_true rfl) ⟨Nat.le_of_ble_eq_true rfl, Nat.le_of_ble_eq_true rfl⟩ hK hRO hA hP hS (fun H locs hP hS => ?_)
    refine W.eq (g2 := F0 m 35 ls []) rfl ?_
    refine lv_aload_n hx hb dX9_code_35 rfl (lv_at hl 0 rfl) ?_
    obtain ⟨hk_a0, Hf⟩ := c_g_some Hf
    obtain ⟨q36, hq36, Hf⟩ := c_n_some Hf
    refine fg_10_35 hx hb hts hown hK hP hk_a0 lkf_X9_118 hq36 dX9_code_36 ?_
    refine lv_iload_n hx hb dX9_code_39 rfl (lv_at hl 2 rfl) ?_
    obtain ⟨hk_q36, Hf⟩ := c_g_some Hf
    obtain ⟨hi40, Hf⟩ := c_g_some Hf
    refine r_iald hx hb hK hP hk_q36 hi40 dX9_code_40 ?_
    cases Hf
    exact r_iret hx hb hr rfl hlocks dX9_code_41 (Nat.le_of_ble_eq_true rfl) (Nat.le_of_ble_eq_true rfl) hP hS
  have Hf := c_i_f Hf hc
  refine lv_bipush (v := (-2)) hx hb dX9_code_27 (by decide) ?_
  cases Hf
  exact r_iret hx hb hr rfl hlocks dX9_code_29 (Nat.le_of_ble_eq_true rfl) (Nat.le_of_ble_eq_true rfl) hP hS

def j_X9_look_37 (a0 : Nat) (x1 : Int32) (x2 : Int32) (x3 : Int32) (S37 : st_T) (u0_37 : Int32) : Option (Int32 × st_T) :=
  (c_g (st_K S37 a0 = 11) (c_l (st_pi S37 1000 a0 u0_37) (fun (S_37 : st_T) => (c_i ((st_fi S_37 1000 a0) ≤ 0) (c_c (f_X9_of S_37 a0 x1 x2 x3) (fun (r55 : Int32) (T55 : st_T) => (some (r55, T55)))) (some (0, S_37))))))
def j_X9_look_36 (a0 : Nat) (x1 : Int32) (x2 : Int32) (x3 : Int32) (S36 : st_T) : Option (Int32 × st_T) :=
  (j_X9_look_37 a0 x1 x2 x3 S36 1)
def f_X9_look (S : st_T) (a0 : Nat) (x1 : Int32) (x2 : Int32) (x3 : Int32) : Option (Int32 × st_T) :=
  (c_g (st_K S a0 = 11) (c_c (f_X9_isDiary S a0 x1) (fun (r3 : Int32) (T3 : st_T) => (c_i (r3 = 0) (j_X9_look_36 a0 x1 x2 x3 T3) (c_i (x2 < 0) (j_X9_look_36 a0 x1 x2 x3 T3) (c_g (st_K T3 a0 = 11) (c_n (st_fr T3 1033 a0) (fun (q15 : Nat) => (c_g (st_K T3 q15 = 20) (c_g (c_in x1 (st_ln T3 q15)) (c_i ((st_ri T3 q15 (x1 : Int32).toNatClampNeg) ≤ x2) (j_X9_look_36 a0 x1 x2 x3 T3) (c_i (x3 < 0) (j_X9_look_36 a0 x1 x2 x3 T3) (c_i (5 < x3) (j_X9_look_36 a0 x1 x2 x3 T3) (j_X9_look_37 a0 x1 x2 x3 T3 0))))))))))))))
set_option maxRecDepth 100000 in
set_option maxHeartbeats 4000000 in
theorem s_X9_look (l : Launch) (X : st_I) {S SE : st_T} {a0 : Nat} {x1 : Int32} {x2 : Int32} {x3 : Int32} {rr : Int32} (Hf : f_X9_look S a0 x1 x2 x3 = some (rr, SE)) : Met l yX9_look (Cond.code yX9_look cX9_look 4 (some .int) :: lw_g) { frames := 1, cells := 0, slots := 0, locals := 23 } (st_P X S [.ref a0, .int x1, .int x2, .int x3]) (st_Q X (st_A S) (some (.int rr)) SE) 0 0 (st_A S) := by
  refine st_ofW (by decide) (Nat.le_of_ble_eq_true rfl) ?_
  intro p e s m args below meth c hx hb hr hml hlocks hnm hts hown hK hRO hA hP hS ls hl
  have hown : s.vm.findClass RX9 = some m.cls := hown
  have hl : lv_has ls 4 [(0, .ref a0), (1, .int x1), (2, .int x2), (3, .int x3)] := hl
  unfold f_X9_look at Hf
  refine lv_aload_n hx hb dX9_look_0 rfl (lv_at hl 0 rfl) ?_
  refine lv_aload_n hx hb dX9_look_1 rfl (lv_at hl 0 rfl) ?_
  refine lv_iload_n hx hb dX9_look_2 rfl (lv_at hl 1 rfl) ?_
  obtain ⟨hk_a0, Hf⟩ := c_g_some Hf
  obtain ⟨r3, T3, hq3, Hf⟩ := c_c_some Hf
  refine r_cV (n := 1) (As := [.int x1]) (rest := [.ref a0]) ⟨hx, hb, hml, hown, hts⟩ (s_X9_isDiary l X hq3) lkm_X9_247 (by decide +kernel) rfl (by decide) dX9_look_3 rfl rfl ⟨Nat.le_of_ble_eq_true rfl, Nat.le_of_ble_eq_true rfl⟩ hk_a0 rfl hl.1 (Nat.le_of_ble_eq_true rfl) ⟨Nat.le_of_ble_eq_true rfl, Nat.le_of_ble_eq_true rfl⟩ hK hRO hA hP hS (fun H locs hP hS => ?_)
  refine W.eq (g2 := F0 m 6 ls [.int r3, .ref a0]) rfl ?_
  have hJ37 : ∀ (S37 : st_T) (u0_37 : Int32), j_X9_look_37 a0 x1 x2 x3 S37 u0_37 = some (rr, SE) → ∀ (H : Heap) (locs : List Loc) (ls : Array Slot), st_HP X (st_A S) S37 H → va_S (st_A S) s.heap H locs → lv_has ls 4 [(0, .ref a0), (1, .int x1), (2, .int x2), (3, .int x3)] → W p l e { frames := 1, cells := 0, slots := 0, locals := 23 } s m args below meth c H locs 0 0 (MQ below (st_Q X (st_A S) (some (.int rr)) SE) args s 0 0 (st_A S)) (F0 m 37 ls [.int u0_37, .ref a0]) := by
    intro S37 u0_37 Hf H locs ls hP hS hl
    unfold j_X9_look_37 at Hf
    obtain ⟨hk_a0, Hf⟩ := c_g_some Hf
    refine fp_10_0 hx hb hts hown hK hP hS hk_a0 lkf_X9_131 dX9_look_37 (fun H locs hP hS => ?_)
    obtain ⟨S_37, eS_37, Hf⟩ := c_l_ex Hf
    have hP : st_HP X (st_A S) S_37 H := by rw [eS_37]; exact hP
    refine lv_aload_n hx hb dX9_look_40 rfl (lv_at hl 0 rfl) ?_
    have hk_a0 : st_K S_37 a0 = 11 := by rw [kp_pi eS_37]; exact hk_a0
    refine fg_10_0 hx hb hts hown hK hP hk_a0 lkf_X9_131 dX9_look_41 ?_
    refine lv_if_le hx hb dX9_look_44 (tgt := 51) (by decide) (fun hc => ?_) (fun hc => ?_)
    · have Hf := c_i_t Hf hc
      refine lv_aload_n hx hb dX9_look_51 rfl (lv_at hl 0 rfl) ?_
      refine lv_iload_n hx hb dX9_look_52 rfl (lv_at hl 1 rfl) ?_
      refine lv_iload_n hx hb dX9_look_53 rfl (lv_at hl 2 rfl) ?_
      refine lv_iload_n hx hb dX9_look_54 rfl (lv_at hl 3 rfl) ?_
      obtain ⟨r55, T55, hq55, Hf⟩ := c_c_some Hf
      refine r_cV (n := 3) (As := [.int x1, .int x2, .int x3]) (rest := []) ⟨hx, hb, hml, hown, hts⟩ (s_X9_of l X hq55) lkm_X9_244 (by decide +kernel) rfl (by decide) dX9_look_55 rfl rfl ⟨Nat.le_of_ble_eq_true rfl, Nat.le_of_ble_eq_true rfl⟩ hk_a0 rfl hl.1 (Nat.le_of_ble_eq_true rfl) ⟨Nat.le_of_ble_eq_true rfl, Nat.le_of_ble_eq_true rfl⟩ hK hRO hA hP hS (fun H locs hP hS => ?_)
      refine W.eq (g2 := F0 m 58 ls [.int r55]) rfl ?_
      cases Hf
      exact r_iret hx hb hr rfl hlocks dX9_look_58 (Nat.le_of_ble_eq_true rfl) (Nat.le_of_ble_eq_true rfl) hP hS
    have Hf := c_i_f Hf hc
    refine lv_iconst (v := 0) hx hb dX9_look_47 (by decide) ?_
    refine lv_goto hx hb dX9_look_48 (tgt := 58) (by decide) ?_
    cases Hf
    exact r_iret hx hb hr rfl hlocks dX9_look_58 (Nat.le_of_ble_eq_true rfl) (Nat.le_of_ble_eq_true rfl) hP hS
  have hJ36 : ∀ (S36 : st_T), j_X9_look_36 a0 x1 x2 x3 S36 = some (rr, SE) → ∀ (H : Heap) (locs : List Loc) (ls : Array Slot), st_HP X (st_A S) S36 H → va_S (st_A S) s.heap H locs → lv_has ls 4 [(0, .ref a0), (1, .int x1), (2, .int x2), (3, .int x3)] → W p l e { frames := 1, cells := 0, slots := 0, locals := 23 } s m args below meth c H locs 0 0 (MQ below (st_Q X (st_A S) (some (.int rr)) SE) args s 0 0 (st_A S)) (F0 m 36 ls [.ref a0]) := by
    intro S36 Hf H locs ls hP hS hl
    unfold j_X9_look_36 at Hf
    refine lv_iconst (v := 1) hx hb dX9_look_36 (by decide) ?_
    exact hJ37 S36 1 Hf _ _ _ hP hS (lv_sub hl [0, 1, 2, 3] rfl)
  refine lv_if_eq hx hb dX9_look_6 (tgt := 36) (by decide) (fun hc => ?_) (fun hc => ?_)
  · have Hf := c_i_t Hf hc
    exact hJ36 T3 Hf _ _ _ hP hS (lv_sub hl [0, 1, 2, 3] rfl)
  have Hf := c_i_f Hf hc
  refine lv_iload_n hx hb dX9_look_9 rfl (lv_at hl 2 rfl) ?_
  refine lv_if_lt hx hb dX9_look_10 (tgt := 36) (by decide) (fun hc => ?_) (fun hc => ?_)
  · have Hf := c_i_t Hf hc
    exact hJ36 T3 Hf _ _ _ hP hS (lv_sub hl [0, 1, 2, 3] rfl)
  have Hf := c_i_f Hf hc
  refine lv_iload_n hx hb dX9_look_13 rfl (lv_at hl 2 rfl) ?_
  refine lv_aload_n hx hb dX9_look_14 rfl (lv_at hl 0 rfl) ?_
  obtain ⟨hk_a0, Hf⟩ := c_g_some Hf
  obtain ⟨q15, hq15, Hf⟩ := c_n_some Hf
  refine fg_10_33 hx hb hts hown hK hP hk_a0 lkf_X9_112 hq15 dX9_look_15 ?_
  refine lv_iload_n hx hb dX9_look_18 rfl (lv_at hl 1 rfl) ?_
  obtain ⟨hk_q15, Hf⟩ := c_g_some Hf
  obtain ⟨hi19, Hf⟩ := c_g_some Hf
  refine r_iald hx hb hK hP hk_q15 hi19 dX9_look_19 ?_
  refine lv_icmp_ge hx hb dX9_look_20 (tgt := 36) (by decide) (fun hc => ?_) (fun hc => ?_)
  · have Hf := c_i_t Hf hc
    exact hJ36 T3 Hf _ _ _ hP hS (lv_sub hl [0, 1, 2, 3] rfl)
  have Hf := c_i_f Hf hc
  refine lv_iload_n hx hb dX9_look_23 rfl (lv_at hl 3 rfl) ?_
  refine lv_if_lt hx hb dX9_look_24 (tgt := 36) (by decide) (fun hc => ?_) (fun hc => ?_)
  · have Hf := c_i_t Hf hc
    exact hJ36 T3 Hf _ _ _ hP hS (lv_sub hl [0, 1, 2, 3] rfl)
  have Hf := c_i_f Hf hc
  refine lv_iload_n hx hb dX9_look_27 rfl (lv_at hl 3 rfl) ?_
  refine lv_iconst (v := 5) hx hb dX9_look_28 (by decide) ?_
  refine lv_icmp_gt hx hb dX9_look_29 (tgt := 36) (by decide) (fun hc => ?_) (fun hc => ?_)
  · have Hf := c_i_t Hf hc
    exact hJ36 T3 Hf _ _ _ hP hS (lv_sub hl [0, 1, 2, 3] rfl)
  have Hf := c_i_f Hf hc
  refine lv_iconst (v := 0) hx hb dX9_look_32 (by decide) ?_
  refine lv_goto hx hb dX9_look_33 (tgt := 37) (by decide) ?_
  exact hJ37 T3 0 Hf _ _ _ hP hS (lv_sub hl [0, 1, 2, 3] rfl)

def j_X9_ten_105 (rec52 : st_T × Int32 → Option (Int32 × st_T)) (y3_52 : Int32) (S105 : st_T) : Option (Int32 × st_T) :=
  (rec52 (S105, (y3_52 + 1)))
def b_X9_ten_52 (a0 : Nat) (x1 : Int32) (x2 : Int32) (rec52 : st_T × Int32 → Option (Int32 × st_T)) (q : st_T × Int32) : Option (Int32 × st_T) :=
  (fun (S52 : st_T) (y3_52 : Int32) =>
  (c_g (st_K S52 a0 = 11) (c_n (st_fr S52 1033 a0) (fun (q54 : Nat) => (c_g (st_K S52 q54 = 20) (c_g (c_in x1 (st_ln S52 q54)) (c_i ((st_ri S52 q54 (x1 : Int32).toNatClampNeg) ≤ y3_52) (some ((-2), S52)) (c_n (st_fr S52 1037 a0) (fun (q63 : Nat) => (c_g (st_K S52 q63 = 23) (c_g (c_in y3_52 (st_ln S52 q63)) (c_i ((st_ri S52 q63 (y3_52 : Int32).toNatClampNeg) = 0) (j_X9_ten_105 rec52 y3_52 S52) (c_c (f_X9_of S52 a0 x1 y3_52 0) (fun (r76 : Int32) (T76 : st_T) => (c_i (r76 ≤ x2) (j_X9_ten_105 rec52 y3_52 T76) (c_g (st_K T76 a0 = 11) (c_c (f_X9_of T76 a0 x1 (y3_52 - 1) 1) (fun (r89 : Int32) (T89 : st_T) => (c_i (x2 ≤ r89) (j_X9_ten_105 rec52 y3_52 T89) (c_g (st_K T89 a0 = 11) (c_n (st_fr T89 1035 a0) (fun (q98 : Nat) => (c_g (st_K T89 q98 = 20) (c_g (c_in y3_52 (st_ln T89 q98)) (some ((100 + (st_ri T89 q98 (y3_52 : Int32).toNatClampNeg)), T89)))))))))))))))))))))))))) q.1 q.2
def f_X9_ten (S : st_T) (a0 : Nat) (x1 : Int32) (x2 : Int32) : Option (Int32 × st_T) :=
  (c_g (st_K S a0 = 11) (c_l (st_pi S 1000 a0 0) (fun (S_2 : st_T) => (c_c (f_X9_isDiary S_2 a0 x1) (fun (r7 : Int32) (T7 : st_T) => (c_i (r7 = 0) (some ((-3), T7)) (c_i (x2 < 0) (some ((-3), T7)) (c_i (x2 < 144) (c_g (st_K T7 a0 = 11) (c_c (f_X9_findCodes T7 a0 x1) (fun (r29 : Unit) (T29 : st_T) => (c_g (st_K T29 a0 = 11) (c_c (f_X9_lineAt T29 a0 x1 x2) (fun (r35 : Int32) (T35 : st_T) => (c_i (r35 < 0) (c_w (b_X9_ten_52 a0 x1 x2) c_N (T35, 1)) (c_g (st_K T35 a0 = 11) (c_n (st_fr T35 1035 a0) (fun (q44 : Nat) => (c_g (st_K T35 q44 = 20) (c_g (c_in r35 (st_ln T35 q44)) (some ((st_ri T35 q44 (r35 : Int32).toNatClampNeg), T35)))))))))))))) (some ((-3), T7))))))))))
set_option maxRecDepth 100000 in
set_option maxHeartbeats 4000000 in
theorem s_X9_ten (l : Launch) (X : st_I) {S SE : st_T} {a0 : Nat} {x1 : Int32} {x2 : Int32} {rr : Int32} (Hf : f_X9_ten S a0 x1 x2 = some (rr, SE)) : Met l yX9_ten (Cond.code yX9_ten cX9_ten 4 (some .int) :: lw_g) { frames := 4, cells := 0, slots := 0, locals := 98 } (st_P X S [.ref a0, .int x1, .int x2]) (st_Q X (st_A S) (some (.int rr)) SE) 0 0 (st_A S) := by
  refine st_ofW (by decide) (Nat.le_of_ble_eq_true rfl) ?_
  intro p e s m args below meth c hx hb hr hml hlocks hnm hts hown hK hRO hA hP hS ls hl
  have hown : s.vm.findClass RX9 = some m.cls := hown
  have hl : lv_has ls 4 [(0, .ref a0), (1, .int x1), (2, .int x2)] := hl
  unfold f_X9_ten at Hf
  refine lv_aload_n hx hb dX9_ten_0 rfl (lv_at hl 0 rfl) ?_
  refine lv_iconst (v := 0) hx hb dX9_ten_1 (by decide) ?_
  obtain ⟨hk_a0, Hf⟩ := c_g_some Hf
  refine fp_10_0 hx hb hts hown hK hP hS hk_a0 lkf_X9_131 dX9_ten_2 (fun H locs hP hS => ?_)
  obtain ⟨S_2, eS_2, Hf⟩ := c_l_ex Hf
  have hP : st_HP X (st_A S) S_2 H := by rw [eS_2]; exact hP
  refine lv_aload_n hx hb dX9_ten_5 rfl (lv_at hl 0 rfl) ?_
  refine lv_iload_n hx hb dX9_ten_6 rfl (lv_at hl 1 rfl) ?_
  have hk_a0 : st_K S_2 a0 = 11 := by rw [kp_pi eS_2]; exact hk_a0
  obtain ⟨r7, T7, hq7, Hf⟩ := c_c_some Hf
  refine r_cV (n := 1) (As := [.int x1]) (rest := []) ⟨hx, hb, hml, hown, hts⟩ (s_X9_isDiary l X hq7) lkm_X9_247 (by decide +kernel) rfl (by decide) dX9_ten_7 rfl rfl ⟨Nat.le_of_ble_eq_true rfl, Nat.le_of_ble_eq_true rfl⟩ hk_a0 rfl hl.1 (Nat.le_of_ble_eq_true rfl) ⟨Nat.le_of_ble_eq_true rfl, Nat.le_of_ble_eq_true rfl⟩ hK hRO hA hP hS (fun H locs hP hS => ?_)
  refine W.eq (g2 := F0 m 10 ls [.int r7]) rfl ?_
  refine lv_if_eq hx hb dX9_ten_10 (tgt := 24) (by decide) (fun hc => ?_) (fun hc => ?_)
  · have Hf := c_i_t Hf hc
    refine lv_bipush (v := (-3)) hx hb dX9_ten_24 (by decide) ?_
    cases Hf
    exact r_iret hx hb hr rfl hlocks dX9_ten_26 (Nat.le_of_ble_eq_true rfl) (Nat.le_of_ble_eq_true rfl) hP hS
  have Hf := c_i_f Hf hc
  refine lv_iload_n hx hb dX9_ten_13 rfl (lv_at hl 2 rfl) ?_
  refine lv_if_lt hx hb dX9_ten_14 (tgt := 24) (by decide) (fun hc => ?_) (fun hc => ?_)
  · have Hf := c_i_t Hf hc
    refine lv_bipush (v := (-3)) hx hb dX9_ten_24 (by decide) ?_
    cases Hf
    exact r_iret hx hb hr rfl hlocks dX9_ten_26 (Nat.le_of_ble_eq_true rfl) (Nat.le_of_ble_eq_true rfl) hP hS
  have Hf := c_i_f Hf hc
  refine lv_iload_n hx hb dX9_ten_17 rfl (lv_at hl 2 rfl) ?_
  refine lv_sipush (v := 144) hx hb dX9_ten_18 (by decide) ?_
  refine lv_icmp_lt hx hb dX9_ten_21 (tgt := 27) (by decide) (fun hc => ?_) (fun hc => ?_)
  · have Hf := c_i_t Hf hc
    refine lv_aload_n hx hb dX9_ten_27 rfl (lv_at hl 0 rfl) ?_
    refine lv_iload_n hx hb dX9_ten_28 rfl (lv_at hl 1 rfl) ?_
    obtain ⟨hk_a0, Hf⟩ := c_g_some Hf
    obtain ⟨r29, T29, hq29, Hf⟩ := c_c_some Hf
    refine r_cV (n := 1) (As := [.int x1]) (rest := []) ⟨hx, hb, hml, hown, hts⟩ (s_X9_findCodes l X hq29) lkm_X9_263 (by decide +kernel) rfl (by decide) dX9_ten_29 rfl rfl ⟨Nat.le_of_ble_eq_true rfl, Nat.le_of_ble_eq_true rfl⟩ hk_a0 rfl hl.1 (Nat.le_of_ble_eq_true rfl) ⟨Nat.le_of_ble_eq_true rfl, Nat.le_of_ble_eq_true rfl⟩ hK hRO hA hP hS (fun H locs hP hS => ?_)
    refine W.eq (g2 := F0 m 32 ls []) rfl ?_
    refine lv_aload_n hx hb dX9_ten_32 rfl (lv_at hl 0 rfl) ?_
    refine lv_iload_n hx hb dX9_ten_33 rfl (lv_at hl 1 rfl) ?_
    refine lv_iload_n hx hb dX9_ten_34 rfl (lv_at hl 2 rfl) ?_
    obtain ⟨hk_a0, Hf⟩ := c_g_some Hf
    obtain ⟨r35, T35, hq35, Hf⟩ := c_c_some Hf
    refine r_cV (n := 2) (As := [.int x1, .int x2]) (rest := []) ⟨hx, hb, hml, hown, hts⟩ (s_X9_lineAt l X hq35) lkm_X9_250 (by decide +kernel) rfl (by decide) dX9_ten_35 rfl rfl ⟨Nat.le_of_ble_eq_true rfl, Nat.le_of_ble_eq_true rfl⟩ hk_a0 rfl hl.1 (Nat.le_of_ble_eq_true rfl) ⟨Nat.le_of_ble_eq_true rfl, Nat.le_of_ble_eq_true rfl⟩ hK hRO hA hP hS (fun H locs hP hS => ?_)
    refine W.eq (g2 := F0 m 38 ls [.int r35]) rfl ?_
    refine lv_istore_n (lv' := [(3, .int r35), (0, .ref a0), (1, .int x1), (2, .int x2)]) hx hb dX9_ten_38 rfl hl (by decide) rfl (fun ls hl => ?_)
    refine lv_iload_n hx hb dX9_ten_39 rfl (lv_at hl 0 rfl) ?_
    refine lv_if_lt hx hb dX9_ten_40 (tgt := 50) (by decide) (fun hc => ?_) (fun hc => ?_)
    · have Hf := c_i_t Hf hc
      refine lv_iconst (v := 1) hx hb dX9_ten_50 (by decide) ?_
      refine lv_istore_n (lv' := [(3, .int 1), (0, .ref a0), (1, .int x1), (2, .int x2)]) hx hb dX9_ten_51 rfl hl (by decide) rfl (fun ls hl => ?_)
      refine (c_w_ind (P := fun (q : st_T × Int32) => ∀ (H : Heap) (locs : List Loc) (ls : Array Slot), st_HP X (st_A S) q.1 H → va_S (st_A S) s.heap H locs → lv_has ls 4 [(0, .ref a0), (1, .int x1), (2, .int x2), (3, .int q.2)] → W p l e { frames := 4, cells := 0, slots := 0, locals := 98 } s m args below meth c H locs 0 0 (MQ below (st_Q X (st_A S) (some (.int rr)) SE) args s 0 0 (st_A S)) (F0 m 52 ls [])) ?_ _ _ Hf) _ _ _ hP hS (lv_sub hl [1, 2, 3, 0] rfl)
      intro rec52 hrec52 q Hf H locs ls hP hS hl
      obtain ⟨S52, y3_52⟩ := q
      unfold b_X9_ten_52 at Hf
      try dsimp only at Hf
      try dsimp only at hP
      try dsimp only at hl
      try dsimp only
      refine lv_iload_n hx hb dX9_ten_52 rfl (lv_at hl 3 rfl) ?_
      refine lv_aload_n hx hb dX9_ten_53 rfl (lv_at hl 0 rfl) ?_
      obtain ⟨hk_a0, Hf⟩ := c_g_some Hf
      obtain ⟨q54, hq54, Hf⟩ := c_n_some Hf
      refine fg_10_33 hx hb hts hown hK hP hk_a0 lkf_X9_112 hq54 dX9_ten_54 ?_
      refine lv_iload_n hx hb dX9_ten_57 rfl (lv_at hl 1 rfl) ?_
      obtain ⟨hk_q54, Hf⟩ := c_g_some Hf
      obtain ⟨hi58, Hf⟩ := c_g_some Hf
      refine r_iald hx hb hK hP hk_q54 hi58 dX9_ten_58 ?_
      refine lv_icmp_ge hx hb dX9_ten_59 (tgt := 111) (by decide) (fun hc => ?_) (fun hc => ?_)
      · have Hf := c_i_t Hf hc
        refine lv_bipush (v := (-2)) hx hb dX9_ten_111 (by decide) ?_
        cases Hf
        exact r_iret hx hb hr rfl hlocks dX9_ten_113 (Nat.le_of_ble_eq_true rfl) (Nat.le_of_ble_eq_true rfl) hP hS
      have Hf := c_i_f Hf hc
      refine lv_aload_n hx hb dX9_ten_62 rfl (lv_at hl 0 rfl) ?_
      obtain ⟨q63, hq63, Hf⟩ := c_n_some Hf
      refine fg_10_37 hx hb hts hown hK hP hk_a0 lkf_X9_124 hq63 dX9_ten_63 ?_
      refine lv_iload_n hx hb dX9_ten_66 rfl (lv_at hl 3 rfl) ?_
      obtain ⟨hk_q63, Hf⟩ := c_g_some Hf
      obtain ⟨hi67, Hf⟩ := c_g_some Hf
      refine r_zald hx hb hK hP hk_q63 hi67 dX9_ten_67 ?_
      have hJ105 : ∀ (S105 : st_T), j_X9_ten_105 rec52 y3_52 S105 = some (rr, SE) → ∀ (H : Heap) (locs : List Loc) (ls : Array Slot), st_HP X (st_A S) S105 H → va_S (st_A S) s.heap H locs → lv_has ls 4 [(0, .ref a0), (1, .int x1), (2, .int x2), (3, .int y3_52)] → W p l e { frames := 4, cells := 0, slots := 0, locals := 98 } s m args below meth c H locs 0 0 (MQ below (st_Q X (st_A S) (some (.int rr)) SE) args s 0 0 (st_A S)) (F0 m 105 ls []) := by
        intro S105 Hf H locs ls hP hS hl
        unfold j_X9_ten_105 at Hf
        refine lv_iinc (v := (y3_52 + 1)) (lv' := [(3, .int (y3_52 + 1)), (0, .ref a0), (1, .int x1), (2, .int x2)]) hx hb dX9_ten_105 hl (k := 3) rfl rfl (by decide) rfl (fun ls hl => ?_)
        refine lv_goto hx hb dX9_ten_108 (tgt := 52) (by decide) ?_
        exact hrec52 (S105, (y3_52 + 1)) Hf _ _ _ hP hS (lv_sub hl [1, 2, 3, 0] rfl)
      refine lv_if_eq hx hb dX9_ten_68 (tgt := 105) (by decide) (fun hc => ?_) (fun hc => ?_)
      · have Hf := c_i_t Hf hc
        exact hJ105 S52 Hf _ _ _ hP hS (lv_sub hl [0, 1, 2, 3] rfl)
      have Hf := c_i_f Hf hc
      refine lv_iload_n hx hb dX9_ten_71 rfl (lv_at hl 2 rfl) ?_
      refine lv_aload_n hx hb dX9_ten_72 rfl (lv_at hl 0 rfl) ?_
      refine lv_iload_n hx hb dX9_ten_73 rfl (lv_at hl 1 rfl) ?_
      refine lv_iload_n hx hb dX9_ten_74 rfl (lv_at hl 3 rfl) ?_
      refine lv_iconst (v := 0) hx hb dX9_ten_75 (by decide) ?_
      obtain ⟨r76, T76, hq76, Hf⟩ := c_c_some Hf
      refine r_cV (n := 3) (As := [.int x1, .int y3_52, .int 0]) (rest := [.int x2]) ⟨hx, hb, hml, hown, hts⟩ (s_X9_of l X hq76) lkm_X9_244 (by decide +kernel) rfl (by decide) dX9_ten_76 rfl rfl ⟨Nat.le_of_ble_eq_true rfl, Nat.le_of_ble_eq_true rfl⟩ hk_a0 rfl hl.1 (Nat.le_of_ble_eq_true rfl) ⟨Nat.le_of_ble_eq_true rfl, Nat.le_of_ble_eq_true rfl⟩ hK hRO hA hP hS (fun H locs hP hS => ?_)
      refine W.eq (g2 := F0 m 79 ls [.int r76, .int x2]) rfl ?_
      refine lv_icmp_ge hx hb dX9_ten_79 (tgt := 105) (by decide) (fun hc => ?_) (fun hc => ?_)
      · have Hf := c_i_t Hf hc
        exact hJ105 T76 Hf _ _ _ hP hS (lv_sub hl [0, 1, 2, 3] rfl)
      have Hf := c_i_f Hf hc
      refine lv_iload_n hx hb dX9_ten_82 rfl (lv_at hl 2 rfl) ?_
      refine lv_aload_n hx hb dX9_ten_83 rfl (lv_at hl 0 rfl) ?_
      refine lv_iload_n hx hb dX9_ten_84 rfl (lv_at hl 1 rfl) ?_
      refine lv_iload_n hx hb dX9_ten_85 rfl (lv_at hl 3 rfl) ?_
      refine lv_iconst (v := 1) hx hb dX9_ten_86 (by decide) ?_
      refine lv_isub hx hb dX9_ten_87 ?_
      refine lv_iconst (v := 1) hx hb dX9_ten_88 (by decide) ?_
      obtain ⟨hk_a0, Hf⟩ := c_g_some Hf
      obtain ⟨r89, T89, hq89, Hf⟩ := c_c_some Hf
      refine r_cV (n := 3) (As := [.int x1, .int (y3_52 - 1), .int 1]) (rest := [.int x2]) ⟨hx, hb, hml, hown, hts⟩ (s_X9_of l X hq89) lkm_X9_244 (by decide +kernel) rfl (by decide) dX9_ten_89 rfl rfl ⟨Nat.le_of_ble_eq_true rfl, Nat.le_of_ble_eq_true rfl⟩ hk_a0 rfl hl.1 (Nat.le_of_ble_eq_true rfl) ⟨Nat.le_of_ble_eq_true rfl, Nat.le_of_ble_eq_true rfl⟩ hK hRO hA hP hS (fun H locs hP hS => ?_)
      refine W.eq (g2 := F0 m 92 ls [.int r89, .int x2]) rfl ?_
      refine lv_icmp_le hx hb dX9_ten_92 (tgt := 105) (by decide) (fun hc => ?_) (fun hc => ?_)
      · have Hf := c_i_t Hf hc
        exact hJ105 T89 Hf _ _ _ hP hS (lv_sub hl [0, 1, 2, 3] rfl)
      have Hf := c_i_f Hf hc
      refine lv_bipush (v := 100) hx hb dX9_ten_95 (by decide) ?_
      refine lv_aload_n hx hb dX9_ten_97 rfl (lv_at hl 0 rfl) ?_
      obtain ⟨hk_a0, Hf⟩ := c_g_some Hf
      obtain ⟨q98, hq98, Hf⟩ := c_n_some Hf
      refine fg_10_35 hx hb hts hown hK hP hk_a0 lkf_X9_118 hq98 dX9_ten_98 ?_
      refine lv_iload_n hx hb dX9_ten_101 rfl (lv_at hl 3 rfl) ?_
      obtain ⟨hk_q98, Hf⟩ := c_g_some Hf
      obtain ⟨hi102, Hf⟩ := c_g_some Hf
      refine r_iald hx hb hK hP hk_q98 hi102 dX9_ten_102 ?_
      refine lv_iadd hx hb dX9_ten_103 ?_
      cases Hf
      exact r_iret hx hb hr rfl hlocks dX9_ten_104 (Nat.le_of_ble_eq_true rfl) (Nat.le_of_ble_eq_true rfl) hP hS
    have Hf := c_i_f Hf hc
    refine lv_aload_n hx hb dX9_ten_43 rfl (lv_at hl 1 rfl) ?_
    obtain ⟨hk_a0, Hf⟩ := c_g_some Hf
    obtain ⟨q44, hq44, Hf⟩ := c_n_some Hf
    refine fg_10_35 hx hb hts hown hK hP hk_a0 lkf_X9_118 hq44 dX9_ten_44 ?_
    refine lv_iload_n hx hb dX9_ten_47 rfl (lv_at hl 0 rfl) ?_
    obtain ⟨hk_q44, Hf⟩ := c_g_some Hf
    obtain ⟨hi48, Hf⟩ := c_g_some Hf
    refine r_iald hx hb hK hP hk_q44 hi48 dX9_ten_48 ?_
    cases Hf
    exact r_iret hx hb hr rfl hlocks dX9_ten_49 (Nat.le_of_ble_eq_true rfl) (Nat.le_of_ble_eq_true rfl) hP hS
  have Hf := c_i_f Hf hc
  refine lv_bipush (v := (-3)) hx hb dX9_ten_24 (by decide) ?_
  cases Hf
  exact r_iret hx hb hr rfl hlocks dX9_ten_26 (Nat.le_of_ble_eq_true rfl) (Nat.le_of_ble_eq_true rfl) hP hS

def f_X9_known (S : st_T) (a0 : Nat) (x1 : Int32) (x2 : Int32) : Option (Int32 × st_T) :=
  (c_g (st_K S a0 = 11) (c_l (st_pi S 1000 a0 0) (fun (S_2 : st_T) => (c_i (x1 < 0) (some (0, S_2)) (c_i (4 < x1) (some (0, S_2)) (c_i (x2 < 1) (some (0, S_2)) (c_i (x2 ≤ 1000000) (c_n (st_fr S_2 1038 a0) (fun (q28 : Nat) => (c_g (st_K S_2 q28 = 20) (c_g (c_in x1 (st_ln S_2 q28)) (c_l (st_wi S_2 q28 (x1 : Int32).toNatClampNeg x2) (fun (S_33 : st_T) => (some (1, S_33)))))))) (some (0, S_2)))))))))
set_option maxRecDepth 100000 in
set_option maxHeartbeats 4000000 in
theorem s_X9_known (l : Launch) (X : st_I) {S SE : st_T} {a0 : Nat} {x1 : Int32} {x2 : Int32} {rr : Int32} (Hf : f_X9_known S a0 x1 x2 = some (rr, SE)) : Met l yX9_known (Cond.code yX9_known cX9_known 3 (some .boolean) :: lw_g) { frames := 0, cells := 0, slots := 0, locals := 0 } (st_P X S [.ref a0, .int x1, .int x2]) (st_Q X (st_A S) (some (.int rr)) SE) 0 0 (st_A S) := by
  refine st_ofW (by decide) (Nat.le_of_ble_eq_true rfl) ?_
  intro p e s m args below meth c hx hb hr hml hlocks hnm hts hown hK hRO hA hP hS ls hl
  have hown : s.vm.findClass RX9 = some m.cls := hown
  have hl : lv_has ls 3 [(0, .ref a0), (1, .int x1), (2, .int x2)] := hl
  unfold f_X9_known at Hf
  refine lv_aload_n hx hb dX9_known_0 rfl (lv_at hl 0 rfl) ?_
  refine lv_iconst (v := 0) hx hb dX9_known_1 (by decide) ?_
  obtain ⟨hk_a0, Hf⟩ := c_g_some Hf
  refine fp_10_0 hx hb hts hown hK hP hS hk_a0 lkf_X9_131 dX9_known_2 (fun H locs hP hS => ?_)
  obtain ⟨S_2, eS_2, Hf⟩ := c_l_ex Hf
  have hP : st_HP X (st_A S) S_2 H := by rw [eS_2]; exact hP
  refine lv_iload_n hx hb dX9_known_5 rfl (lv_at hl 1 rfl) ?_
  refine lv_if_lt hx hb dX9_known_6 (tgt := 25) (by decide) (fun hc => ?_) (fun hc => ?_)
  · have Hf := c_i_t Hf hc
    refine lv_iconst (v := 0) hx hb dX9_known_25 (by decide) ?_
    cases Hf
    exact r_zret hx hb hr rfl (Or.inl rfl) hlocks dX9_known_26 (Nat.le_of_ble_eq_true rfl) (Nat.le_of_ble_eq_true rfl) hP hS
  have Hf := c_i_f Hf hc
  refine lv_iload_n hx hb dX9_known_9 rfl (lv_at hl 1 rfl) ?_
  refine lv_iconst (v := 4) hx hb dX9_known_10 (by decide) ?_
  refine lv_icmp_gt hx hb dX9_known_11 (tgt := 25) (by decide) (fun hc => ?_) (fun hc => ?_)
  · have Hf := c_i_t Hf hc
    refine lv_iconst (v := 0) hx hb dX9_known_25 (by decide) ?_
    cases Hf
    exact r_zret hx hb hr rfl (Or.inl rfl) hlocks dX9_known_26 (Nat.le_of_ble_eq_true rfl) (Nat.le_of_ble_eq_true rfl) hP hS
  have Hf := c_i_f Hf hc
  refine lv_iload_n hx hb dX9_known_14 rfl (lv_at hl 2 rfl) ?_
  refine lv_iconst (v := 1) hx hb dX9_known_15 (by decide) ?_
  refine lv_icmp_lt hx hb dX9_known_16 (tgt := 25) (by decide) (fun hc => ?_) (fun hc => ?_)
  · have Hf := c_i_t Hf hc
    refine lv_iconst (v := 0) hx hb dX9_known_25 (by decide) ?_
    cases Hf
    exact r_zret hx hb hr rfl (Or.inl rfl) hlocks dX9_known_26 (Nat.le_of_ble_eq_true rfl) (Nat.le_of_ble_eq_true rfl) hP hS
  have Hf := c_i_f Hf hc
  refine lv_iload_n hx hb dX9_known_19 rfl (lv_at hl 2 rfl) ?_
  refine lv_ldc hx hb hown (hts _ lkc_X9_243) dX9_known_20 ?_
  refine lv_icmp_le hx hb dX9_known_22 (tgt := 27) (by decide) (fun hc => ?_) (fun hc => ?_)
  · have Hf := c_i_t Hf hc
    refine lv_aload_n hx hb dX9_known_27 rfl (lv_at hl 0 rfl) ?_
    have hk_a0 : st_K S_2 a0 = 11 := by rw [kp_pi eS_2]; exact hk_a0
    obtain ⟨q28, hq28, Hf⟩ := c_n_some Hf
    refine fg_10_38 hx hb hts hown hK hP hk_a0 lkf_X9_128 hq28 dX9_known_28 ?_
    refine lv_iload_n hx hb dX9_known_31 rfl (lv_at hl 1 rfl) ?_
    refine lv_iload_n hx hb dX9_known_32 rfl (lv_at hl 2 rfl) ?_
    obtain ⟨hk_q28, Hf⟩ := c_g_some Hf
    obtain ⟨hi33, Hf⟩ := c_g_some Hf
    refine r_iast hx hb hK hP hS hk_q28 hi33 dX9_known_33 (fun H locs hP hS => ?_)
    obtain ⟨S_33, eS_33, Hf⟩ := c_l_ex Hf
    have hP : st_HP X (st_A S) S_33 H := by rw [eS_33]; exact hP
    refine lv_iconst (v := 1) hx hb dX9_known_34 (by decide) ?_
    cases Hf
    exact r_zret hx hb hr rfl (Or.inr rfl) hlocks dX9_known_35 (Nat.le_of_ble_eq_true rfl) (Nat.le_of_ble_eq_true rfl) hP hS
  have Hf := c_i_f Hf hc
  refine lv_iconst (v := 0) hx hb dX9_known_25 (by decide) ?_
  cases Hf
  exact r_zret hx hb hr rfl (Or.inl rfl) hlocks dX9_known_26 (Nat.le_of_ble_eq_true rfl) (Nat.le_of_ble_eq_true rfl) hP hS

def j_X9_isOf_30 (u0_20 : Int32) (S30 : st_T) (u0_30 : Int32) : Option (Int32 × st_T) :=
  (c_i (u0_20 = u0_30) (some (1, S30)) (some (0, S30)))
def j_X9_isOf_20 (x2 : Int32) (S20 : st_T) (u0_20 : Int32) : Option (Int32 × st_T) :=
  (c_i (x2 = 1) (j_X9_isOf_30 u0_20 S20 1) (j_X9_isOf_30 u0_20 S20 0))
def f_X9_isOf (S : st_T) (a0 : Nat) (x1 : Int32) (x2 : Int32) : Option (Int32 × st_T) :=
  (c_i (2 ≤ x2) (c_g (st_K S a0 = 11) (c_n (st_fr S 1031 a0) (fun (q42 : Nat) => (c_g (st_K S q42 = 20) (c_g (c_in x1 (st_ln S q42)) (c_i ((st_ri S q42 (x1 : Int32).toNatClampNeg) = (x2 - 2)) (some (1, S)) (some (0, S)))))))) (c_g (st_K S a0 = 11) (c_n (st_fr S 1030 a0) (fun (q6 : Nat) => (c_g (st_K S q6 = 20) (c_g (c_in x1 (st_ln S q6)) (c_i ((st_ri S q6 (x1 : Int32).toNatClampNeg) ≤ 4) (j_X9_isOf_20 x2 S 0) (j_X9_isOf_20 x2 S 1))))))))
set_option maxRecDepth 100000 in
set_option maxHeartbeats 4000000 in
theorem s_X9_isOf (l : Launch) (X : st_I) {S SE : st_T} {a0 : Nat} {x1 : Int32} {x2 : Int32} {rr : Int32} (Hf : f_X9_isOf S a0 x1 x2 = some (rr, SE)) : Met l yX9_isOf (Cond.code yX9_isOf cX9_isOf 3 (some .boolean) :: lw_g) { frames := 0, cells := 0, slots := 0, locals := 0 } (st_P X S [.ref a0, .int x1, .int x2]) (st_Q X (st_A S) (some (.int rr)) SE) 0 0 (st_A S) := by
  refine st_ofW (by decide) (Nat.le_of_ble_eq_true rfl) ?_
  intro p e s m args below meth c hx hb hr hml hlocks hnm hts hown hK hRO hA hP hS ls hl
  have hown : s.vm.findClass RX9 = some m.cls := hown
  have hl : lv_has ls 3 [(0, .ref a0), (1, .int x1), (2, .int x2)] := hl
  unfold f_X9_isOf at Hf
  refine lv_iload_n hx hb dX9_isOf_0 rfl (lv_at hl 2 rfl) ?_
  refine lv_iconst (v := 2) hx hb dX9_isOf_1 (by decide) ?_
  refine lv_icmp_ge hx hb dX9_isOf_2 (tgt := 41) (by decide) (fun hc => ?_) (fun hc => ?_)
  · have Hf := c_i_t Hf hc
    refine lv_aload_n hx hb dX9_isOf_41 rfl (lv_at hl 0 rfl) ?_
    obtain ⟨hk_a0, Hf⟩ := c_g_some Hf
    obtain ⟨q42, hq42, Hf⟩ := c_n_some Hf
    refine fg_10_31 hx hb hts hown hK hP hk_a0 lkf_X9_106 hq42 dX9_isOf_42 ?_
    refine lv_iload_n hx hb dX9_isOf_45 rfl (lv_at hl 1 rfl) ?_
    obtain ⟨hk_q42, Hf⟩ := c_g_some Hf
    obtain ⟨hi46, Hf⟩ := c_g_some Hf
    refine r_iald hx hb hK hP hk_q42 hi46 dX9_isOf_46 ?_
    refine lv_iload_n hx hb dX9_isOf_47 rfl (lv_at hl 2 rfl) ?_
    refine lv_iconst (v := 2) hx hb dX9_isOf_48 (by decide) ?_
    refine lv_isub hx hb dX9_isOf_49 ?_
    refine lv_icmp_ne hx hb dX9_isOf_50 (tgt := 57) (by decide) (fun hc => ?_) (fun hc => ?_)
    · have Hf := c_i_f Hf hc
      refine lv_iconst (v := 0) hx hb dX9_isOf_57 (by decide) ?_
      cases Hf
      exact r_zret hx hb hr rfl (Or.inl rfl) hlocks dX9_isOf_58 (Nat.le_of_ble_eq_true rfl) (Nat.le_of_ble_eq_true rfl) hP hS
    have Hf := c_i_t Hf hc
    refine lv_iconst (v := 1) hx hb dX9_isOf_53 (by decide) ?_
    refine lv_goto hx hb dX9_isOf_54 (tgt := 58) (by decide) ?_
    cases Hf
    exact r_zret hx hb hr rfl (Or.inr rfl) hlocks dX9_isOf_58 (Nat.le_of_ble_eq_true rfl) (Nat.le_of_ble_eq_true rfl) hP hS
  have Hf := c_i_f Hf hc
  refine lv_aload_n hx hb dX9_isOf_5 rfl (lv_at hl 0 rfl) ?_
  obtain ⟨hk_a0, Hf⟩ := c_g_some Hf
  obtain ⟨q6, hq6, Hf⟩ := c_n_some Hf
  refine fg_10_30 hx hb hts hown hK hP hk_a0 lkf_X9_103 hq6 dX9_isOf_6 ?_
  refine lv_iload_n hx hb dX9_isOf_9 rfl (lv_at hl 1 rfl) ?_
  obtain ⟨hk_q6, Hf⟩ := c_g_some Hf
  obtain ⟨hi10, Hf⟩ := c_g_some Hf
  refine r_iald hx hb hK hP hk_q6 hi10 dX9_isOf_10 ?_
  refine lv_iconst (v := 4) hx hb dX9_isOf_11 (by decide) ?_
  have hJ20 : ∀ (S20 : st_T) (u0_20 : Int32), j_X9_isOf_20 x2 S20 u0_20 = some (rr, SE) → ∀ (H : Heap) (locs : List Loc) (ls : Array Slot), st_HP X (st_A S) S20 H → va_S (st_A S) s.heap H locs → lv_has ls 3 [(2, .int x2)] → W p l e { frames := 0, cells := 0, slots := 0, locals := 0 } s m args below meth c H locs 0 0 (MQ below (st_Q X (st_A S) (some (.int rr)) SE) args s 0 0 (st_A S)) (F0 m 20 ls [.int u0_20]) := by
    intro S20 u0_20 Hf H locs ls hP hS hl
    unfold j_X9_isOf_20 at Hf
    refine lv_iload_n hx hb dX9_isOf_20 rfl (lv_at hl 0 rfl) ?_
    refine lv_iconst (v := 1) hx hb dX9_isOf_21 (by decide) ?_
    have hJ30 : ∀ (S30 : st_T) (u0_30 : Int32), j_X9_isOf_30 u0_20 S30 u0_30 = some (rr, SE) → ∀ (H : Heap) (locs : List Loc) (ls : Array Slot), st_HP X (st_A S) S30 H → va_S (st_A S) s.heap H locs → lv_has ls 3 [] → W p l e { frames := 0, cells := 0, slots := 0, locals := 0 } s m args below meth c H locs 0 0 (MQ below (st_Q X (st_A S) (some (.int rr)) SE) args s 0 0 (st_A S)) (F0 m 30 ls [.int u0_30, .int u0_20]) := by
      intro S30 u0_30 Hf H locs ls hP hS hl
      unfold j_X9_isOf_30 at Hf
      refine lv_icmp_ne hx hb dX9_isOf_30 (tgt := 37) (by decide) (fun hc => ?_) (fun hc => ?_)
      · have Hf := c_i_f Hf hc
        refine lv_iconst (v := 0) hx hb dX9_isOf_37 (by decide) ?_
        refine lv_goto hx hb dX9_isOf_38 (tgt := 58) (by decide) ?_
        cases Hf
        exact r_zret hx hb hr rfl (Or.inl rfl) hlocks dX9_isOf_58 (Nat.le_of_ble_eq_true rfl) (Nat.le_of_ble_eq_true rfl) hP hS
      have Hf := c_i_t Hf hc
      refine lv_iconst (v := 1) hx hb dX9_isOf_33 (by decide) ?_
      refine lv_goto hx hb dX9_isOf_34 (tgt := 58) (by decide) ?_
      cases Hf
      exact r_zret hx hb hr rfl (Or.inr rfl) hlocks dX9_isOf_58 (Nat.le_of_ble_eq_true rfl) (Nat.le_of_ble_eq_true rfl) hP hS
    refine lv_icmp_ne hx hb dX9_isOf_22 (tgt := 29) (by decide) (fun hc => ?_) (fun hc => ?_)
    · have Hf := c_i_f Hf hc
      refine lv_iconst (v := 0) hx hb dX9_isOf_29 (by decide) ?_
      exact hJ30 S20 0 Hf _ _ _ hP hS (lv_sub hl [] rfl)
    have Hf := c_i_t Hf hc
    refine lv_iconst (v := 1) hx hb dX9_isOf_25 (by decide) ?_
    refine lv_goto hx hb dX9_isOf_26 (tgt := 30) (by decide) ?_
    exact hJ30 S20 1 Hf _ _ _ hP hS (lv_sub hl [] rfl)
  refine lv_icmp_le hx hb dX9_isOf_12 (tgt := 19) (by decide) (fun hc => ?_) (fun hc => ?_)
  · have Hf := c_i_t Hf hc
    refine lv_iconst (v := 0) hx hb dX9_isOf_19 (by decide) ?_
    exact hJ20 S 0 Hf _ _ _ hP hS (lv_sub hl [2] rfl)
  have Hf := c_i_f Hf hc
  refine lv_iconst (v := 1) hx hb dX9_isOf_15 (by decide) ?_
  refine lv_goto hx hb dX9_isOf_16 (tgt := 20) (by decide) ?_
  exact hJ20 S 1 Hf _ _ _ hP hS (lv_sub hl [2] rfl)

def j_X9_sumOf_37 (rec5 : st_T × Int64 × Int32 → Option (Int64 × st_T)) (y2_5 : Int64) (y4_5 : Int32) (S37 : st_T) (u0_37 : Int64) : Option (Int64 × st_T) :=
  (c_l (y2_5 + u0_37) (fun (z2_38 : Int64) => (rec5 (S37, z2_38, (y4_5 + 1)))))
def b_X9_sumOf_5 (a0 : Nat) (x1 : Int32) (rec5 : st_T × Int64 × Int32 → Option (Int64 × st_T)) (q : st_T × Int64 × Int32) : Option (Int64 × st_T) :=
  (fun (S5 : st_T) (y2_5 : Int64) (y4_5 : Int32) =>
  (c_g (st_K S5 a0 = 11) (c_i ((st_fi S5 1027 a0) ≤ y4_5) (some (y2_5, S5)) (c_c (f_X9_isOf S5 a0 y4_5 x1) (fun (r19 : Int32) (T19 : st_T) => (c_i (r19 = 0) (j_X9_sumOf_37 rec5 y2_5 y4_5 T19 0) (c_g (st_K T19 a0 = 11) (c_n (st_fr T19 1032 a0) (fun (q26 : Nat) => (c_g (st_K T19 q26 = 20) (c_g (c_in y4_5 (st_ln T19 q26)) (j_X9_sumOf_37 rec5 y2_5 y4_5 T19 (((st_ri T19 q26 (y4_5 : Int32).toNatClampNeg) : Int32).toInt64))))))))))))) q.1 q.2.1 q.2.2
def f_X9_sumOf (S : st_T) (a0 : Nat) (x1 : Int32) : Option (Int64 × st_T) :=
  (c_w (b_X9_sumOf_5 a0 x1) c_N (S, 0, 0))
set_option maxRecDepth 100000 in
set_option maxHeartbeats 4000000 in
theorem s_X9_sumOf (l : Launch) (X : st_I) {S SE : st_T} {a0 : Nat} {x1 : Int32} {rr : Int64} (Hf : f_X9_sumOf S a0 x1 = some (rr, SE)) : Met l yX9_sumOf (Cond.code yX9_sumOf cX9_sumOf 5 (some .long) :: lw_g) { frames := 1, cells := 0, slots := 0, locals := 22 } (st_P X S [.ref a0, .int x1]) (st_Q X (st_A S) (some (.long rr)) SE) 0 0 (st_A S) := by
  refine st_ofW (by decide) (Nat.le_of_ble_eq_true rfl) ?_
  intro p e s m args below meth c hx hb hr hml hlocks hnm hts hown hK hRO hA hP hS ls hl
  have hown : s.vm.findClass RX9 = some m.cls := hown
  have hl : lv_has ls 5 [(0, .ref a0), (1, .int x1)] := hl
  unfold f_X9_sumOf at Hf
  refine lv_lconst (v := 0) hx hb dX9_sumOf_0 (by decide) ?_
  refine lv_lstore_n (lv' := [(2, .long 0), (0, .ref a0), (1, .int x1)]) hx hb dX9_sumOf_1 rfl hl (by decide) rfl (fun ls hl => ?_)
  refine lv_iconst (v := 0) hx hb dX9_sumOf_2 (by decide) ?_
  refine lv_istore (lv' := [(4, .int 0), (2, .long 0), (0, .ref a0), (1, .int x1)]) hx hb dX9_sumOf_3 hl (by decide) rfl (fun ls hl => ?_)
  refine (c_w_ind (P := fun (q : st_T × Int64 × Int32) => ∀ (H : Heap) (locs : List Loc) (ls : Array Slot), st_HP X (st_A S) q.1 H → va_S (st_A S) s.heap H locs → lv_has ls 5 [(0, .ref a0), (1, .int x1), (2, .long q.2.1), (4, .int q.2.2)] → W p l e { frames := 1, cells := 0, slots := 0, locals := 22 } s m args below meth c H locs 0 0 (MQ below (st_Q X (st_A S) (some (.long rr)) SE) args s 0 0 (st_A S)) (F0 m 5 ls [])) ?_ _ _ Hf) _ _ _ hP hS (lv_sub hl [2, 3, 1, 0] rfl)
  intro rec5 hrec5 q Hf H locs ls hP hS hl
  obtain ⟨S5, y2_5, y4_5⟩ := q
  unfold b_X9_sumOf_5 at Hf
  try dsimp only at Hf
  try dsimp only at hP
  try dsimp only at hl
  try dsimp only
  refine lv_iload hx hb dX9_sumOf_5 (lv_at hl 3 rfl) ?_
  refine lv_aload_n hx hb dX9_sumOf_7 rfl (lv_at hl 0 rfl) ?_
  obtain ⟨hk_a0, Hf⟩ := c_g_some Hf
  refine fg_10_27 hx hb hts hown hK hP hk_a0 lkf_X9_236 dX9_sumOf_8 ?_
  refine lv_icmp_ge hx hb dX9_sumOf_11 (tgt := 45) (by decide) (fun hc => ?_) (fun hc => ?_)
  · have Hf := c_i_t Hf hc
    refine lv_lload_n hx hb dX9_sumOf_45 rfl (lv_at hl 2 rfl) ?_
    cases Hf
    exact r_lret hx hb hr rfl hlocks dX9_sumOf_46 (Nat.le_of_ble_eq_true rfl) (Nat.le_of_ble_eq_true rfl) hP hS
  have Hf := c_i_f Hf hc
  refine lv_lload_n hx hb dX9_sumOf_14 rfl (lv_at hl 2 rfl) ?_
  refine lv_aload_n hx hb dX9_sumOf_15 rfl (lv_at hl 0 rfl) ?_
  refine lv_iload hx hb dX9_sumOf_16 (lv_at hl 3 rfl) ?_
  refine lv_iload_n hx hb dX9_sumOf_18 rfl (lv_at hl 1 rfl) ?_
  obtain ⟨r19, T19, hq19, Hf⟩ := c_c_some Hf
  refine r_cV (n := 2) (As := [.int y4_5, .int x1]) (rest := [.long y2_5]) ⟨hx, hb, hml, hown, hts⟩ (s_X9_isOf l X hq19) lkm_X9_266 (by decide +kernel) rfl (by decide) dX9_sumOf_19 rfl rfl ⟨Nat.le_of_ble_eq_true rfl, Nat.le_of_ble_eq_true rfl⟩ hk_a0 rfl hl.1 (Nat.le_of_ble_eq_true rfl) ⟨Nat.le_of_ble_eq_true rfl, Nat.le_of_ble_eq_true rfl⟩ hK hRO hA hP hS (fun H locs hP hS => ?_)
  refine W.eq (g2 := F0 m 22 ls [.int r19, .long y2_5]) rfl ?_
  have hJ37 : ∀ (S37 : st_T) (u0_37 : Int64), j_X9_sumOf_37 rec5 y2_5 y4_5 S37 u0_37 = some (rr, SE) → ∀ (H : Heap) (locs : List Loc) (ls : Array Slot), st_HP X (st_A S) S37 H → va_S (st_A S) s.heap H locs → lv_has ls 5 [(0, .ref a0), (1, .int x1), (4, .int y4_5)] → W p l e { frames := 1, cells := 0, slots := 0, locals := 22 } s m args below meth c H locs 0 0 (MQ below (st_Q X (st_A S) (some (.long rr)) SE) args s 0 0 (st_A S)) (F0 m 37 ls [.long u0_37, .long y2_5]) := by
    intro S37 u0_37 Hf H locs ls hP hS hl
    unfold j_X9_sumOf_37 at Hf
    refine lv_ladd hx hb dX9_sumOf_37 ?_
    refine lv_topl (fun z2_38 ez2_38 => ?_)
    have Hf := c_l_ren Hf ez2_38
    refine lv_lstore_n (lv' := [(2, .long z2_38), (0, .ref a0), (1, .int x1), (4, .int y4_5)]) hx hb dX9_sumOf_38 rfl hl (by decide) rfl (fun ls hl => ?_)
    refine lv_iinc (v := (y4_5 + 1)) (lv' := [(4, .int (y4_5 + 1)), (2, .long z2_38), (0, .ref a0), (1, .int x1)]) hx hb dX9_sumOf_39 hl (k := 3) rfl rfl (by decide) rfl (fun ls hl => ?_)
    refine lv_goto hx hb dX9_sumOf_42 (tgt := 5) (by decide) ?_
    exact hrec5 (S37, z2_38, (y4_5 + 1)) Hf _ _ _ hP hS (lv_sub hl [2, 3, 1, 0] rfl)
  refine lv_if_eq hx hb dX9_sumOf_22 (tgt := 36) (by decide) (fun hc => ?_) (fun hc => ?_)
  · have Hf := c_i_t Hf hc
    refine lv_lconst (v := 0) hx hb dX9_sumOf_36 (by decide) ?_
    exact hJ37 T19 0 Hf _ _ _ hP hS (lv_sub hl [0, 1, 3] rfl)
  have Hf := c_i_f Hf hc
  refine lv_aload_n hx hb dX9_sumOf_25 rfl (lv_at hl 0 rfl) ?_
  obtain ⟨hk_a0, Hf⟩ := c_g_some Hf
  obtain ⟨q26, hq26, Hf⟩ := c_n_some Hf
  refine fg_10_32 hx hb hts hown hK hP hk_a0 lkf_X9_109 hq26 dX9_sumOf_26 ?_
  refine lv_iload hx hb dX9_sumOf_29 (lv_at hl 3 rfl) ?_
  obtain ⟨hk_q26, Hf⟩ := c_g_some Hf
  obtain ⟨hi31, Hf⟩ := c_g_some Hf
  refine r_iald hx hb hK hP hk_q26 hi31 dX9_sumOf_31 ?_
  refine lv_i2l (v := ((st_ri T19 q26 (y4_5 : Int32).toNatClampNeg) : Int32).toInt64) hx hb dX9_sumOf_32 rfl ?_
  refine lv_goto hx hb dX9_sumOf_33 (tgt := 37) (by decide) ?_
  exact hJ37 T19 (((st_ri T19 q26 (y4_5 : Int32).toNatClampNeg) : Int32).toInt64) Hf _ _ _ hP hS (lv_sub hl [0, 1, 3] rfl)

def j_X9_round_77 (rec2 : st_T × Int32 → Option (Unit × st_T)) (y1_2 : Int32) (S77 : st_T) : Option (Unit × st_T) :=
  (rec2 (S77, (y1_2 + 1)))
def j_X9_round_71 (rec16 : st_T × Int32 → Option (Unit × st_T)) (y4_16 : Int32) (S71 : st_T) : Option (Unit × st_T) :=
  (rec16 (S71, (y4_16 + 1)))
def b_X9_round_16 (a0 : Nat) (rec2 : st_T × Int32 → Option (Unit × st_T)) (y1_2 : Int32) (r9 : Int64) (rec16 : st_T × Int32 → Option (Unit × st_T)) (q : st_T × Int32) : Option (Unit × st_T) :=
  (fun (S16 : st_T) (y4_16 : Int32) =>
  (c_g (st_K S16 a0 = 11) (c_i ((st_fi S16 1027 a0) ≤ y4_16) (j_X9_round_77 rec2 y1_2 S16) (c_i ((lg_cmp r9 0) ≤ 0) (j_X9_round_77 rec2 y1_2 S16) (c_c (f_X9_isOf S16 a0 y4_16 y1_2) (fun (r35 : Int32) (T35 : st_T) => (c_i (r35 = 0) (j_X9_round_71 rec16 y4_16 T35) (c_g (st_K T35 a0 = 11) (c_n (st_fr T35 1032 a0) (fun (q42 : Nat) => (c_g (st_K T35 q42 = 20) (c_g (c_in y4_16 (st_ln T35 q42)) (c_n (st_fr T35 1038 a0) (fun (q56 : Nat) => (c_g (st_K T35 q56 = 20) (c_g (c_in y1_2 (st_ln T35 q56)) (c_g (¬ r9 = 0) (c_g (c_in y4_16 (st_ln T35 q42)) (c_l (st_wi T35 q42 (y4_16 : Int32).toNatClampNeg ((((((((st_ri T35 q42 (y4_16 : Int32).toNatClampNeg) : Int32).toInt64) * (((st_ri T35 q56 (y1_2 : Int32).toNatClampNeg) : Int32).toInt64)) * 1000) / r9) : Int64).toInt32)) (fun (S_70 : st_T) => (j_X9_round_71 rec16 y4_16 S_70))))))))))))))))))))) q.1 q.2
def b_X9_round_2 (a0 : Nat) (rec2 : st_T × Int32 → Option (Unit × st_T)) (q : st_T × Int32) : Option (Unit × st_T) :=
  (fun (S2 : st_T) (y1_2 : Int32) =>
  (c_i (5 ≤ y1_2) (some ((), S2)) (c_g (st_K S2 a0 = 11) (c_c (f_X9_sumOf S2 a0 y1_2) (fun (r9 : Int64) (T9 : st_T) => (c_w (b_X9_round_16 a0 rec2 y1_2 r9) c_N (T9, 0))))))) q.1 q.2
def f_X9_round (S : st_T) (a0 : Nat) : Option (Unit × st_T) :=
  (c_w (b_X9_round_2 a0) c_N (S, 0))
set_option maxRecDepth 100000 in
set_option maxHeartbeats 4000000 in
theorem s_X9_round (l : Launch) (X : st_I) {S SE : st_T} {a0 : Nat} {rr : Unit} (Hf : f_X9_round S a0 = some (rr, SE)) : Met l yX9_round (Cond.code yX9_round cX9_round 5 (none) :: lw_g) { frames := 2, cells := 0, slots := 0, locals := 46 } (st_P X S [.ref a0]) (st_Q X (st_A S) none SE) 0 0 (st_A S) := by
  refine st_ofW (by decide) (Nat.le_of_ble_eq_true rfl) ?_
  intro p e s m args below meth c hx hb hr hml hlocks hnm hts hown hK hRO hA hP hS ls hl
  have hown : s.vm.findClass RX9 = some m.cls := hown
  have hl : lv_has ls 5 [(0, .ref a0)] := hl
  unfold f_X9_round at Hf
  refine lv_iconst (v := 0) hx hb dX9_round_0 (by decide) ?_
  refine lv_istore_n (lv' := [(1, .int 0), (0, .ref a0)]) hx hb dX9_round_1 rfl hl (by decide) rfl (fun ls hl => ?_)
  refine (c_w_ind (P := fun (q : st_T × Int32) => ∀ (H : Heap) (locs : List Loc) (ls : Array Slot), st_HP X (st_A S) q.1 H → va_S (st_A S) s.heap H locs → lv_has ls 5 [(0, .ref a0), (1, .int q.2)] → W p l e { frames := 2, cells := 0, slots := 0, locals := 46 } s m args below meth c H locs 0 0 (MQ below (st_Q X (st_A S) none SE) args s 0 0 (st_A S)) (F0 m 2 ls [])) ?_ _ _ Hf) _ _ _ hP hS (lv_sub hl [1, 0] rfl)
  intro rec2 hrec2 q Hf H locs ls hP hS hl
  obtain ⟨S2, y1_2⟩ := q
  unfold b_X9_round_2 at Hf
  try dsimp only at Hf
  try dsimp only at hP
  try dsimp only at hl
  try dsimp only
  refine lv_iload_n hx hb dX9_round_2 rfl (lv_at hl 1 rfl) ?_
  refine lv_iconst (v := 5) hx hb dX9_round_3 (by decide) ?_
  refine lv_icmp_ge hx hb dX9_round_4 (tgt := 83) (by decide) (fun hc => ?_) (fun hc => ?_)
  · have Hf := c_i_t Hf hc
    cases Hf
    exact r_vret hx hb hr rfl hlocks dX9_round_83 (Nat.le_of_ble_eq_true rfl) (Nat.le_of_ble_eq_true rfl) hP hS
  have Hf := c_i_f Hf hc
  refine lv_aload_n hx hb dX9_round_7 rfl (lv_at hl 0 rfl) ?_
  refine lv_iload_n hx hb dX9_round_8 rfl (lv_at hl 1 rfl) ?_
  obtain ⟨hk_a0, Hf⟩ := c_g_some Hf
  obtain ⟨r9, T9, hq9, Hf⟩ := c_c_some Hf
  refine r_cV (n := 1) (As := [.int y1_2]) (rest := []) ⟨hx, hb, hml, hown, hts⟩ (s_X9_sumOf l X hq9) lkm_X9_269 (by decide +kernel) rfl (by decide) dX9_round_9 rfl rfl ⟨Nat.le_of_ble_eq_true rfl, Nat.le_of_ble_eq_true rfl⟩ hk_a0 rfl hl.1 (Nat.le_of_ble_eq_true rfl) ⟨Nat.le_of_ble_eq_true rfl, Nat.le_of_ble_eq_true rfl⟩ hK hRO hA hP hS (fun H locs hP hS => ?_)
  refine W.eq (g2 := F0 m 12 ls [.long r9]) rfl ?_
  refine lv_lstore_n (lv' := [(2, .long r9), (0, .ref a0), (1, .int y1_2)]) hx hb dX9_round_12 rfl hl (by decide) rfl (fun ls hl => ?_)
  refine lv_iconst (v := 0) hx hb dX9_round_13 (by decide) ?_
  refine lv_istore (lv' := [(4, .int 0), (2, .long r9), (0, .ref a0), (1, .int y1_2)]) hx hb dX9_round_14 hl (by decide) rfl (fun ls hl => ?_)
  refine (c_w_ind (P := fun (q : st_T × Int32) => ∀ (H : Heap) (locs : List Loc) (ls : Array Slot), st_HP X (st_A S) q.1 H → va_S (st_A S) s.heap H locs → lv_has ls 5 [(0, .ref a0), (1, .int y1_2), (2, .long r9), (4, .int q.2)] → W p l e { frames := 2, cells := 0, slots := 0, locals := 46 } s m args below meth c H locs 0 0 (MQ below (st_Q X (st_A S) none SE) args s 0 0 (st_A S)) (F0 m 16 ls [])) ?_ _ _ Hf) _ _ _ hP hS (lv_sub hl [2, 3, 1, 0] rfl)
  intro rec16 hrec16 q Hf H locs ls hP hS hl
  obtain ⟨S16, y4_16⟩ := q
  unfold b_X9_round_16 at Hf
  try dsimp only at Hf
  try dsimp only at hP
  try dsimp only at hl
  try dsimp only
  refine lv_iload hx hb dX9_round_16 (lv_at hl 3 rfl) ?_
  refine lv_aload_n hx hb dX9_round_18 rfl (lv_at hl 0 rfl) ?_
  obtain ⟨hk_a0, Hf⟩ := c_g_some Hf
  refine fg_10_27 hx hb hts hown hK hP hk_a0 lkf_X9_236 dX9_round_19 ?_
  have hJ77 : ∀ (S77 : st_T), j_X9_round_77 rec2 y1_2 S77 = some (rr, SE) → ∀ (H : Heap) (locs : List Loc) (ls : Array Slot), st_HP X (st_A S) S77 H → va_S (st_A S) s.heap H locs → lv_has ls 5 [(0, .ref a0), (1, .int y1_2)] → W p l e { frames := 2, cells := 0, slots := 0, locals := 46 } s m args below meth c H locs 0 0 (MQ below (st_Q X (st_A S) none SE) args s 0 0 (st_A S)) (F0 m 77 ls []) := by
    intro S77 Hf H locs ls hP hS hl
    unfold j_X9_round_77 at Hf
    refine lv_iinc (v := (y1_2 + 1)) (lv' := [(1, .int (y1_2 + 1)), (0, .ref a0)]) hx hb dX9_round_77 hl (k := 1) rfl rfl (by decide) rfl (fun ls hl => ?_)
    refine lv_goto hx hb dX9_round_80 (tgt := 2) (by decide) ?_
    exact hrec2 (S77, (y1_2 + 1)) Hf _ _ _ hP hS (lv_sub hl [1, 0] rfl)
  refine lv_icmp_ge hx hb dX9_round_22 (tgt := 77) (by decide) (fun hc => ?_) (fun hc => ?_)
  · have Hf := c_i_t Hf hc
    exact hJ77 S16 Hf _ _ _ hP hS (lv_sub hl [0, 1] rfl)
  have Hf := c_i_f Hf hc
  refine lv_lload_n hx hb dX9_round_25 rfl (lv_at hl 2 rfl) ?_
  refine lv_lconst (v := 0) hx hb dX9_round_26 (by decide) ?_
  refine W.lcmp hx hb dX9_round_27 ?_
  refine lv_if_le hx hb dX9_round_28 (tgt := 77) (by decide) (fun hc => ?_) (fun hc => ?_)
  · have Hf := c_i_t Hf hc
    exact hJ77 S16 Hf _ _ _ hP hS (lv_sub hl [0, 1] rfl)
  have Hf := c_i_f Hf hc
  refine lv_aload_n hx hb dX9_round_31 rfl (lv_at hl 0 rfl) ?_
  refine lv_iload hx hb dX9_round_32 (lv_at hl 3 rfl) ?_
  refine lv_iload_n hx hb dX9_round_34 rfl (lv_at hl 1 rfl) ?_
  obtain ⟨r35, T35, hq35, Hf⟩ := c_c_some Hf
  refine r_cV (n := 2) (As := [.int y4_16, .int y1_2]) (rest := []) ⟨hx, hb, hml, hown, hts⟩ (s_X9_isOf l X hq35) lkm_X9_266 (by decide +kernel) rfl (by decide) dX9_round_35 rfl rfl ⟨Nat.le_of_ble_eq_true rfl, Nat.le_of_ble_eq_true rfl⟩ hk_a0 rfl hl.1 (Nat.le_of_ble_eq_true rfl) ⟨Nat.le_of_ble_eq_true rfl, Nat.le_of_ble_eq_true rfl⟩ hK hRO hA hP hS (fun H locs hP hS => ?_)
  refine W.eq (g2 := F0 m 38 ls [.int r35]) rfl ?_
  have hJ71 : ∀ (S71 : st_T), j_X9_round_71 rec16 y4_16 S71 = some (rr, SE) → ∀ (H : Heap) (locs : List Loc) (ls : Array Slot), st_HP X (st_A S) S71 H → va_S (st_A S) s.heap H locs → lv_has ls 5 [(0, .ref a0), (1, .int y1_2), (2, .long r9), (4, .int y4_16)] → W p l e { frames := 2, cells := 0, slots := 0, locals := 46 } s m args below meth c H locs 0 0 (MQ below (st_Q X (st_A S) none SE) args s 0 0 (st_A S)) (F0 m 71 ls []) := by
    intro S71 Hf H locs ls hP hS hl
    unfold j_X9_round_71 at Hf
    refine lv_iinc (v := (y4_16 + 1)) (lv' := [(4, .int (y4_16 + 1)), (0, .ref a0), (1, .int y1_2), (2, .long r9)]) hx hb dX9_round_71 hl (k := 3) rfl rfl (by decide) rfl (fun ls hl => ?_)
    refine lv_goto hx hb dX9_round_74 (tgt := 16) (by decide) ?_
    exact hrec16 (S71, (y4_16 + 1)) Hf _ _ _ hP hS (lv_sub hl [1, 2, 3, 0] rfl)
  refine lv_if_eq hx hb dX9_round_38 (tgt := 71) (by decide) (fun hc => ?_) (fun hc => ?_)
  · have Hf := c_i_t Hf hc
    exact hJ71 T35 Hf _ _ _ hP hS (lv_sub hl [0, 1, 2, 3] rfl)
  have Hf := c_i_f Hf hc
  refine lv_aload_n hx hb dX9_round_41 rfl (lv_at hl 0 rfl) ?_
  obtain ⟨hk_a0, Hf⟩ := c_g_some Hf
  obtain ⟨q42, hq42, Hf⟩ := c_n_some Hf
  refine fg_10_32 hx hb hts hown hK hP hk_a0 lkf_X9_109 hq42 dX9_round_42 ?_
  refine lv_iload hx hb dX9_round_45 (lv_at hl 3 rfl) ?_
  refine lv_aload_n hx hb dX9_round_47 rfl (lv_at hl 0 rfl) ?_
  refine fg_10_32 hx hb hts hown hK hP hk_a0 lkf_X9_109 hq42 dX9_round_48 ?_
  refine lv_iload hx hb dX9_round_51 (lv_at hl 3 rfl) ?_
  obtain ⟨hk_q42, Hf⟩ := c_g_some Hf
  obtain ⟨hi53, Hf⟩ := c_g_some Hf
  refine r_iald hx hb hK hP hk_q42 hi53 dX9_round_53 ?_
  refine lv_i2l (v := ((st_ri T35 q42 (y4_16 : Int32).toNatClampNeg) : Int32).toInt64) hx hb dX9_round_54 rfl ?_
  refine lv_aload_n hx hb dX9_round_55 rfl (lv_at hl 0 rfl) ?_
  obtain ⟨q56, hq56, Hf⟩ := c_n_some Hf
  refine fg_10_38 hx hb hts hown hK hP hk_a0 lkf_X9_128 hq56 dX9_round_56 ?_
  refine lv_iload_n hx hb dX9_round_59 rfl (lv_at hl 1 rfl) ?_
  obtain ⟨hk_q56, Hf⟩ := c_g_some Hf
  obtain ⟨hi60, Hf⟩ := c_g_some Hf
  refine r_iald hx hb hK hP hk_q56 hi60 dX9_round_60 ?_
  refine lv_i2l (v := ((st_ri T35 q56 (y1_2 : Int32).toNatClampNeg) : Int32).toInt64) hx hb dX9_round_61 rfl ?_
  refine lv_lmul hx hb dX9_round_62 ?_
  refine lv_ldc2 hx hb hown (hts _ lkc_X9_273) dX9_round_63 ?_
  refine lv_lmul hx hb dX9_round_66 ?_
  refine lv_lload_n hx hb dX9_round_67 rfl (lv_at hl 2 rfl) ?_
  obtain ⟨hd68, Hf⟩ := c_g_some Hf
  refine lv_ldiv hx hb dX9_round_68 hd68 ?_
  refine lv_l2i (v := (((((((st_ri T35 q42 (y4_16 : Int32).toNatClampNeg) : Int32).toInt64) * (((st_ri T35 q56 (y1_2 : Int32).toNatClampNeg) : Int32).toInt64)) * 1000) / r9) : Int64).toInt32) hx hb dX9_round_69 rfl ?_
  obtain ⟨hi70, Hf⟩ := c_g_some Hf
  refine r_iast hx hb hK hP hS hk_q42 hi70 dX9_round_70 (fun H locs hP hS => ?_)
  obtain ⟨S_70, eS_70, Hf⟩ := c_l_ex Hf
  have hP : st_HP X (st_A S) S_70 H := by rw [eS_70]; exact hP
  exact hJ71 S_70 Hf _ _ _ hP hS (lv_sub hl [0, 1, 2, 3] rfl)

def j_X9_rounds_137 (rec38 : st_T × Int32 × Int32 → Option (Int32 × st_T)) (y3_38 : Int32) (S137 : st_T) (u0_137 : Int32) : Option (Int32 × st_T) :=
  (rec38 (S137, u0_137, (y3_38 + 1)))
def j_X9_rounds_136 (rec38 : st_T × Int32 × Int32 → Option (Int32 × st_T)) (y2_38 : Int32) (y3_38 : Int32) (S136 : st_T) : Option (Int32 × st_T) :=
  (j_X9_rounds_137 rec38 y3_38 S136 y2_38)
def j_X9_rounds_118 (rec38 : st_T × Int32 × Int32 → Option (Int32 × st_T)) (y2_38 : Int32) (y3_38 : Int32) (y4_49 : Int32) (S118 : st_T) (u0_118 : Int32) : Option (Int32 × st_T) :=
  (c_i (y4_49 = 0) (j_X9_rounds_136 rec38 y2_38 y3_38 S118) (c_i (u0_118 ≤ y2_38) (j_X9_rounds_136 rec38 y2_38 y3_38 S118) (j_X9_rounds_137 rec38 y3_38 S118 u0_118)))
def j_X9_rounds_78 (rec49 : st_T × Int32 × Int32 → Option (Int32 × st_T)) (y5_49 : Int32) (S78 : st_T) (u0_78 : Int32) : Option (Int32 × st_T) :=
  (rec49 (S78, u0_78, (y5_49 + 1)))
def j_X9_rounds_73 (rec49 : st_T × Int32 × Int32 → Option (Int32 × st_T)) (y5_49 : Int32) (S73 : st_T) : Option (Int32 × st_T) :=
  (j_X9_rounds_78 rec49 y5_49 S73 1)
def b_X9_rounds_49 (a0 : Nat) (rec38 : st_T × Int32 × Int32 → Option (Int32 × st_T)) (y2_38 : Int32) (y3_38 : Int32) (rec49 : st_T × Int32 × Int32 → Option (Int32 × st_T)) (q : st_T × Int32 × Int32) : Option (Int32 × st_T) :=
  (fun (S49 : st_T) (y4_49 : Int32) (y5_49 : Int32) =>
  (c_g (st_K S49 a0 = 11) (c_i ((st_fi S49 1027 a0) ≤ y5_49) (c_c (f_X9_sumOf S49 a0 y3_38) (fun (r88 : Int64) (T88 : st_T) => (c_g (st_K T88 a0 = 11) (c_n (st_fr T88 1038 a0) (fun (q97 : Nat) => (c_g (st_K T88 q97 = 20) (c_g (c_in y3_38 (st_ln T88 q97)) (c_l ((((r88 / 1000) : Int64).toInt32) - (st_ri T88 q97 (y3_38 : Int32).toNatClampNeg)) (fun (z5_103 : Int32) => (c_i (0 ≤ z5_103) (j_X9_rounds_118 rec38 y2_38 y3_38 y4_49 T88 z5_103) (j_X9_rounds_118 rec38 y2_38 y3_38 y4_49 T88 (-z5_103)))))))))))) (c_i (y4_49 = 0) (c_c (f_X9_isOf S49 a0 y5_49 y3_38) (fun (r67 : Int32) (T67 : st_T) => (c_i (r67 = 0) (j_X9_rounds_78 rec49 y5_49 T67 0) (j_X9_rounds_73 rec49 y5_49 T67)))) (j_X9_rounds_73 rec49 y5_49 S49))))) q.1 q.2.1 q.2.2
def b_X9_rounds_38 (a0 : Nat) (rec38 : st_T × Int32 × Int32 → Option (Int32 × st_T)) (q : st_T × Int32 × Int32) : Option (Int32 × st_T) :=
  (fun (S38 : st_T) (y2_38 : Int32) (y3_38 : Int32) =>
  (c_i (5 ≤ y3_38) (some (y2_38, S38)) (c_w (b_X9_rounds_49 a0 rec38 y2_38 y3_38) c_N (S38, 0, 0)))) q.1 q.2.1 q.2.2
def b_X9_rounds_19 (a0 : Nat) (x1 : Int32) (rec19 : st_T × Int32 → Option (Int32 × st_T)) (q : st_T × Int32) : Option (Int32 × st_T) :=
  (fun (S19 : st_T) (y2_19 : Int32) =>
  (c_i (x1 ≤ y2_19) (c_w (b_X9_rounds_38 a0) c_N (S19, 0, 0)) (c_g (st_K S19 a0 = 11) (c_c (f_X9_round S19 a0) (fun (r25 : Unit) (T25 : st_T) => (rec19 (T25, (y2_19 + 1)))))))) q.1 q.2
def f_X9_rounds (S : st_T) (a0 : Nat) (x1 : Int32) : Option (Int32 × st_T) :=
  (c_g (st_K S a0 = 11) (c_l (st_pi S 1000 a0 0) (fun (S_2 : st_T) => (c_i (x1 < 0) (some ((-1), S_2)) (c_i (x1 ≤ 20) (c_w (b_X9_rounds_19 a0 x1) c_N (S_2, 0)) (some ((-1), S_2)))))))
set_option maxRecDepth 100000 in
set_option maxHeartbeats 4000000 in
theorem s_X9_rounds (l : Launch) (X : st_I) {S SE : st_T} {a0 : Nat} {x1 : Int32} {rr : Int32} (Hf : f_X9_rounds S a0 x1 = some (rr, SE)) : Met l yX9_rounds (Cond.code yX9_rounds cX9_rounds 6 (some .int) :: lw_g) { frames := 3, cells := 0, slots := 0, locals := 70 } (st_P X S [.ref a0, .int x1]) (st_Q X (st_A S) (some (.int rr)) SE) 0 0 (st_A S) := by
  refine st_ofW (by decide) (Nat.le_of_ble_eq_true rfl) ?_
  intro p e s m args below meth c hx hb hr hml hlocks hnm hts hown hK hRO hA hP hS ls hl
  have hown : s.vm.findClass RX9 = some m.cls := hown
  have hl : lv_has ls 6 [(0, .ref a0), (1, .int x1)] := hl
  unfold f_X9_rounds at Hf
  refine lv_aload_n hx hb dX9_rounds_0 rfl (lv_at hl 0 rfl) ?_
  refine lv_iconst (v := 0) hx hb dX9_rounds_1 (by decide) ?_
  obtain ⟨hk_a0, Hf⟩ := c_g_some Hf
  refine fp_10_0 hx hb hts hown hK hP hS hk_a0 lkf_X9_131 dX9_rounds_2 (fun H locs hP hS => ?_)
  obtain ⟨S_2, eS_2, Hf⟩ := c_l_ex Hf
  have hP : st_HP X (st_A S) S_2 H := by rw [eS_2]; exact hP
  refine lv_iload_n hx hb dX9_rounds_5 rfl (lv_at hl 1 rfl) ?_
  refine lv_if_lt hx hb dX9_rounds_6 (tgt := 15) (by decide) (fun hc => ?_) (fun hc => ?_)
  · have Hf := c_i_t Hf hc
    refine lv_iconst (v := (-1)) hx hb dX9_rounds_15 (by decide) ?_
    cases Hf
    exact r_iret hx hb hr rfl hlocks dX9_rounds_16 (Nat.le_of_ble_eq_true rfl) (Nat.le_of_ble_eq_true rfl) hP hS
  have Hf := c_i_f Hf hc
  refine lv_iload_n hx hb dX9_rounds_9 rfl (lv_at hl 1 rfl) ?_
  refine lv_bipush (v := 20) hx hb dX9_rounds_10 (by decide) ?_
  refine lv_icmp_le hx hb dX9_rounds_12 (tgt := 17) (by decide) (fun hc => ?_) (fun hc => ?_)
  · have Hf := c_i_t Hf hc
    refine lv_iconst (v := 0) hx hb dX9_rounds_17 (by decide) ?_
    refine lv_istore_n (lv' := [(2, .int 0), (0, .ref a0), (1, .int x1)]) hx hb dX9_rounds_18 rfl hl (by decide) rfl (fun ls hl => ?_)
    refine (c_w_ind (P := fun (q : st_T × Int32) => ∀ (H : Heap) (locs : List Loc) (ls : Array Slot), st_HP X (st_A S) q.1 H → va_S (st_A S) s.heap H locs → lv_has ls 6 [(0, .ref a0), (1, .int x1), (2, .int q.2)] → W p l e { frames := 3, cells := 0, slots := 0, locals := 70 } s m args below meth c H locs 0 0 (MQ below (st_Q X (st_A S) (some (.int rr)) SE) args s 0 0 (st_A S)) (F0 m 19 ls [])) ?_ _ _ Hf) _ _ _ hP hS (lv_sub hl [1, 2, 0] rfl)
    intro rec19 hrec19 q Hf H locs ls hP hS hl
    obtain ⟨S19, y2_19⟩ := q
    unfold b_X9_rounds_19 at Hf
    try dsimp only at Hf
    try dsimp only at hP
    try dsimp only at hl
    try dsimp only
    refine lv_iload_n hx hb dX9_rounds_19 rfl (lv_at hl 2 rfl) ?_
    refine lv_iload_n hx hb dX9_rounds_20 rfl (lv_at hl 1 rfl) ?_
    refine lv_icmp_ge hx hb dX9_rounds_21 (tgt := 34) (by decide) (fun hc => ?_) (fun hc => ?_)
    · have Hf := c_i_t Hf hc
      refine lv_iconst (v := 0) hx hb dX9_rounds_34 (by decide) ?_
      refine lv_istore_n (lv' := [(2, .int 0), (0, .ref a0), (1, .int x1)]) hx hb dX9_rounds_35 rfl hl (by decide) rfl (fun ls hl => ?_)
      refine lv_iconst (v := 0) hx hb dX9_rounds_36 (by decide) ?_
      refine lv_istore_n (lv' := [(3, .int 0), (2, .int 0), (0, .ref a0), (1, .int x1)]) hx hb dX9_rounds_37 rfl hl (by decide) rfl (fun ls hl => ?_)
      refine (c_w_ind (P := fun (q : st_T × Int32 × Int32) => ∀ (H : Heap) (locs : List Loc) (ls : Array Slot), st_HP X (st_A S) q.1 H → va_S (st_A S) s.heap H locs → lv_has ls 6 [(0, .ref a0), (2, .int q.2.1), (3, .int q.2.2)] → W p l e { frames := 3, cells := 0, slots := 0, locals := 70 } s m args below meth c H locs 0 0 (MQ below (st_Q X (st_A S) (some (.int rr)) SE) args s 0 0 (st_A S)) (F0 m 38 ls [])) ?_ _ _ Hf) _ _ _ hP hS (lv_sub hl [2, 1, 0] rfl)
      intro rec38 hrec38 q Hf H locs ls hP hS hl
      obtain ⟨S38, y2_38, y3_38⟩ := q
      unfold b_X9_rounds_38 at Hf
      try dsimp only at Hf
      try dsimp only at hP
      try dsimp only at hl
      try dsimp only
      refine lv_iload_n hx hb dX9_rounds_38 rfl (lv_at hl 2 rfl) ?_
      refine lv_iconst (v := 5) hx hb dX9_rounds_39 (by decide) ?_
      refine lv_icmp_ge hx hb dX9_rounds_40 (tgt := 144) (by decide) (fun hc => ?_) (fun hc => ?_)
      · have Hf := c_i_t Hf hc
        refine lv_iload_n hx hb dX9_rounds_144 rfl (lv_at hl 1 rfl) ?_
        cases Hf
        exact r_iret hx hb hr rfl hlocks dX9_rounds_145 (Nat.le_of_ble_eq_true rfl) (Nat.le_of_ble_eq_true rfl) hP hS
      have Hf := c_i_f Hf hc
      refine lv_iconst (v := 0) hx hb dX9_rounds_43 (by decide) ?_
      refine lv_istore (lv' := [(4, .int 0), (0, .ref a0), (2, .int y2_38), (3, .int y3_38)]) hx hb dX9_rounds_44 hl (by decide) rfl (fun ls hl => ?_)
      refine lv_iconst (v := 0) hx hb dX9_rounds_46 (by decide) ?_
      refine lv_istore (lv' := [(5, .int 0), (4, .int 0), (0, .ref a0), (2, .int y2_38), (3, .int y3_38)]) hx hb dX9_rounds_47 hl (by decide) rfl (fun ls hl => ?_)
      refine (c_w_ind (P := fun (q : st_T × Int32 × Int32) => ∀ (H : Heap) (locs : List Loc) (ls : Array Slot), st_HP X (st_A S) q.1 H → va_S (st_A S) s.heap H locs → lv_has ls 6 [(0, .ref a0), (2, .int y2_38), (3, .int y3_38), (4, .int q.2.1), (5, .int q.2.2)] → W p l e { frames := 3, cells := 0, slots := 0, locals := 70 } s m args below meth c H locs 0 0 (MQ below (st_Q X (st_A S) (some (.int rr)) SE) args s 0 0 (st_A S)) (F0 m 49 ls [])) ?_ _ _ Hf) _ _ _ hP hS (lv_sub hl [2, 3, 4, 1, 0] rfl)
      intro rec49 hrec49 q Hf H locs ls hP hS hl
      obtain ⟨S49, y4_49, y5_49⟩ := q
      unfold b_X9_rounds_49 at Hf
      try dsimp only at Hf
      try dsimp only at hP
      try dsimp only at hl
      try dsimp only
      refine lv_iload hx hb dX9_rounds_49 (lv_at hl 4 rfl) ?_
      refine lv_aload_n hx hb dX9_rounds_51 rfl (lv_at hl 0 rfl) ?_
      obtain ⟨hk_a0, Hf⟩ := c_g_some Hf
      refine fg_10_27 hx hb hts hown hK hP hk_a0 lkf_X9_236 dX9_rounds_52 ?_
      refine lv_icmp_ge hx hb dX9_rounds_55 (tgt := 86) (by decide) (fun hc => ?_) (fun hc => ?_)
      · have Hf := c_i_t Hf hc
        refine lv_aload_n hx hb dX9_rounds_86 rfl (lv_at hl 0 rfl) ?_
        refine lv_iload_n hx hb dX9_rounds_87 rfl (lv_at hl 2 rfl) ?_
        obtain ⟨r88, T88, hq88, Hf⟩ := c_c_some Hf
        refine r_cV (n := 1) (As := [.int y3_38]) (rest := []) ⟨hx, hb, hml, hown, hts⟩ (s_X9_sumOf l X hq88) lkm_X9_269 (by decide +kernel) rfl (by decide) dX9_rounds_88 rfl rfl ⟨Nat.le_of_ble_eq_true rfl, Nat.le_of_ble_eq_true rfl⟩ hk_a0 rfl hl.1 (Nat.le_of_ble_eq_true rfl) ⟨Nat.le_of_ble_eq_true rfl, Nat.le_of_ble_eq_true rfl⟩ hK hRO hA hP hS (fun H locs hP hS => ?_)
        refine W.eq (g2 := F0 m 91 ls [.long r88]) rfl ?_
        refine lv_ldc2 hx hb hown (hts _ lkc_X9_273) dX9_rounds_91 ?_
        refine lv_ldiv hx hb dX9_rounds_94 (by decide) ?_
        refine lv_l2i (v := ((r88 / 1000) : Int64).toInt32) hx hb dX9_rounds_95 rfl ?_
        refine lv_aload_n hx hb dX9_rounds_96 rfl (lv_at hl 0 rfl) ?_
        obtain ⟨hk_a0, Hf⟩ := c_g_some Hf
        obtain ⟨q97, hq97, Hf⟩ := c_n_some Hf
        refine fg_10_38 hx hb hts hown hK hP hk_a0 lkf_X9_128 hq97 dX9_rounds_97 ?_
        refine lv_iload_n hx hb dX9_rounds_100 rfl (lv_at hl 2 rfl) ?_
        obtain ⟨hk_q97, Hf⟩ := c_g_some Hf
        obtain ⟨hi101, Hf⟩ := c_g_some Hf
        refine r_iald hx hb hK hP hk_q97 hi101 dX9_rounds_101 ?_
        refine lv_isub hx hb dX9_rounds_102 ?_
        refine lv_topi (fun z5_103 ez5_103 => ?_)
        have Hf := c_l_ren Hf ez5_103
        refine lv_istore (lv' := [(5, .int z5_103), (0, .ref a0), (2, .int y2_38), (3, .int y3_38), (4, .int y4_49)]) hx hb dX9_rounds_103 hl (by decide) rfl (fun ls hl => ?_)
        refine lv_iload hx hb dX9_rounds_105 (lv_at hl 0 rfl) ?_
        have hJ118 : ∀ (S118 : st_T) (u0_118 : Int32), j_X9_rounds_118 rec38 y2_38 y3_38 y4_49 S118 u0_118 = some (rr, SE) → ∀ (H : Heap) (locs : List Loc) (ls : Array Slot), st_HP X (st_A S) S118 H → va_S (st_A S) s.heap H locs → lv_has ls 6 [(0, .ref a0), (2, .int y2_38), (3, .int y3_38), (4, .int y4_49)] → W p l e { frames := 3, cells := 0, slots := 0, locals := 70 } s m args below meth c H locs 0 0 (MQ below (st_Q X (st_A S) (some (.int rr)) SE) args s 0 0 (st_A S)) (F0 m 118 ls [.int u0_118]) := by
          intro S118 u0_118 Hf H locs ls hP hS hl
          unfold j_X9_rounds_118 at Hf
          refine lv_istore (lv' := [(5, .int u0_118), (0, .ref a0), (2, .int y2_38), (3, .int y3_38), (4, .int y4_49)]) hx hb dX9_rounds_118 hl (by decide) rfl (fun ls hl => ?_)
          refine lv_iload hx hb dX9_rounds_120 (lv_at hl 4 rfl) ?_
          have hJ137 : ∀ (S137 : st_T) (u0_137 : Int32), j_X9_rounds_137 rec38 y3_38 S137 u0_137 = some (rr, SE) → ∀ (H : Heap) (locs : List Loc) (ls : Array Slot), st_HP X (st_A S) S137 H → va_S (st_A S) s.heap H locs → lv_has ls 6 [(0, .ref a0), (3, .int y3_38)] → W p l e { frames := 3, cells := 0, slots := 0, locals := 70 } s m args below meth c H locs 0 0 (MQ below (st_Q X (st_A S) (some (.int rr)) SE) args s 0 0 (st_A S)) (F0 m 137 ls [.int u0_137]) := by
            intro S137 u0_137 Hf H locs ls hP hS hl
            unfold j_X9_rounds_137 at Hf
            refine lv_istore_n (lv' := [(2, .int u0_137), (0, .ref a0), (3, .int y3_38)]) hx hb dX9_rounds_137 rfl hl (by decide) rfl (fun ls hl => ?_)
            refine lv_iinc (v := (y3_38 + 1)) (lv' := [(3, .int (y3_38 + 1)), (2, .int u0_137), (0, .ref a0)]) hx hb dX9_rounds_138 hl (k := 2) rfl rfl (by decide) rfl (fun ls hl => ?_)
            refine lv_goto hx hb dX9_rounds_141 (tgt := 38) (by decide) ?_
            exact hrec38 (S137, u0_137, (y3_38 + 1)) Hf _ _ _ hP hS (lv_sub hl [2, 1, 0] rfl)
          have hJ136 : ∀ (S136 : st_T), j_X9_rounds_136 rec38 y2_38 y3_38 S136 = some (rr, SE) → ∀ (H : Heap) (locs : List Loc) (ls : Array Slot), st_HP X (st_A S) S136 H → va_S (st_A S) s.heap H locs → lv_has ls 6 [(0, .ref a0), (2, .int y2_38), (3, .int y3_38)] → W p l e { frames := 3, cells := 0, slots := 0, locals := 70 } s m args below meth c H locs 0 0 (MQ below (st_Q X (st_A S) (some (.int rr)) SE) args s 0 0 (st_A S)) (F0 m 136 ls []) := by
            intro S136 Hf H locs ls hP hS hl
            unfold j_X9_rounds_136 at Hf
            refine lv_iload_n hx hb dX9_rounds_136 rfl (lv_at hl 1 rfl) ?_
            exact hJ137 S136 y2_38 Hf _ _ _ hP hS (lv_sub hl [0, 2] rfl)
          refine lv_if_eq hx hb dX9_rounds_122 (tgt := 136) (by decide) (fun hc => ?_) (fun hc => ?_)
          · have Hf := c_i_t Hf hc
            exact hJ136 S118 Hf _ _ _ hP hS (lv_sub hl [1, 2, 3] rfl)
          have Hf := c_i_f Hf hc
          refine lv_iload hx hb dX9_rounds_125 (lv_at hl 0 rfl) ?_
          refine lv_iload_n hx hb dX9_rounds_127 rfl (lv_at hl 2 rfl) ?_
          refine lv_icmp_le hx hb dX9_rounds_128 (tgt := 136) (by decide) (fun hc => ?_) (fun hc => ?_)
          · have Hf := c_i_t Hf hc
            exact hJ136 S118 Hf _ _ _ hP hS (lv_sub hl [1, 2, 3] rfl)
          have Hf := c_i_f Hf hc
          refine lv_iload hx hb dX9_rounds_131 (lv_at hl 0 rfl) ?_
          refine lv_goto hx hb dX9_rounds_133 (tgt := 137) (by decide) ?_
          exact hJ137 S118 u0_118 Hf _ _ _ hP hS (lv_sub hl [1, 3] rfl)
        refine lv_if_ge hx hb dX9_rounds_107 (tgt := 116) (by decide) (fun hc => ?_) (fun hc => ?_)
        · have Hf := c_i_t Hf hc
          refine lv_iload hx hb dX9_rounds_116 (lv_at hl 0 rfl) ?_
          exact hJ118 T88 z5_103 Hf _ _ _ hP hS (lv_sub hl [1, 2, 3, 4] rfl)
        have Hf := c_i_f Hf hc
        refine lv_iload hx hb dX9_rounds_110 (lv_at hl 0 rfl) ?_
        refine lv_ineg hx hb dX9_rounds_112 ?_
        refine lv_goto hx hb dX9_rounds_113 (tgt := 118) (by decide) ?_
        exact hJ118 T88 (-z5_103) Hf _ _ _ hP hS (lv_sub hl [1, 2, 3, 4] rfl)
      have Hf := c_i_f Hf hc
      refine lv_iload hx hb dX9_rounds_58 (lv_at hl 3 rfl) ?_
      have hJ78 : ∀ (S78 : st_T) (u0_78 : Int32), j_X9_rounds_78 rec49 y5_49 S78 u0_78 = some (rr, SE) → ∀ (H : Heap) (locs : List Loc) (ls : Array Slot), st_HP X (st_A S) S78 H → va_S (st_A S) s.heap H locs → lv_has ls 6 [(0, .ref a0), (2, .int y2_38), (3, .int y3_38), (5, .int y5_49)] → W p l e { frames := 3, cells := 0, slots := 0, locals := 70 } s m args below meth c H locs 0 0 (MQ below (st_Q X (st_A S) (some (.int rr)) SE) args s 0 0 (st_A S)) (F0 m 78 ls [.int u0_78]) := by
        intro S78 u0_78 Hf H locs ls hP hS hl
        unfold j_X9_rounds_78 at Hf
        refine lv_istore (lv' := [(4, .int u0_78), (0, .ref a0), (2, .int y2_38), (3, .int y3_38), (5, .int y5_49)]) hx hb dX9_rounds_78 hl (by decide) rfl (fun ls hl => ?_)
        refine lv_iinc (v := (y5_49 + 1)) (lv' := [(5, .int (y5_49 + 1)), (4, .int u0_78), (0, .ref a0), (2, .int y2_38), (3, .int y3_38)]) hx hb dX9_rounds_80 hl (k := 4) rfl rfl (by decide) rfl (fun ls hl => ?_)
        refine lv_goto hx hb dX9_rounds_83 (tgt := 49) (by decide) ?_
        exact hrec49 (S78, u0_78, (y5_49 + 1)) Hf _ _ _ hP hS (lv_sub hl [2, 3, 4, 1, 0] rfl)
      have hJ73 : ∀ (S73 : st_T), j_X9_rounds_73 rec49 y5_49 S73 = some (rr, SE) → ∀ (H : Heap) (locs : List Loc) (ls : Array Slot), st_HP X (st_A S) S73 H → va_S (st_A S) s.heap H locs → lv_has ls 6 [(0, .ref a0), (2, .int y2_38), (3, .int y3_38), (5, .int y5_49)] → W p l e { frames := 3, cells := 0, slots := 0, locals := 70 } s m args below meth c H locs 0 0 (MQ below (st_Q X (st_A S) (some (.int rr)) SE) args s 0 0 (st_A S)) (F0 m 73 ls []) := by
        intro S73 Hf H locs ls hP hS hl
        unfold j_X9_rounds_73 at Hf
        refine lv_iconst (v := 1) hx hb dX9_rounds_73 (by decide) ?_
        refine lv_goto hx hb dX9_rounds_74 (tgt := 78) (by decide) ?_
        exact hJ78 S73 1 Hf _ _ _ hP hS (lv_sub hl [0, 1, 2, 3] rfl)
      refine lv_if_ne hx hb dX9_rounds_60 (tgt := 73) (by decide) (fun hc => ?_) (fun hc => ?_)
      · have Hf := c_i_f Hf hc
        exact hJ73 S49 Hf _ _ _ hP hS (lv_sub hl [0, 1, 2, 4] rfl)
      have Hf := c_i_t Hf hc
      refine lv_aload_n hx hb dX9_rounds_63 rfl (lv_at hl 0 rfl) ?_
      refine lv_iload hx hb dX9_rounds_64 (lv_at hl 4 rfl) ?_
      refine lv_iload_n hx hb dX9_rounds_66 rfl (lv_at hl 2 rfl) ?_
      obtain ⟨r67, T67, hq67, Hf⟩ := c_c_some Hf
      refine r_cV (n := 2) (As := [.int y5_49, .int y3_38]) (rest := []) ⟨hx, hb, hml, hown, hts⟩ (s_X9_isOf l X hq67) lkm_X9_266 (by decide +kernel) rfl (by decide) dX9_rounds_67 rfl rfl ⟨Nat.le_of_ble_eq_true rfl, Nat.le_of_ble_eq_true rfl⟩ hk_a0 rfl hl.1 (Nat.le_of_ble_eq_true rfl) ⟨Nat.le_of_ble_eq_true rfl, Nat.le_of_ble_eq_true rfl⟩ hK hRO hA hP hS (fun H locs hP hS => ?_)
      refine W.eq (g2 := F0 m 70 ls [.int r67]) rfl ?_
      refine lv_if_eq hx hb dX9_rounds_70 (tgt := 77) (by decide) (fun hc => ?_) (fun hc => ?_)
      · have Hf := c_i_t Hf hc
        refine lv_iconst (v := 0) hx hb dX9_rounds_77 (by decide) ?_
        exact hJ78 T67 0 Hf _ _ _ hP hS (lv_sub hl [0, 1, 2, 4] rfl)
      have Hf := c_i_f Hf hc
      exact hJ73 T67 Hf _ _ _ hP hS (lv_sub hl [0, 1, 2, 4] rfl)
    have Hf := c_i_f Hf hc
    refine lv_aload_n hx hb dX9_rounds_24 rfl (lv_at hl 0 rfl) ?_
    obtain ⟨hk_a0, Hf⟩ := c_g_some Hf
    obtain ⟨r25, T25, hq25, Hf⟩ := c_c_some Hf
    refine r_cV (n := 0) (As := []) (rest := []) ⟨hx, hb, hml, hown, hts⟩ (s_X9_round l X hq25) lkm_X9_275 (by decide +kernel) rfl (by decide) dX9_rounds_25 rfl rfl ⟨Nat.le_of_ble_eq_true rfl, Nat.le_of_ble_eq_true rfl⟩ hk_a0 rfl hl.1 (Nat.le_of_ble_eq_true rfl) ⟨Nat.le_of_ble_eq_true rfl, Nat.le_of_ble_eq_true rfl⟩ hK hRO hA hP hS (fun H locs hP hS => ?_)
    refine W.eq (g2 := F0 m 28 ls []) rfl ?_
    refine lv_iinc (v := (y2_19 + 1)) (lv' := [(2, .int (y2_19 + 1)), (0, .ref a0), (1, .int x1)]) hx hb dX9_rounds_28 hl (k := 2) rfl rfl (by decide) rfl (fun ls hl => ?_)
    refine lv_goto hx hb dX9_rounds_31 (tgt := 19) (by decide) ?_
    exact hrec19 (T25, (y2_19 + 1)) Hf _ _ _ hP hS (lv_sub hl [1, 2, 0] rfl)
  have Hf := c_i_f Hf hc
  refine lv_iconst (v := (-1)) hx hb dX9_rounds_15 (by decide) ?_
  cases Hf
  exact r_iret hx hb hr rfl hlocks dX9_rounds_16 (Nat.le_of_ble_eq_true rfl) (Nat.le_of_ble_eq_true rfl) hP hS

def f_X9_weight (S : st_T) (a0 : Nat) (x1 : Int32) : Option (Int32 × st_T) :=
  (c_g (st_K S a0 = 11) (c_l (st_pi S 1000 a0 0) (fun (S_2 : st_T) => (c_c (f_X9_isDiary S_2 a0 x1) (fun (r7 : Int32) (T7 : st_T) => (c_i (r7 = 0) (some ((-1), T7)) (c_g (st_K T7 a0 = 11) (c_n (st_fr T7 1032 a0) (fun (q14 : Nat) => (c_g (st_K T7 q14 = 20) (c_g (c_in x1 (st_ln T7 q14)) (some ((st_ri T7 q14 (x1 : Int32).toNatClampNeg), T7)))))))))))))
set_option maxRecDepth 100000 in
set_option maxHeartbeats 4000000 in
theorem s_X9_weight (l : Launch) (X : st_I) {S SE : st_T} {a0 : Nat} {x1 : Int32} {rr : Int32} (Hf : f_X9_weight S a0 x1 = some (rr, SE)) : Met l yX9_weight (Cond.code yX9_weight cX9_weight 2 (some .int) :: lw_g) { frames := 1, cells := 0, slots := 0, locals := 21 } (st_P X S [.ref a0, .int x1]) (st_Q X (st_A S) (some (.int rr)) SE) 0 0 (st_A S) := by
  refine st_ofW (by decide) (Nat.le_of_ble_eq_true rfl) ?_
  intro p e s m args below meth c hx hb hr hml hlocks hnm hts hown hK hRO hA hP hS ls hl
  have hown : s.vm.findClass RX9 = some m.cls := hown
  have hl : lv_has ls 2 [(0, .ref a0), (1, .int x1)] := hl
  unfold f_X9_weight at Hf
  refine lv_aload_n hx hb dX9_weight_0 rfl (lv_at hl 0 rfl) ?_
  refine lv_iconst (v := 0) hx hb dX9_weight_1 (by decide) ?_
  obtain ⟨hk_a0, Hf⟩ := c_g_some Hf
  refine fp_10_0 hx hb hts hown hK hP hS hk_a0 lkf_X9_131 dX9_weight_2 (fun H locs hP hS => ?_)
  obtain ⟨S_2, eS_2, Hf⟩ := c_l_ex Hf
  have hP : st_HP X (st_A S) S_2 H := by rw [eS_2]; exact hP
  refine lv_aload_n hx hb dX9_weight_5 rfl (lv_at hl 0 rfl) ?_
  refine lv_iload_n hx hb dX9_weight_6 rfl (lv_at hl 1 rfl) ?_
  have hk_a0 : st_K S_2 a0 = 11 := by rw [kp_pi eS_2]; exact hk_a0
  obtain ⟨r7, T7, hq7, Hf⟩ := c_c_some Hf
  refine r_cV (n := 1) (As := [.int x1]) (rest := []) ⟨hx, hb, hml, hown, hts⟩ (s_X9_isDiary l X hq7) lkm_X9_247 (by decide +kernel) rfl (by decide) dX9_weight_7 rfl rfl ⟨Nat.le_of_ble_eq_true rfl, Nat.le_of_ble_eq_true rfl⟩ hk_a0 rfl hl.1 (Nat.le_of_ble_eq_true rfl) ⟨Nat.le_of_ble_eq_true rfl, Nat.le_of_ble_eq_true rfl⟩ hK hRO hA hP hS (fun H locs hP hS => ?_)
  refine W.eq (g2 := F0 m 10 ls [.int r7]) rfl ?_
  refine lv_if_eq hx hb dX9_weight_10 (tgt := 22) (by decide) (fun hc => ?_) (fun hc => ?_)
  · have Hf := c_i_t Hf hc
    refine lv_iconst (v := (-1)) hx hb dX9_weight_22 (by decide) ?_
    cases Hf
    exact r_iret hx hb hr rfl hlocks dX9_weight_23 (Nat.le_of_ble_eq_true rfl) (Nat.le_of_ble_eq_true rfl) hP hS
  have Hf := c_i_f Hf hc
  refine lv_aload_n hx hb dX9_weight_13 rfl (lv_at hl 0 rfl) ?_
  obtain ⟨hk_a0, Hf⟩ := c_g_some Hf
  obtain ⟨q14, hq14, Hf⟩ := c_n_some Hf
  refine fg_10_32 hx hb hts hown hK hP hk_a0 lkf_X9_109 hq14 dX9_weight_14 ?_
  refine lv_iload_n hx hb dX9_weight_17 rfl (lv_at hl 1 rfl) ?_
  obtain ⟨hk_q14, Hf⟩ := c_g_some Hf
  obtain ⟨hi18, Hf⟩ := c_g_some Hf
  refine r_iald hx hb hK hP hk_q14 hi18 dX9_weight_18 ?_
  refine lv_goto hx hb dX9_weight_19 (tgt := 23) (by decide) ?_
  cases Hf
  exact r_iret hx hb hr rfl hlocks dX9_weight_23 (Nat.le_of_ble_eq_true rfl) (Nat.le_of_ble_eq_true rfl) hP hS

def j_X9_isIn_65 (S65 : st_T) : Option (Int32 × st_T) :=
  (some (1, S65))
def f_X9_isIn (S : st_T) (a0 : Nat) (x1 : Int32) (x2 : Int32) (x3 : Int32) : Option (Int32 × st_T) :=
  (c_i (x3 = 0) (c_g (st_K S a0 = 11) (c_n (st_fr S 1035 a0) (fun (q5 : Nat) => (c_g (st_K S q5 = 20) (c_g (c_in x1 (st_ln S q5)) (c_i ((st_ri S q5 (x1 : Int32).toNatClampNeg) = x2) (some (1, S)) (some (0, S)))))))) (c_i (x3 = 1) (c_g (st_K S a0 = 11) (c_n (st_fr S 1036 a0) (fun (q28 : Nat) => (c_g (st_K S q28 = 20) (c_g (c_in x1 (st_ln S q28)) (c_i ((st_ri S q28 (x1 : Int32).toNatClampNeg) = x2) (some (1, S)) (some (0, S)))))))) (c_g (st_K S a0 = 11) (c_n (st_fr S 1035 a0) (fun (q46 : Nat) => (c_g (st_K S q46 = 20) (c_g (c_in x1 (st_ln S q46)) (c_i ((st_ri S q46 (x1 : Int32).toNatClampNeg) = x2) (j_X9_isIn_65 S) (c_n (st_fr S 1036 a0) (fun (q56 : Nat) => (c_g (st_K S q56 = 20) (c_g (c_in x1 (st_ln S q56)) (c_i ((st_ri S q56 (x1 : Int32).toNatClampNeg) = x2) (j_X9_isIn_65 S) (some (0, S)))))))))))))))
set_option maxRecDepth 100000 in
set_option maxHeartbeats 4000000 in
theorem s_X9_isIn (l : Launch) (X : st_I) {S SE : st_T} {a0 : Nat} {x1 : Int32} {x2 : Int32} {x3 : Int32} {rr : Int32} (Hf : f_X9_isIn S a0 x1 x2 x3 = some (rr, SE)) : Met l yX9_isIn (Cond.code yX9_isIn cX9_isIn 4 (some .boolean) :: lw_g) { frames := 0, cells := 0, slots := 0, locals := 0 } (st_P X S [.ref a0, .int x1, .int x2, .int x3]) (st_Q X (st_A S) (some (.int rr)) SE) 0 0 (st_A S) := by
  refine st_ofW (by decide) (Nat.le_of_ble_eq_true rfl) ?_
  intro p e s m args below meth c hx hb hr hml hlocks hnm hts hown hK hRO hA hP hS ls hl
  have hown : s.vm.findClass RX9 = some m.cls := hown
  have hl : lv_has ls 4 [(0, .ref a0), (1, .int x1), (2, .int x2), (3, .int x3)] := hl
  unfold f_X9_isIn at Hf
  refine lv_iload_n hx hb dX9_isIn_0 rfl (lv_at hl 3 rfl) ?_
  refine lv_if_ne hx hb dX9_isIn_1 (tgt := 22) (by decide) (fun hc => ?_) (fun hc => ?_)
  · have Hf := c_i_f Hf hc
    refine lv_iload_n hx hb dX9_isIn_22 rfl (lv_at hl 3 rfl) ?_
    refine lv_iconst (v := 1) hx hb dX9_isIn_23 (by decide) ?_
    refine lv_icmp_ne hx hb dX9_isIn_24 (tgt := 45) (by decide) (fun hc => ?_) (fun hc => ?_)
    · have Hf := c_i_f Hf hc
      refine lv_aload_n hx hb dX9_isIn_45 rfl (lv_at hl 0 rfl) ?_
      obtain ⟨hk_a0, Hf⟩ := c_g_some Hf
      obtain ⟨q46, hq46, Hf⟩ := c_n_some Hf
      refine fg_10_35 hx hb hts hown hK hP hk_a0 lkf_X9_118 hq46 dX9_isIn_46 ?_
      refine lv_iload_n hx hb dX9_isIn_49 rfl (lv_at hl 1 rfl) ?_
      obtain ⟨hk_q46, Hf⟩ := c_g_some Hf
      obtain ⟨hi50, Hf⟩ := c_g_some Hf
      refine r_iald hx hb hK hP hk_q46 hi50 dX9_isIn_50 ?_
      refine lv_iload_n hx hb dX9_isIn_51 rfl (lv_at hl 2 rfl) ?_
      have hJ65 : ∀ (S65 : st_T), j_X9_isIn_65 S65 = some (rr, SE) → ∀ (H : Heap) (locs : List Loc) (ls : Array Slot), st_HP X (st_A S) S65 H → va_S (st_A S) s.heap H locs → lv_has ls 4 [] → W p l e { frames := 0, cells := 0, slots := 0, locals := 0 } s m args below meth c H locs 0 0 (MQ below (st_Q X (st_A S) (some (.int rr)) SE) args s 0 0 (st_A S)) (F0 m 65 ls []) := by
        intro S65 Hf H locs ls hP hS hl
        unfold j_X9_isIn_65 at Hf
        refine lv_iconst (v := 1) hx hb dX9_isIn_65 (by decide) ?_
        refine lv_goto hx hb dX9_isIn_66 (tgt := 70) (by decide) ?_
        cases Hf
        exact r_zret hx hb hr rfl (Or.inr rfl) hlocks dX9_isIn_70 (Nat.le_of_ble_eq_true rfl) (Nat.le_of_ble_eq_true rfl) hP hS
      refine lv_icmp_eq hx hb dX9_isIn_52 (tgt := 65) (by decide) (fun hc => ?_) (fun hc => ?_)
      · have Hf := c_i_t Hf hc
        exact hJ65 S Hf _ _ _ hP hS (lv_sub hl [] rfl)
      have Hf := c_i_f Hf hc
      refine lv_aload_n hx hb dX9_isIn_55 rfl (lv_at hl 0 rfl) ?_
      obtain ⟨q56, hq56, Hf⟩ := c_n_some Hf
      refine fg_10_36 hx hb hts hown hK hP hk_a0 lkf_X9_121 hq56 dX9_isIn_56 ?_
      refine lv_iload_n hx hb dX9_isIn_59 rfl (lv_at hl 1 rfl) ?_
      obtain ⟨hk_q56, Hf⟩ := c_g_some Hf
      obtain ⟨hi60, Hf⟩ := c_g_some Hf
      refine r_iald hx hb hK hP hk_q56 hi60 dX9_isIn_60 ?_
      refine lv_iload_n hx hb dX9_isIn_61 rfl (lv_at hl 2 rfl) ?_
      refine lv_icmp_ne hx hb dX9_isIn_62 (tgt := 69) (by decide) (fun hc => ?_) (fun hc => ?_)
      · have Hf := c_i_f Hf hc
        refine lv_iconst (v := 0) hx hb dX9_isIn_69 (by decide) ?_
        cases Hf
        exact r_zret hx hb hr rfl (Or.inl rfl) hlocks dX9_isIn_70 (Nat.le_of_ble_eq_true rfl) (Nat.le_of_ble_eq_true rfl) hP hS
      have Hf := c_i_t Hf hc
      exact hJ65 S Hf _ _ _ hP hS (lv_sub hl [] rfl)
    have Hf := c_i_t Hf hc
    refine lv_aload_n hx hb dX9_isIn_27 rfl (lv_at hl 0 rfl) ?_
    obtain ⟨hk_a0, Hf⟩ := c_g_some Hf
    obtain ⟨q28, hq28, Hf⟩ := c_n_some Hf
    refine fg_10_36 hx hb hts hown hK hP hk_a0 lkf_X9_121 hq28 dX9_isIn_28 ?_
    refine lv_iload_n hx hb dX9_isIn_31 rfl (lv_at hl 1 rfl) ?_
    obtain ⟨hk_q28, Hf⟩ := c_g_some Hf
    obtain ⟨hi32, Hf⟩ := c_g_some Hf
    refine r_iald hx hb hK hP hk_q28 hi32 dX9_isIn_32 ?_
    refine lv_iload_n hx hb dX9_isIn_33 rfl (lv_at hl 2 rfl) ?_
    refine lv_icmp_ne hx hb dX9_isIn_34 (tgt := 41) (by decide) (fun hc => ?_) (fun hc => ?_)
    · have Hf := c_i_f Hf hc
      refine lv_iconst (v := 0) hx hb dX9_isIn_41 (by decide) ?_
      refine lv_goto hx hb dX9_isIn_42 (tgt := 70) (by decide) ?_
      cases Hf
      exact r_zret hx hb hr rfl (Or.inl rfl) hlocks dX9_isIn_70 (Nat.le_of_ble_eq_true rfl) (Nat.le_of_ble_eq_true rfl) hP hS
    have Hf := c_i_t Hf hc
    refine lv_iconst (v := 1) hx hb dX9_isIn_37 (by decide) ?_
    refine lv_goto hx hb dX9_isIn_38 (tgt := 70) (by decide) ?_
    cases Hf
    exact r_zret hx hb hr rfl (Or.inr rfl) hlocks dX9_isIn_70 (Nat.le_of_ble_eq_true rfl) (Nat.le_of_ble_eq_true rfl) hP hS
  have Hf := c_i_t Hf hc
  refine lv_aload_n hx hb dX9_isIn_4 rfl (lv_at hl 0 rfl) ?_
  obtain ⟨hk_a0, Hf⟩ := c_g_some Hf
  obtain ⟨q5, hq5, Hf⟩ := c_n_some Hf
  refine fg_10_35 hx hb hts hown hK hP hk_a0 lkf_X9_118 hq5 dX9_isIn_5 ?_
  refine lv_iload_n hx hb dX9_isIn_8 rfl (lv_at hl 1 rfl) ?_
  obtain ⟨hk_q5, Hf⟩ := c_g_some Hf
  obtain ⟨hi9, Hf⟩ := c_g_some Hf
  refine r_iald hx hb hK hP hk_q5 hi9 dX9_isIn_9 ?_
  refine lv_iload_n hx hb dX9_isIn_10 rfl (lv_at hl 2 rfl) ?_
  refine lv_icmp_ne hx hb dX9_isIn_11 (tgt := 18) (by decide) (fun hc => ?_) (fun hc => ?_)
  · have Hf := c_i_f Hf hc
    refine lv_iconst (v := 0) hx hb dX9_isIn_18 (by decide) ?_
    refine lv_goto hx hb dX9_isIn_19 (tgt := 70) (by decide) ?_
    cases Hf
    exact r_zret hx hb hr rfl (Or.inl rfl) hlocks dX9_isIn_70 (Nat.le_of_ble_eq_true rfl) (Nat.le_of_ble_eq_true rfl) hP hS
  have Hf := c_i_t Hf hc
  refine lv_iconst (v := 1) hx hb dX9_isIn_14 (by decide) ?_
  refine lv_goto hx hb dX9_isIn_15 (tgt := 70) (by decide) ?_
  cases Hf
  exact r_zret hx hb hr rfl (Or.inr rfl) hlocks dX9_isIn_70 (Nat.le_of_ble_eq_true rfl) (Nat.le_of_ble_eq_true rfl) hP hS

def j_X9_cell_206 (S206 : st_T) (u0_206 : Int64) : Option (Int32 × st_T) :=
  (some (((u0_206 : Int64).toInt32), S206))
def j_X9_cell_182 (rec32 : st_T × Int64 × Int32 → Option (Int32 × st_T)) (y4_32 : Int64) (y6_32 : Int32) (S182 : st_T) (u0_182 : Int64) : Option (Int32 × st_T) :=
  (c_l (y4_32 + u0_182) (fun (z4_183 : Int64) => (rec32 (S182, z4_183, (y6_32 + 1)))))
def j_X9_cell_152 (rec53 : st_T × Int32 × Int32 → Option (Int32 × st_T)) (y8_53 : Int32) (S152 : st_T) (y7_152 : Int32) : Option (Int32 × st_T) :=
  (rec53 (S152, y7_152, (y8_53 + 1)))
def j_X9_cell_149 (rec53 : st_T × Int32 × Int32 → Option (Int32 × st_T)) (y7_53 : Int32) (y8_53 : Int32) (S149 : st_T) (u0_149 : Int32) : Option (Int32 × st_T) :=
  (c_l (y7_53 + u0_149) (fun (z7_150 : Int32) => (j_X9_cell_152 rec53 y8_53 S149 z7_150)))
def j_X9_cell_105 (rec53 : st_T × Int32 × Int32 → Option (Int32 × st_T)) (y7_53 : Int32) (y8_53 : Int32) (S105 : st_T) (u0_105 : Int32) : Option (Int32 × st_T) :=
  (c_l (y7_53 + u0_105) (fun (z7_106 : Int32) => (j_X9_cell_152 rec53 y8_53 S105 z7_106)))
def j_X9_cell_104 (rec53 : st_T × Int32 × Int32 → Option (Int32 × st_T)) (y7_53 : Int32) (y8_53 : Int32) (S104 : st_T) : Option (Int32 × st_T) :=
  (j_X9_cell_105 rec53 y7_53 y8_53 S104 0)
def b_X9_cell_53 (a0 : Nat) (x1 : Int32) (x2 : Int32) (x3 : Int32) (rec32 : st_T × Int64 × Int32 → Option (Int32 × st_T)) (y4_32 : Int64) (y6_32 : Int32) (rec53 : st_T × Int32 × Int32 → Option (Int32 × st_T)) (q : st_T × Int32 × Int32) : Option (Int32 × st_T) :=
  (fun (S53 : st_T) (y7_53 : Int32) (y8_53 : Int32) =>
  (c_g (st_K S53 a0 = 11) (c_n (st_fr S53 1033 a0) (fun (q56 : Nat) => (c_g (st_K S53 q56 = 20) (c_g (c_in y6_32 (st_ln S53 q56)) (c_i ((st_ri S53 q56 (y6_32 : Int32).toNatClampNeg) ≤ y8_53) (c_i (x3 = 0) (j_X9_cell_182 rec32 y4_32 y6_32 S53 ((y7_53 : Int32).toInt64)) (c_n (st_fr S53 1032 a0) (fun (q168 : Nat) => (c_g (st_K S53 q168 = 20) (c_g (c_in y6_32 (st_ln S53 q168)) (j_X9_cell_182 rec32 y4_32 y6_32 S53 (((y7_53 : Int32).toInt64) * (((st_ri S53 q168 (y6_32 : Int32).toNatClampNeg) : Int32).toInt64)))))))) (c_i (x2 = 3) (c_n (st_fr S53 1037 a0) (fun (q73 : Nat) => (c_g (st_K S53 q73 = 23) (c_g (c_in y8_53 (st_ln S53 q73)) (c_i ((st_ri S53 q73 (y8_53 : Int32).toNatClampNeg) = 0) (j_X9_cell_104 rec53 y7_53 y8_53 S53) (c_n (st_fr S53 1035 a0) (fun (q83 : Nat) => (c_g (st_K S53 q83 = 20) (c_g (c_in y8_53 (st_ln S53 q83)) (c_i ((st_ri S53 q83 (y8_53 : Int32).toNatClampNeg) = x1) (c_c (f_X9_gapAhead S53 a0 y6_32 y8_53) (fun (r98 : Int32) (T98 : st_T) => (j_X9_cell_105 rec53 y7_53 y8_53 T98 r98))) (j_X9_cell_104 rec53 y7_53 y8_53 S53))))))))))) (c_c (f_X9_isIn S53 a0 y8_53 x1 x2) (fun (r118 : Int32) (T118 : st_T) => (c_i (r118 = 0) (j_X9_cell_149 rec53 y7_53 y8_53 T118 0) (c_g (st_K T118 a0 = 11) (c_c (f_X9_of T118 a0 y6_32 y8_53 1) (fun (r130 : Int32) (T130 : st_T) => (c_g (st_K T130 a0 = 11) (c_c (f_X9_of T130 a0 y6_32 y8_53 0) (fun (r139 : Int32) (T139 : st_T) => (j_X9_cell_149 rec53 y7_53 y8_53 T139 ((r130 - r139) + 1))))))))))))))))))) q.1 q.2.1 q.2.2
def b_X9_cell_32 (a0 : Nat) (x1 : Int32) (x2 : Int32) (x3 : Int32) (rec32 : st_T × Int64 × Int32 → Option (Int32 × st_T)) (q : st_T × Int64 × Int32) : Option (Int32 × st_T) :=
  (fun (S32 : st_T) (y4_32 : Int64) (y6_32 : Int32) =>
  (c_g (st_K S32 a0 = 11) (c_i ((st_fi S32 1027 a0) ≤ y6_32) (c_i (x3 = 0) (j_X9_cell_206 S32 y4_32) (j_X9_cell_206 S32 (y4_32 / 1000))) (c_c (f_X9_findCodes S32 a0 y6_32) (fun (r44 : Unit) (T44 : st_T) => (c_w (b_X9_cell_53 a0 x1 x2 x3 rec32 y4_32 y6_32) c_N (T44, 0, 0))))))) q.1 q.2.1 q.2.2
def f_X9_cell (S : st_T) (a0 : Nat) (x1 : Int32) (x2 : Int32) (x3 : Int32) : Option (Int32 × st_T) :=
  (c_g (st_K S a0 = 11) (c_l (st_pi S 1000 a0 0) (fun (S_2 : st_T) => (c_i (x1 < 0) (some ((-1), S_2)) (c_i (49 < x1) (some ((-1), S_2)) (c_i (x2 < 0) (some ((-1), S_2)) (c_i (x2 ≤ 3) (c_w (b_X9_cell_32 a0 x1 x2 x3) c_N (S_2, 0, 0)) (some ((-1), S_2)))))))))
set_option maxRecDepth 100000 in
set_option maxHeartbeats 4000000 in
theorem s_X9_cell (l : Launch) (X : st_I) {S SE : st_T} {a0 : Nat} {x1 : Int32} {x2 : Int32} {x3 : Int32} {rr : Int32} (Hf : f_X9_cell S a0 x1 x2 x3 = some (rr, SE)) : Met l yX9_cell (Cond.code yX9_cell cX9_cell 9 (some .int) :: lw_g) { frames := 4, cells := 0, slots := 0, locals := 98 } (st_P X S [.ref a0, .int x1, .int x2, .int x3]) (st_Q X (st_A S) (some (.int rr)) SE) 0 0 (st_A S) := by
  refine st_ofW (by decide) (Nat.le_of_ble_eq_true rfl) ?_
  intro p e s m args below meth c hx hb hr hml hlocks hnm hts hown hK hRO hA hP hS ls hl
  have hown : s.vm.findClass RX9 = some m.cls := hown
  have hl : lv_has ls 9 [(0, .ref a0), (1, .int x1), (2, .int x2), (3, .int x3)] := hl
  unfold f_X9_cell at Hf
  refine lv_aload_n hx hb dX9_cell_0 rfl (lv_at hl 0 rfl) ?_
  refine lv_iconst (v := 0) hx hb dX9_cell_1 (by decide) ?_
  obtain ⟨hk_a0, Hf⟩ := c_g_some Hf
  refine fp_10_0 hx hb hts hown hK hP hS hk_a0 lkf_X9_131 dX9_cell_2 (fun H locs hP hS => ?_)
  obtain ⟨S_2, eS_2, Hf⟩ := c_l_ex Hf
  have hP : st_HP X (st_A S) S_2 H := by rw [eS_2]; exact hP
  refine lv_iload_n hx hb dX9_cell_5 rfl (lv_at hl 1 rfl) ?_
  refine lv_if_lt hx hb dX9_cell_6 (tgt := 24) (by decide) (fun hc => ?_) (fun hc => ?_)
  · have Hf := c_i_t Hf hc
    refine lv_iconst (v := (-1)) hx hb dX9_cell_24 (by decide) ?_
    cases Hf
    exact r_iret hx hb hr rfl hlocks dX9_cell_25 (Nat.le_of_ble_eq_true rfl) (Nat.le_of_ble_eq_true rfl) hP hS
  have Hf := c_i_f Hf hc
  refine lv_iload_n hx hb dX9_cell_9 rfl (lv_at hl 1 rfl) ?_
  refine lv_bipush (v := 49) hx hb dX9_cell_10 (by decide) ?_
  refine lv_icmp_gt hx hb dX9_cell_12 (tgt := 24) (by decide) (fun hc => ?_) (fun hc => ?_)
  · have Hf := c_i_t Hf hc
    refine lv_iconst (v := (-1)) hx hb dX9_cell_24 (by decide) ?_
    cases Hf
    exact r_iret hx hb hr rfl hlocks dX9_cell_25 (Nat.le_of_ble_eq_true rfl) (Nat.le_of_ble_eq_true rfl) hP hS
  have Hf := c_i_f Hf hc
  refine lv_iload_n hx hb dX9_cell_15 rfl (lv_at hl 2 rfl) ?_
  refine lv_if_lt hx hb dX9_cell_16 (tgt := 24) (by decide) (fun hc => ?_) (fun hc => ?_)
  · have Hf := c_i_t Hf hc
    refine lv_iconst (v := (-1)) hx hb dX9_cell_24 (by decide) ?_
    cases Hf
    exact r_iret hx hb hr rfl hlocks dX9_cell_25 (Nat.le_of_ble_eq_true rfl) (Nat.le_of_ble_eq_true rfl) hP hS
  have Hf := c_i_f Hf hc
  refine lv_iload_n hx hb dX9_cell_19 rfl (lv_at hl 2 rfl) ?_
  refine lv_iconst (v := 3) hx hb dX9_cell_20 (by decide) ?_
  refine lv_icmp_le hx hb dX9_cell_21 (tgt := 26) (by decide) (fun hc => ?_) (fun hc => ?_)
  · have Hf := c_i_t Hf hc
    refine lv_lconst (v := 0) hx hb dX9_cell_26 (by decide) ?_
    refine lv_lstore (lv' := [(4, .long 0), (0, .ref a0), (1, .int x1), (2, .int x2), (3, .int x3)]) hx hb dX9_cell_27 hl (by decide) rfl (fun ls hl => ?_)
    refine lv_iconst (v := 0) hx hb dX9_cell_29 (by decide) ?_
    refine lv_istore (lv' := [(6, .int 0), (4, .long 0), (0, .ref a0), (1, .int x1), (2, .int x2), (3, .int x3)]) hx hb dX9_cell_30 hl (by decide) rfl (fun ls hl => ?_)
    refine (c_w_ind (P := fun (q : st_T × Int64 × Int32) => ∀ (H : Heap) (locs : List Loc) (ls : Array Slot), st_HP X (st_A S) q.1 H → va_S (st_A S) s.heap H locs → lv_has ls 9 [(0, .ref a0), (1, .int x1), (2, .int x2), (3, .int x3), (4, .long q.2.1), (6, .int q.2.2)] → W p l e { frames := 4, cells := 0, slots := 0, locals := 98 } s m args below meth c H locs 0 0 (MQ below (st_Q X (st_A S) (some (.int rr)) SE) args s 0 0 (st_A S)) (F0 m 32 ls [])) ?_ _ _ Hf) _ _ _ hP hS (lv_sub hl [2, 3, 4, 5, 1, 0] rfl)
    intro rec32 hrec32 q Hf H locs ls hP hS hl
    obtain ⟨S32, y4_32, y6_32⟩ := q
    unfold b_X9_cell_32 at Hf
    try dsimp only at Hf
    try dsimp only at hP
    try dsimp only at hl
    try dsimp only
    refine lv_iload hx hb dX9_cell_32 (lv_at hl 5 rfl) ?_
    refine lv_aload_n hx hb dX9_cell_34 rfl (lv_at hl 0 rfl) ?_
    obtain ⟨hk_a0, Hf⟩ := c_g_some Hf
    refine fg_10_27 hx hb hts hown hK hP hk_a0 lkf_X9_236 dX9_cell_35 ?_
    refine lv_icmp_ge hx hb dX9_cell_38 (tgt := 191) (by decide) (fun hc => ?_) (fun hc => ?_)
    · have Hf := c_i_t Hf hc
      refine lv_iload_n hx hb dX9_cell_191 rfl (lv_at hl 3 rfl) ?_
      have hJ206 : ∀ (S206 : st_T) (u0_206 : Int64), j_X9_cell_206 S206 u0_206 = some (rr, SE) → ∀ (H : Heap) (locs : List Loc) (ls : Array Slot), st_HP X (st_A S) S206 H → va_S (st_A S) s.heap H locs → lv_has ls 9 [] → W p l e { frames := 4, cells := 0, slots := 0, locals := 98 } s m args below meth c H locs 0 0 (MQ below (st_Q X (st_A S) (some (.int rr)) SE) args s 0 0 (st_A S)) (F0 m 206 ls [.long u0_206]) := by
        intro S206 u0_206 Hf H locs ls hP hS hl
        unfold j_X9_cell_206 at Hf
        refine lv_l2i (v := (u0_206 : Int64).toInt32) hx hb dX9_cell_206 rfl ?_
        cases Hf
        exact r_iret hx hb hr rfl hlocks dX9_cell_207 (Nat.le_of_ble_eq_true rfl) (Nat.le_of_ble_eq_true rfl) hP hS
      refine lv_if_eq hx hb dX9_cell_192 (tgt := 204) (by decide) (fun hc => ?_) (fun hc => ?_)
      · have Hf := c_i_t Hf hc
        refine lv_lload hx hb dX9_cell_204 (lv_at hl 4 rfl) ?_
        exact hJ206 S32 y4_32 Hf _ _ _ hP hS (lv_sub hl [] rfl)
      have Hf := c_i_f Hf hc
      refine lv_lload hx hb dX9_cell_195 (lv_at hl 4 rfl) ?_
      refine lv_ldc2 hx hb hown (hts _ lkc_X9_273) dX9_cell_197 ?_
      refine lv_ldiv hx hb dX9_cell_200 (by decide) ?_
      refine lv_goto hx hb dX9_cell_201 (tgt := 206) (by decide) ?_
      exact hJ206 S32 (y4_32 / 1000) Hf _ _ _ hP hS (lv_sub hl [] rfl)
    have Hf := c_i_f Hf hc
    refine lv_aload_n hx hb dX9_cell_41 rfl (lv_at hl 0 rfl) ?_
    refine lv_iload hx hb dX9_cell_42 (lv_at hl 5 rfl) ?_
    obtain ⟨r44, T44, hq44, Hf⟩ := c_c_some Hf
    refine r_cV (n := 1) (As := [.int y6_32]) (rest := []) ⟨hx, hb, hml, hown, hts⟩ (s_X9_findCodes l X hq44) lkm_X9_263 (by decide +kernel) rfl (by decide) dX9_cell_44 rfl rfl ⟨Nat.le_of_ble_eq_true rfl, Nat.le_of_ble_eq_true rfl⟩ hk_a0 rfl hl.1 (Nat.le_of_ble_eq_true rfl) ⟨Nat.le_of_ble_eq_true rfl, Nat.le_of_ble_eq_true rfl⟩ hK hRO hA hP hS (fun H locs hP hS => ?_)
    refine W.eq (g2 := F0 m 47 ls []) rfl ?_
    refine lv_iconst (v := 0) hx hb dX9_cell_47 (by decide) ?_
    refine lv_istore (lv' := [(7, .int 0), (0, .ref a0), (1, .int x1), (2, .int x2), (3, .int x3), (4, .long y4_32), (6, .int y6_32)]) hx hb dX9_cell_48 hl (by decide) rfl (fun ls hl => ?_)
    refine lv_iconst (v := 0) hx hb dX9_cell_50 (by decide) ?_
    refine lv_istore (lv' := [(8, .int 0), (7, .int 0), (0, .ref a0), (1, .int x1), (2, .int x2), (3, .int x3), (4, .long y4_32), (6, .int y6_32)]) hx hb dX9_cell_51 hl (by decide) rfl (fun ls hl => ?_)
    refine (c_w_ind (P := fun (q : st_T × Int32 × Int32) => ∀ (H : Heap) (locs : List Loc) (ls : Array Slot), st_HP X (st_A S) q.1 H → va_S (st_A S) s.heap H locs → lv_has ls 9 [(0, .ref a0), (1, .int x1), (2, .int x2), (3, .int x3), (4, .long y4_32), (6, .int y6_32), (7, .int q.2.1), (8, .int q.2.2)] → W p l e { frames := 4, cells := 0, slots := 0, locals := 98 } s m args below meth c H locs 0 0 (MQ below (st_Q X (st_A S) (some (.int rr)) SE) args s 0 0 (st_A S)) (F0 m 53 ls [])) ?_ _ _ Hf) _ _ _ hP hS (lv_sub hl [2, 3, 4, 5, 6, 7, 1, 0] rfl)
    intro rec53 hrec53 q Hf H locs ls hP hS hl
    obtain ⟨S53, y7_53, y8_53⟩ := q
    unfold b_X9_cell_53 at Hf
    try dsimp only at Hf
    try dsimp only at hP
    try dsimp only at hl
    try dsimp only
    refine lv_iload hx hb dX9_cell_53 (lv_at hl 7 rfl) ?_
    refine lv_aload_n hx hb dX9_cell_55 rfl (lv_at hl 0 rfl) ?_
    obtain ⟨hk_a0, Hf⟩ := c_g_some Hf
    obtain ⟨q56, hq56, Hf⟩ := c_n_some Hf
    refine fg_10_33 hx hb hts hown hK hP hk_a0 lkf_X9_112 hq56 dX9_cell_56 ?_
    refine lv_iload hx hb dX9_cell_59 (lv_at hl 5 rfl) ?_
    obtain ⟨hk_q56, Hf⟩ := c_g_some Hf
    obtain ⟨hi61, Hf⟩ := c_g_some Hf
    refine r_iald hx hb hK hP hk_q56 hi61 dX9_cell_61 ?_
    refine lv_icmp_ge hx hb dX9_cell_62 (tgt := 158) (by decide) (fun hc => ?_) (fun hc => ?_)
    · have Hf := c_i_t Hf hc
      refine lv_lload hx hb dX9_cell_158 (lv_at hl 4 rfl) ?_
      refine lv_iload_n hx hb dX9_cell_160 rfl (lv_at hl 3 rfl) ?_
      have hJ182 : ∀ (S182 : st_T) (u0_182 : Int64), j_X9_cell_182 rec32 y4_32 y6_32 S182 u0_182 = some (rr, SE) → ∀ (H : Heap) (locs : List Loc) (ls : Array Slot), st_HP X (st_A S) S182 H → va_S (st_A S) s.heap H locs → lv_has ls 9 [(0, .ref a0), (1, .int x1), (2, .int x2), (3, .int x3), (6, .int y6_32)] → W p l e { frames := 4, cells := 0, slots := 0, locals := 98 } s m args below meth c H locs 0 0 (MQ below (st_Q X (st_A S) (some (.int rr)) SE) args s 0 0 (st_A S)) (F0 m 182 ls [.long u0_182, .long y4_32]) := by
        intro S182 u0_182 Hf H locs ls hP hS hl
        unfold j_X9_cell_182 at Hf
        refine lv_ladd hx hb dX9_cell_182 ?_
        refine lv_topl (fun z4_183 ez4_183 => ?_)
        have Hf := c_l_ren Hf ez4_183
        refine lv_lstore (lv' := [(4, .long z4_183), (0, .ref a0), (1, .int x1), (2, .int x2), (3, .int x3), (6, .int y6_32)]) hx hb dX9_cell_183 hl (by decide) rfl (fun ls hl => ?_)
        refine lv_iinc (v := (y6_32 + 1)) (lv' := [(6, .int (y6_32 + 1)), (4, .long z4_183), (0, .ref a0), (1, .int x1), (2, .int x2), (3, .int x3)]) hx hb dX9_cell_185 hl (k := 5) rfl rfl (by decide) rfl (fun ls hl => ?_)
        refine lv_goto hx hb dX9_cell_188 (tgt := 32) (by decide) ?_
        exact hrec32 (S182, z4_183, (y6_32 + 1)) Hf _ _ _ hP hS (lv_sub hl [2, 3, 4, 5, 1, 0] rfl)
      refine lv_if_eq hx hb dX9_cell_161 (tgt := 179) (by decide) (fun hc => ?_) (fun hc => ?_)
      · have Hf := c_i_t Hf hc
        refine lv_iload hx hb dX9_cell_179 (lv_at hl 6 rfl) ?_
        refine lv_i2l (v := (y7_53 : Int32).toInt64) hx hb dX9_cell_181 rfl ?_
        exact hJ182 S53 ((y7_53 : Int32).toInt64) Hf _ _ _ hP hS (lv_sub hl [0, 1, 2, 3, 5] rfl)
      have Hf := c_i_f Hf hc
      refine lv_iload hx hb dX9_cell_164 (lv_at hl 6 rfl) ?_
      refine lv_i2l (v := (y7_53 : Int32).toInt64) hx hb dX9_cell_166 rfl ?_
      refine lv_aload_n hx hb dX9_cell_167 rfl (lv_at hl 0 rfl) ?_
      obtain ⟨q168, hq168, Hf⟩ := c_n_some Hf
      refine fg_10_32 hx hb hts hown hK hP hk_a0 lkf_X9_109 hq168 dX9_cell_168 ?_
      refine lv_iload hx hb dX9_cell_171 (lv_at hl 5 rfl) ?_
      obtain ⟨hk_q168, Hf⟩ := c_g_some Hf
      obtain ⟨hi173, Hf⟩ := c_g_some Hf
      refine r_iald hx hb hK hP hk_q168 hi173 dX9_cell_173 ?_
      refine lv_i2l (v := ((st_ri S53 q168 (y6_32 : Int32).toNatClampNeg) : Int32).toInt64) hx hb dX9_cell_174 rfl ?_
      refine lv_lmul hx hb dX9_cell_175 ?_
      refine lv_goto hx hb dX9_cell_176 (tgt := 182) (by decide) ?_
      exact hJ182 S53 (((y7_53 : Int32).toInt64) * (((st_ri S53 q168 (y6_32 : Int32).toNatClampNeg) : Int32).toInt64)) Hf _ _ _ hP hS (lv_sub hl [0, 1, 2, 3, 5] rfl)
    have Hf := c_i_f Hf hc
    refine lv_iload_n hx hb dX9_cell_65 rfl (lv_at hl 2 rfl) ?_
    refine lv_iconst (v := 3) hx hb dX9_cell_66 (by decide) ?_
    have hJ152 : ∀ (S152 : st_T) (y7_152 : Int32), j_X9_cell_152 rec53 y8_53 S152 y7_152 = some (rr, SE) → ∀ (H : Heap) (locs : List Loc) (ls : Array Slot), st_HP X (st_A S) S152 H → va_S (st_A S) s.heap H locs → lv_has ls 9 [(0, .ref a0), (1, .int x1), (2, .int x2), (3, .int x3), (4, .long y4_32), (6, .int y6_32), (7, .int y7_152), (8, .int y8_53)] → W p l e { frames := 4, cells := 0, slots := 0, locals := 98 } s m args below meth c H locs 0 0 (MQ below (st_Q X (st_A S) (some (.int rr)) SE) args s 0 0 (st_A S)) (F0 m 152 ls []) := by
      intro S152 y7_152 Hf H locs ls hP hS hl
      unfold j_X9_cell_152 at Hf
      refine lv_iinc (v := (y8_53 + 1)) (lv' := [(8, .int (y8_53 + 1)), (0, .ref a0), (1, .int x1), (2, .int x2), (3, .int x3), (4, .long y4_32), (6, .int y6_32), (7, .int y7_152)]) hx hb dX9_cell_152 hl (k := 7) rfl rfl (by decide) rfl (fun ls hl => ?_)
      refine lv_goto hx hb dX9_cell_155 (tgt := 53) (by decide) ?_
      exact hrec53 (S152, y7_152, (y8_53 + 1)) Hf _ _ _ hP hS (lv_sub hl [1, 2, 3, 4, 5, 6, 7, 0] rfl)
    refine lv_icmp_ne hx hb dX9_cell_67 (tgt := 111) (by decide) (fun hc => ?_) (fun hc => ?_)
    · have Hf := c_i_f Hf hc
      refine lv_iload hx hb dX9_cell_111 (lv_at hl 6 rfl) ?_
      refine lv_aload_n hx hb dX9_cell_113 rfl (lv_at hl 0 rfl) ?_
      refine lv_iload hx hb dX9_cell_114 (lv_at hl 7 rfl) ?_
      refine lv_iload_n hx hb dX9_cell_116 rfl (lv_at hl 1 rfl) ?_
      refine lv_iload_n hx hb dX9_cell_117 rfl (lv_at hl 2 rfl) ?_
      obtain ⟨r118, T118, hq118, Hf⟩ := c_c_some Hf
      refine r_cV (n := 3) (As := [.int y8_53, .int x1, .int x2]) (rest := [.int y7_53]) ⟨hx, hb, hml, hown, hts⟩ (s_X9_isIn l X hq118) lkm_X9_278 (by decide +kernel) rfl (by decide) dX9_cell_118 rfl rfl ⟨Nat.le_of_ble_eq_true rfl, Nat.le_of_ble_eq_true rfl⟩ hk_a0 rfl hl.1 (Nat.le_of_ble_eq_true rfl) ⟨Nat.le_of_ble_eq_true rfl, Nat.le_of_ble_eq_true rfl⟩ hK hRO hA hP hS (fun H locs hP hS => ?_)
      refine W.eq (g2 := F0 m 121 ls [.int r118, .int y7_53]) rfl ?_
      have hJ149 : ∀ (S149 : st_T) (u0_149 : Int32), j_X9_cell_149 rec53 y7_53 y8_53 S149 u0_149 = some (rr, SE) → ∀ (H : Heap) (locs : List Loc) (ls : Array Slot), st_HP X (st_A S) S149 H → va_S (st_A S) s.heap H locs → lv_has ls 9 [(0, .ref a0), (1, .int x1), (2, .int x2), (3, .int x3), (4, .long y4_32), (6, .int y6_32), (8, .int y8_53)] → W p l e { frames := 4, cells := 0, slots := 0, locals := 98 } s m args below meth c H locs 0 0 (MQ below (st_Q X (st_A S) (some (.int rr)) SE) args s 0 0 (st_A S)) (F0 m 149 ls [.int u0_149, .int y7_53]) := by
        intro S149 u0_149 Hf H locs ls hP hS hl
        unfold j_X9_cell_149 at Hf
        refine lv_iadd hx hb dX9_cell_149 ?_
        refine lv_topi (fun z7_150 ez7_150 => ?_)
        have Hf := c_l_ren Hf ez7_150
        refine lv_istore (lv' := [(7, .int z7_150), (0, .ref a0), (1, .int x1), (2, .int x2), (3, .int x3), (4, .long y4_32), (6, .int y6_32), (8, .int y8_53)]) hx hb dX9_cell_150 hl (by decide) rfl (fun ls hl => ?_)
        exact hJ152 S149 z7_150 Hf _ _ _ hP hS (lv_sub hl [1, 2, 3, 4, 5, 6, 0, 7] rfl)
      refine lv_if_eq hx hb dX9_cell_121 (tgt := 148) (by decide) (fun hc => ?_) (fun hc => ?_)
      · have Hf := c_i_t Hf hc
        refine lv_iconst (v := 0) hx hb dX9_cell_148 (by decide) ?_
        exact hJ149 T118 0 Hf _ _ _ hP hS (lv_sub hl [0, 1, 2, 3, 4, 5, 7] rfl)
      have Hf := c_i_f Hf hc
      refine lv_aload_n hx hb dX9_cell_124 rfl (lv_at hl 0 rfl) ?_
      refine lv_iload hx hb dX9_cell_125 (lv_at hl 5 rfl) ?_
      refine lv_iload hx hb dX9_cell_127 (lv_at hl 7 rfl) ?_
      refine lv_iconst (v := 1) hx hb dX9_cell_129 (by decide) ?_
      obtain ⟨hk_a0, Hf⟩ := c_g_some Hf
      obtain ⟨r130, T130, hq130, Hf⟩ := c_c_some Hf
      refine r_cV (n := 3) (As := [.int y6_32, .int y8_53, .int 1]) (rest := [.int y7_53]) ⟨hx, hb, hml, hown, hts⟩ (s_X9_of l X hq130) lkm_X9_244 (by decide +kernel) rfl (by decide) dX9_cell_130 rfl rfl ⟨Nat.le_of_ble_eq_true rfl, Nat.le_of_ble_eq_true rfl⟩ hk_a0 rfl hl.1 (Nat.le_of_ble_eq_true rfl) ⟨Nat.le_of_ble_eq_true rfl, Nat.le_of_ble_eq_true rfl⟩ hK hRO hA hP hS (fun H locs hP hS => ?_)
      refine W.eq (g2 := F0 m 133 ls [.int r130, .int y7_53]) rfl ?_
      refine lv_aload_n hx hb dX9_cell_133 rfl (lv_at hl 0 rfl) ?_
      refine lv_iload hx hb dX9_cell_134 (lv_at hl 5 rfl) ?_
      refine lv_iload hx hb dX9_cell_136 (lv_at hl 7 rfl) ?_
      refine lv_iconst (v := 0) hx hb dX9_cell_138 (by decide) ?_
      obtain ⟨hk_a0, Hf⟩ := c_g_some Hf
      obtain ⟨r139, T139, hq139, Hf⟩ := c_c_some Hf
      refine r_cV (n := 3) (As := [.int y6_32, .int y8_53, .int 0]) (rest := [.int r130, .int y7_53]) ⟨hx, hb, hml, hown, hts⟩ (s_X9_of l X hq139) lkm_X9_244 (by decide +kernel) rfl (by decide) dX9_cell_139 rfl rfl ⟨Nat.le_of_ble_eq_true rfl, Nat.le_of_ble_eq_true rfl⟩ hk_a0 rfl hl.1 (Nat.le_of_ble_eq_true rfl) ⟨Nat.le_of_ble_eq_true rfl, Nat.le_of_ble_eq_true rfl⟩ hK hRO hA hP hS (fun H locs hP hS => ?_)
      refine W.eq (g2 := F0 m 142 ls [.int r139, .int r130, .int y7_53]) rfl ?_
      refine lv_isub hx hb dX9_cell_142 ?_
      refine lv_iconst (v := 1) hx hb dX9_cell_143 (by decide) ?_
      refine lv_iadd hx hb dX9_cell_144 ?_
      refine lv_goto hx hb dX9_cell_145 (tgt := 149) (by decide) ?_
      exact hJ149 T139 ((r130 - r139) + 1) Hf _ _ _ hP hS (lv_sub hl [0, 1, 2, 3, 4, 5, 7] rfl)
    have Hf := c_i_t Hf hc
    refine lv_iload hx hb dX9_cell_70 (lv_at hl 6 rfl) ?_
    refine lv_aload_n hx hb dX9_cell_72 rfl (lv_at hl 0 rfl) ?_
    obtain ⟨q73, hq73, Hf⟩ := c_n_some Hf
    refine fg_10_37 hx hb hts hown hK hP hk_a0 lkf_X9_124 hq73 dX9_cell_73 ?_
    refine lv_iload hx hb dX9_cell_76 (lv_at hl 7 rfl) ?_
    obtain ⟨hk_q73, Hf⟩ := c_g_some Hf
    obtain ⟨hi78, Hf⟩ := c_g_some Hf
    refine r_zald hx hb hK hP hk_q73 hi78 dX9_cell_78 ?_
    have hJ105 : ∀ (S105 : st_T) (u0_105 : Int32), j_X9_cell_105 rec53 y7_53 y8_53 S105 u0_105 = some (rr, SE) → ∀ (H : Heap) (locs : List Loc) (ls : Array Slot), st_HP X (st_A S) S105 H → va_S (st_A S) s.heap H locs → lv_has ls 9 [(0, .ref a0), (1, .int x1), (2, .int x2), (3, .int x3), (4, .long y4_32), (6, .int y6_32), (8, .int y8_53)] → W p l e { frames := 4, cells := 0, slots := 0, locals := 98 } s m args below meth c H locs 0 0 (MQ below (st_Q X (st_A S) (some (.int rr)) SE) args s 0 0 (st_A S)) (F0 m 105 ls [.int u0_105, .int y7_53]) := by
      intro S105 u0_105 Hf H locs ls hP hS hl
      unfold j_X9_cell_105 at Hf
      refine lv_iadd hx hb dX9_cell_105 ?_
      refine lv_topi (fun z7_106 ez7_106 => ?_)
      have Hf := c_l_ren Hf ez7_106
      refine lv_istore (lv' := [(7, .int z7_106), (0, .ref a0), (1, .int x1), (2, .int x2), (3, .int x3), (4, .long y4_32), (6, .int y6_32), (8, .int y8_53)]) hx hb dX9_cell_106 hl (by decide) rfl (fun ls hl => ?_)
      refine lv_goto hx hb dX9_cell_108 (tgt := 152) (by decide) ?_
      exact hJ152 S105 z7_106 Hf _ _ _ hP hS (lv_sub hl [1, 2, 3, 4, 5, 6, 0, 7] rfl)
    have hJ104 : ∀ (S104 : st_T), j_X9_cell_104 rec53 y7_53 y8_53 S104 = some (rr, SE) → ∀ (H : Heap) (locs : List Loc) (ls : Array Slot), st_HP X (st_A S) S104 H → va_S (st_A S) s.heap H locs → lv_has ls 9 [(0, .ref a0), (1, .int x1), (2, .int x2), (3, .int x3), (4, .long y4_32), (6, .int y6_32), (8, .int y8_53)] → W p l e { frames := 4, cells := 0, slots := 0, locals := 98 } s m args below meth c H locs 0 0 (MQ below (st_Q X (st_A S) (some (.int rr)) SE) args s 0 0 (st_A S)) (F0 m 104 ls [.int y7_53]) := by
      intro S104 Hf H locs ls hP hS hl
      unfold j_X9_cell_104 at Hf
      refine lv_iconst (v := 0) hx hb dX9_cell_104 (by decide) ?_
      exact hJ105 S104 0 Hf _ _ _ hP hS (lv_sub hl [0, 1, 2, 3, 4, 5, 6] rfl)
    refine lv_if_eq hx hb dX9_cell_79 (tgt := 104) (by decide) (fun hc => ?_) (fun hc => ?_)
    · have Hf := c_i_t Hf hc
      exact hJ104 S53 Hf _ _ _ hP hS (lv_sub hl [0, 1, 2, 3, 4, 5, 7] rfl)
    have Hf := c_i_f Hf hc
    refine lv_aload_n hx hb dX9_cell_82 rfl (lv_at hl 0 rfl) ?_
    obtain ⟨q83, hq83, Hf⟩ := c_n_some Hf
    refine fg_10_35 hx hb hts hown hK hP hk_a0 lkf_X9_118 hq83 dX9_cell_83 ?_
    refine lv_iload hx hb dX9_cell_86 (lv_at hl 7 rfl) ?_
    obtain ⟨hk_q83, Hf⟩ := c_g_some Hf
    obtain ⟨hi88, Hf⟩ := c_g_some Hf
    refine r_iald hx hb hK hP hk_q83 hi88 dX9_cell_88 ?_
    refine lv_iload_n hx hb dX9_cell_89 rfl (lv_at hl 1 rfl) ?_
    refine lv_icmp_ne hx hb dX9_cell_90 (tgt := 104) (by decide) (fun hc => ?_) (fun hc => ?_)
    · have Hf := c_i_f Hf hc
      exact hJ104 S53 Hf _ _ _ hP hS (lv_sub hl [0, 1, 2, 3, 4, 5, 7] rfl)
    have Hf := c_i_t Hf hc
    refine lv_aload_n hx hb dX9_cell_93 rfl (lv_at hl 0 rfl) ?_
    refine lv_iload hx hb dX9_cell_94 (lv_at hl 5 rfl) ?_
    refine lv_iload hx hb dX9_cell_96 (lv_at hl 7 rfl) ?_
    obtain ⟨r98, T98, hq98, Hf⟩ := c_c_some Hf
    refine r_cV (n := 2) (As := [.int y6_32, .int y8_53]) (rest := [.int y7_53]) ⟨hx, hb, hml, hown, hts⟩ (s_X9_gapAhead l X hq98) lkm_X9_260 (by decide +kernel) rfl (by decide) dX9_cell_98 rfl rfl ⟨Nat.le_of_ble_eq_true rfl, Nat.le_of_ble_eq_true rfl⟩ hk_a0 rfl hl.1 (Nat.le_of_ble_eq_true rfl) ⟨Nat.le_of_ble_eq_true rfl, Nat.le_of_ble_eq_true rfl⟩ hK hRO hA hP hS (fun H locs hP hS => ?_)
    refine W.eq (g2 := F0 m 101 ls [.int r98, .int y7_53]) rfl ?_
    refine lv_goto hx hb dX9_cell_101 (tgt := 105) (by decide) ?_
    exact hJ105 T98 r98 Hf _ _ _ hP hS (lv_sub hl [0, 1, 2, 3, 4, 5, 7] rfl)
  have Hf := c_i_f Hf hc
  refine lv_iconst (v := (-1)) hx hb dX9_cell_24 (by decide) ?_
  cases Hf
  exact r_iret hx hb hr rfl hlocks dX9_cell_25 (Nat.le_of_ble_eq_true rfl) (Nat.le_of_ble_eq_true rfl) hP hS
