set_option maxRecDepth 100000 in
def f_X8_look (S : st_T) (a0 : Nat) (x1 : Int32) (x2 : Int32) (x3 : Int32) : Option (Int32 × st_T) :=
  (c_g (st_K S a0 = 10) (c_c (f_X8_find S a0 x1) (fun (r2 : Option Nat) (T2 : st_T) => (c_o r2 none (fun (p2 : Nat) => (c_g (st_K T2 p2 = 3) (c_n (st_fr T2 204 p2) (fun (q16 : Nat) => (c_g (st_K T2 q16 = 1) (c_c (f_Jx4a65c_size_8abf5 T2 q16) (fun (r19 : Int32) (T19 : st_T) => (c_c (f_X8_isWithin T19 x2 0 (r19 - 1)) (fun (r24 : Int32) (T24 : st_T) => (c_i (r24 = 0) none (c_g (st_K T24 p2 = 3) (c_n (st_fr T24 204 p2) (fun (q42 : Nat) => (c_g (st_K T24 q42 = 1) (c_c (f_Jx4a65c_get_915e3 T24 q42 x2) (fun (r46 : Option Nat) (T46 : st_T) => (c_n r46 (fun (p46 : Nat) => (c_g (st_K T46 p46 = 4) (c_i (x3 = 0) (some ((st_fi T46 300 p46), T46)) (c_i (x3 = 1) (some ((st_fi T46 301 p46), T46)) (c_i (x3 = 2) (some ((st_fi T46 302 p46), T46)) (c_i (x3 = 3) (some ((st_fi T46 303 p46), T46)) (c_i (x3 = 4) (some ((st_fi T46 304 p46), T46)) (c_i (x3 = 5) (some ((st_fi T46 305 p46), T46)) none)))))))))))))))))))))))))))))
set_option maxRecDepth 100000 in
set_option maxHeartbeats 4000000 in
theorem s_X8_look (l : Launch) (X : st_I) {S SE : st_T} {a0 : Nat} {x1 : Int32} {x2 : Int32} {x3 : Int32} {rr : Int32} (Hf : f_X8_look S a0 x1 x2 x3 = some (rr, SE)) : Met l yX8_look (Cond.code yX8_look cX8_look 6 (some .int) :: lw_g) { frames := 4, cells := 0, slots := 0, locals := 85 } (st_P X S [.ref a0, .int x1, .int x2, .int x3]) (st_Q X (st_A S) (some (.int rr)) SE) 0 0 (st_A S) := by
  refine st_ofW (by decide) (Nat.le_of_ble_eq_true rfl) ?_
  intro p e s m args below meth c hx hb hr hml hlocks hnm hts hown hK hRO hA hP hS ls hl
  have hown : s.vm.findClass RX8 = some m.cls := hown
  have hl : lv_has ls 6 [(0, .ref a0), (1, .int x1), (2, .int x2), (3, .int x3)] := hl
  unfold f_X8_look at Hf
  refine lv_aload_n hx hb dX8_look_0 rfl (lv_at hl 0 rfl) ?_
  refine lv_iload_n hx hb dX8_look_1 rfl (lv_at hl 1 rfl) ?_
  obtain ⟨hk_a0, Hf⟩ := c_g_some Hf
  obtain ⟨r2, T2, hq2, Hf⟩ := c_c_some Hf
  refine r_cV (n := 1) (As := [.int x1]) (rest := []) ⟨hx, hb, hml, hown, hts⟩ (s_X8_find l X hq2) lkm_X8_104 (by decide +kernel) rfl (by decide) dX8_look_2 rfl rfl ⟨Nat.le_of_ble_eq_true rfl, Nat.le_of_ble_eq_true rfl⟩ hk_a0 rfl hl.1 (Nat.le_of_ble_eq_true rfl) ⟨Nat.le_of_ble_eq_true rfl, Nat.le_of_ble_eq_true rfl⟩ hK hRO hA hP hS (fun H locs hP hS => ?_)
  rcases r2 with _ | p2
  · have Hf := c_o_n Hf
    refine W.eq (g2 := F0 m 5 ls [.null]) rfl ?_
    refine lv_astoreN (lv' := [(4, .null), (0, .ref a0), (1, .int x1), (2, .int x2), (3, .int x3)]) hx hb dX8_look_5 hl (by decide) rfl (fun ls hl => ?_)
    refine lv_aloadN hx hb dX8_look_7 (lv_at hl 0 rfl) ?_
    refine lv_ifnullN hx hb dX8_look_9 (tgt := 30) (by decide) ?_
    cases Hf
  have Hf := c_o_s Hf
  refine W.eq (g2 := F0 m 5 ls [.ref p2]) rfl ?_
  refine lv_astore (lv' := [(4, .ref p2), (0, .ref a0), (1, .int x1), (2, .int x2), (3, .int x3)]) hx hb dX8_look_5 hl (by decide) rfl (fun ls hl => ?_)
  refine lv_aload hx hb dX8_look_7 (lv_at hl 0 rfl) ?_
  refine lv_ifnull hx hb dX8_look_9 ?_
  refine lv_iload_n hx hb dX8_look_12 rfl (lv_at hl 3 rfl) ?_
  refine lv_iconst (v := 0) hx hb dX8_look_13 (by decide) ?_
  refine lv_aload hx hb dX8_look_14 (lv_at hl 0 rfl) ?_
  obtain ⟨hk_p2, Hf⟩ := c_g_some Hf
  obtain ⟨q16, hq16, Hf⟩ := c_n_some Hf
  refine fg_2_4 hx hb hts hown hK hP hk_p2 lkf_X8_108 hq16 dX8_look_16 ?_
  obtain ⟨hk_q16, Hf⟩ := c_g_some Hf
  obtain ⟨r19, T19, hq19, Hf⟩ := c_c_some Hf
  refine r_cV (n := 0) (As := []) (rest := [.int 0, .int x2]) ⟨hx, hb, hml, hown, hts⟩ (s_Jx4a65c_size_8abf5 l X hq19) lkm_X8_81 (by decide +kernel) rfl (by decide) dX8_look_19 rfl rfl ⟨Nat.le_of_ble_eq_true rfl, Nat.le_of_ble_eq_true rfl⟩ hk_q16 rfl hl.1 (Nat.le_of_ble_eq_true rfl) ⟨Nat.le_of_ble_eq_true rfl, Nat.le_of_ble_eq_true rfl⟩ hK hRO hA hP hS (fun H locs hP hS => ?_)
  refine W.eq (g2 := F0 m 22 ls [.int r19, .int 0, .int x2]) rfl ?_
  refine lv_iconst (v := 1) hx hb dX8_look_22 (by decide) ?_
  refine lv_isub hx hb dX8_look_23 ?_
  obtain ⟨r24, T24, hq24, Hf⟩ := c_c_some Hf
  refine r_cS (n := 3) (As := [.int x2, .int 0, .int (r19 - 1)]) (rest := []) ⟨hx, hb, hml, hown, hts⟩ (s_X8_isWithin l X hq24) lkm_X8_69 (by decide +kernel) dX8_look_24 rfl rfl ⟨Nat.le_of_ble_eq_true rfl, Nat.le_of_ble_eq_true rfl⟩ rfl hl.1 (Nat.le_of_ble_eq_true rfl) ⟨Nat.le_of_ble_eq_true rfl, Nat.le_of_ble_eq_true rfl⟩ hK hRO hA hP hS (fun H locs hP hS => ?_)
  refine W.eq (g2 := F0 m 27 ls [.int r24]) rfl ?_
  refine lv_if_ne hx hb dX8_look_27 (tgt := 40) (by decide) (fun hc => ?_) (fun hc => ?_)
  · have Hf := c_i_f Hf hc
    refine lv_aload hx hb dX8_look_40 (lv_at hl 0 rfl) ?_
    obtain ⟨hk_p2, Hf⟩ := c_g_some Hf
    obtain ⟨q42, hq42, Hf⟩ := c_n_some Hf
    refine fg_2_4 hx hb hts hown hK hP hk_p2 lkf_X8_108 hq42 dX8_look_42 ?_
    refine lv_iload_n hx hb dX8_look_45 rfl (lv_at hl 3 rfl) ?_
    obtain ⟨hk_q42, Hf⟩ := c_g_some Hf
    obtain ⟨r46, T46, hq46, Hf⟩ := c_c_some Hf
    refine r_cV (n := 1) (As := [.int x2]) (rest := []) ⟨hx, hb, hml, hown, hts⟩ (s_Jx4a65c_get_915e3 l X hq46) lkm_X8_85 (by decide +kernel) rfl (by decide) dX8_look_46 rfl rfl ⟨Nat.le_of_ble_eq_true rfl, Nat.le_of_ble_eq_true rfl⟩ hk_q42 rfl hl.1 (Nat.le_of_ble_eq_true rfl) ⟨Nat.le_of_ble_eq_true rfl, Nat.le_of_ble_eq_true rfl⟩ hK hRO hA hP hS (fun H locs hP hS => ?_)
    obtain ⟨p46, ep46, Hf⟩ := c_n_some Hf
    subst ep46
    refine W.eq (g2 := F0 m 49 ls [.ref p46]) rfl ?_
    obtain ⟨hk_p46, Hf⟩ := c_g_some Hf
    refine va_castE hx hb hown (hts _ (lg_1 456 rfl rfl)) (st_recv hK hP hk_p46 (by decide) rfl) dX8_look_49 ?_
    refine lv_astore (lv' := [(5, .ref p46), (4, .ref p2), (0, .ref a0), (1, .int x1), (2, .int x2), (3, .int x3)]) hx hb dX8_look_52 hl (by decide) rfl (fun ls hl => ?_)
    refine lv_iload_n hx hb dX8_look_54 rfl (lv_at hl 5 rfl) ?_
    by_cases hs0 : x3 = 0
    · have Hf := c_i_t Hf hs0
      refine lv_tableIn hx hb dX8_look_55 (by rw [hs0]; decide) (by rw [hs0]; decide) (off := 37) (by rw [hs0]; rfl) (tgt := 92) (by decide) ?_
      refine lv_aload hx hb dX8_look_92 (lv_at hl 0 rfl) ?_
      refine fg_3_0 hx hb hts hown hK hP hk_p46 lkf_X8_154 dX8_look_94 ?_
      cases Hf
      exact r_iret hx hb hr rfl hlocks dX8_look_97 (Nat.le_of_ble_eq_true rfl) (Nat.le_of_ble_eq_true rfl) hP hS
    have Hf := c_i_f Hf hs0
    by_cases hs1 : x3 = 1
    · have Hf := c_i_t Hf hs1
      refine lv_tableIn hx hb dX8_look_55 (by rw [hs1]; decide) (by rw [hs1]; decide) (off := 43) (by rw [hs1]; rfl) (tgt := 98) (by decide) ?_
      refine lv_aload hx hb dX8_look_98 (lv_at hl 0 rfl) ?_
      refine fg_3_1 hx hb hts hown hK hP hk_p46 lkf_X8_157 dX8_look_100 ?_
      cases Hf
      exact r_iret hx hb hr rfl hlocks dX8_look_103 (Nat.le_of_ble_eq_true rfl) (Nat.le_of_ble_eq_true rfl) hP hS
    have Hf := c_i_f Hf hs1
    by_cases hs2 : x3 = 2
    · have Hf := c_i_t Hf hs2
      refine lv_tableIn hx hb dX8_look_55 (by rw [hs2]; decide) (by rw [hs2]; decide) (off := 49) (by rw [hs2]; rfl) (tgt := 104) (by decide) ?_
      refine lv_aload hx hb dX8_look_104 (lv_at hl 0 rfl) ?_
      refine fg_3_2 hx hb hts hown hK hP hk_p46 lkf_X8_160 dX8_look_106 ?_
      cases Hf
      exact r_iret hx hb hr rfl hlocks dX8_look_109 (Nat.le_of_ble_eq_true rfl) (Nat.le_of_ble_eq_true rfl) hP hS
    have Hf := c_i_f Hf hs2
    by_cases hs3 : x3 = 3
    · have Hf := c_i_t Hf hs3
      refine lv_tableIn hx hb dX8_look_55 (by rw [hs3]; decide) (by rw [hs3]; decide) (off := 55) (by rw [hs3]; rfl) (tgt := 110) (by decide) ?_
      refine lv_aload hx hb dX8_look_110 (lv_at hl 0 rfl) ?_
      refine fg_3_3 hx hb hts hown hK hP hk_p46 lkf_X8_163 dX8_look_112 ?_
      cases Hf
      exact r_iret hx hb hr rfl hlocks dX8_look_115 (Nat.le_of_ble_eq_true rfl) (Nat.le_of_ble_eq_true rfl) hP hS
    have Hf := c_i_f Hf hs3
    by_cases hs4 : x3 = 4
    · have Hf := c_i_t Hf hs4
      refine lv_tableIn hx hb dX8_look_55 (by rw [hs4]; decide) (by rw [hs4]; decide) (off := 61) (by rw [hs4]; rfl) (tgt := 116) (by decide) ?_
      refine lv_aload hx hb dX8_look_116 (lv_at hl 0 rfl) ?_
      refine fg_3_4 hx hb hts hown hK hP hk_p46 lkf_X8_166 dX8_look_118 ?_
      cases Hf
      exact r_iret hx hb hr rfl hlocks dX8_look_121 (Nat.le_of_ble_eq_true rfl) (Nat.le_of_ble_eq_true rfl) hP hS
    have Hf := c_i_f Hf hs4
    by_cases hs5 : x3 = 5
    · have Hf := c_i_t Hf hs5
      refine lv_tableIn hx hb dX8_look_55 (by rw [hs5]; decide) (by rw [hs5]; decide) (off := 67) (by rw [hs5]; rfl) (tgt := 122) (by decide) ?_
      refine lv_aload hx hb dX8_look_122 (lv_at hl 0 rfl) ?_
      refine fg_3_5 hx hb hts hown hK hP hk_p46 lkf_X8_169 dX8_look_124 ?_
      cases Hf
      exact r_iret hx hb hr rfl hlocks dX8_look_127 (Nat.le_of_ble_eq_true rfl) (Nat.le_of_ble_eq_true rfl) hP hS
    have Hf := c_i_f Hf hs5
    refine lv_tableOut hx hb dX8_look_55 (by have n0 := sw_ne 0 hs0 (n := 0) rfl; have n1 := sw_ne 1 hs1 (n := 1) rfl; have n2 := sw_ne 2 hs2 (n := 2) rfl; have n3 := sw_ne 3 hs3 (n := 3) rfl; have n4 := sw_ne 4 hs4 (n := 4) rfl; have n5 := sw_ne 5 hs5 (n := 5) rfl; omega) (tgt := 128) (by decide) ?_
    cases Hf
  have Hf := c_i_t Hf hc
  cases Hf

set_option maxRecDepth 100000 in
def f_X8_day (S : st_T) (a0 : Nat) (x1 : Int32) (x2 : Int32) : Option (Int32 × st_T) :=
  (c_g (st_K S a0 = 10) (c_c (f_X8_findCoded S a0 x1) (fun (r2 : Option Nat) (T2 : st_T) => (c_o r2 none (fun (p2 : Nat) => (c_i (x2 = 0) (c_g (st_K T2 p2 = 3) (c_n (st_fr T2 204 p2) (fun (q69 : Nat) => (c_g (st_K T2 q69 = 1) (c_c (f_Jx4a65c_size_8abf5 T2 q69) (fun (r72 : Int32) (T72 : st_T) => (some (r72, T72)))))))) (c_i (x2 = 1) (c_g (st_K T2 p2 = 3) (c_c (f_X1_tensWithoutLine T2 p2) (fun (r77 : Int32) (T77 : st_T) => (some (r77, T77))))) (c_i (x2 = 2) (c_g (st_K T2 p2 = 3) (c_c (f_X1_tensMended T2 p2) (fun (r82 : Int32) (T82 : st_T) => (some (r82, T82))))) (c_i (x2 = 3) (c_g (st_K T2 p2 = 3) (c_c (f_X1_linesWithoutCode T2 p2) (fun (r87 : Int32) (T87 : st_T) => (some (r87, T87))))) (c_i (x2 = 4) (c_g (st_K T2 p2 = 3) (some ((st_fi T2 200 p2), T2))) (c_i (x2 = 5) (c_g (st_K T2 p2 = 3) (some ((st_fi T2 201 p2), T2))) (c_i (x2 = 6) (c_g (st_K T2 p2 = 3) (some ((st_fi T2 202 p2), T2))) (c_i (x2 = 7) (c_g (st_K T2 p2 = 3) (some ((st_fi T2 203 p2), T2))) none)))))))))))))
set_option maxRecDepth 100000 in
set_option maxHeartbeats 4000000 in
theorem s_X8_day (l : Launch) (X : st_I) {S SE : st_T} {a0 : Nat} {x1 : Int32} {x2 : Int32} {rr : Int32} (Hf : f_X8_day S a0 x1 x2 = some (rr, SE)) : Met l yX8_day (Cond.code yX8_day cX8_day 4 (some .int) :: lw_g) { frames := 7, cells := 0, slots := 0, locals := 168 } (st_P X S [.ref a0, .int x1, .int x2]) (st_Q X (st_A S) (some (.int rr)) SE) 0 0 (st_A S) := by
  refine st_ofW (by decide) (Nat.le_of_ble_eq_true rfl) ?_
  intro p e s m args below meth c hx hb hr hml hlocks hnm hts hown hK hRO hA hP hS ls hl
  have hown : s.vm.findClass RX8 = some m.cls := hown
  have hl : lv_has ls 4 [(0, .ref a0), (1, .int x1), (2, .int x2)] := hl
  unfold f_X8_day at Hf
  refine lv_aload_n hx hb dX8_day_0 rfl (lv_at hl 0 rfl) ?_
  refine lv_iload_n hx hb dX8_day_1 rfl (lv_at hl 1 rfl) ?_
  obtain ⟨hk_a0, Hf⟩ := c_g_some Hf
  obtain ⟨r2, T2, hq2, Hf⟩ := c_c_some Hf
  refine r_cV (n := 1) (As := [.int x1]) (rest := []) ⟨hx, hb, hml, hown, hts⟩ (s_X8_findCoded l X hq2) lkm_X8_141 (by decide +kernel) rfl (by decide) dX8_day_2 rfl rfl ⟨Nat.le_of_ble_eq_true rfl, Nat.le_of_ble_eq_true rfl⟩ hk_a0 rfl hl.1 (Nat.le_of_ble_eq_true rfl) ⟨Nat.le_of_ble_eq_true rfl, Nat.le_of_ble_eq_true rfl⟩ hK hRO hA hP hS (fun H locs hP hS => ?_)
  rcases r2 with _ | p2
  · have Hf := c_o_n Hf
    refine W.eq (g2 := F0 m 5 ls [.null]) rfl ?_
    refine lv_astore_nN (lv' := [(3, .null), (0, .ref a0), (1, .int x1), (2, .int x2)]) hx hb dX8_day_5 rfl hl (by decide) rfl (fun ls hl => ?_)
    refine lv_aload_nN hx hb dX8_day_6 rfl (lv_at hl 0 rfl) ?_
    refine lv_ifnonnullN hx hb dX8_day_7 ?_
    cases Hf
  have Hf := c_o_s Hf
  refine W.eq (g2 := F0 m 5 ls [.ref p2]) rfl ?_
  refine lv_astore_n (lv' := [(3, .ref p2), (0, .ref a0), (1, .int x1), (2, .int x2)]) hx hb dX8_day_5 rfl hl (by decide) rfl (fun ls hl => ?_)
  refine lv_aload_n hx hb dX8_day_6 rfl (lv_at hl 0 rfl) ?_
  refine lv_ifnonnull hx hb dX8_day_7 (tgt := 20) (by decide) ?_
  refine lv_iload_n hx hb dX8_day_20 rfl (lv_at hl 3 rfl) ?_
  by_cases hs0 : x2 = 0
  · have Hf := c_i_t Hf hs0
    refine lv_tableIn hx hb dX8_day_21 (by rw [hs0]; decide) (by rw [hs0]; decide) (off := 47) (by rw [hs0]; rfl) (tgt := 68) (by decide) ?_
    refine lv_aload_n hx hb dX8_day_68 rfl (lv_at hl 0 rfl) ?_
    obtain ⟨hk_p2, Hf⟩ := c_g_some Hf
    obtain ⟨q69, hq69, Hf⟩ := c_n_some Hf
    refine fg_2_4 hx hb hts hown hK hP hk_p2 lkf_X8_108 hq69 dX8_day_69 ?_
    obtain ⟨hk_q69, Hf⟩ := c_g_some Hf
    obtain ⟨r72, T72, hq72, Hf⟩ := c_c_some Hf
    refine r_cV (n := 0) (As := []) (rest := []) ⟨hx, hb, hml, hown, hts⟩ (s_Jx4a65c_size_8abf5 l X hq72) lkm_X8_81 (by decide +kernel) rfl (by decide) dX8_day_72 rfl rfl ⟨Nat.le_of_ble_eq_true rfl, Nat.le_of_ble_eq_true rfl⟩ hk_q69 rfl hl.1 (Nat.le_of_ble_eq_true rfl) ⟨Nat.le_of_ble_eq_true rfl, Nat.le_of_ble_eq_true rfl⟩ hK hRO hA hP hS (fun H locs hP hS => ?_)
    refine W.eq (g2 := F0 m 75 ls [.int r72]) rfl ?_
    cases Hf
    exact r_iret hx hb hr rfl hlocks dX8_day_75 (Nat.le_of_ble_eq_true rfl) (Nat.le_of_ble_eq_true rfl) hP hS
  have Hf := c_i_f Hf hs0
  by_cases hs1 : x2 = 1
  · have Hf := c_i_t Hf hs1
    refine lv_tableIn hx hb dX8_day_21 (by rw [hs1]; decide) (by rw [hs1]; decide) (off := 55) (by rw [hs1]; rfl) (tgt := 76) (by decide) ?_
    refine lv_aload_n hx hb dX8_day_76 rfl (lv_at hl 0 rfl) ?_
    obtain ⟨hk_p2, Hf⟩ := c_g_some Hf
    obtain ⟨r77, T77, hq77, Hf⟩ := c_c_some Hf
    refine r_cV (n := 0) (As := []) (rest := []) ⟨hx, hb, hml, hown, hts⟩ (s_X1_tensWithoutLine l X hq77) lkm_X8_208 (by decide +kernel) rfl (by decide) dX8_day_77 rfl rfl ⟨Nat.le_of_ble_eq_true rfl, Nat.le_of_ble_eq_true rfl⟩ hk_p2 rfl hl.1 (Nat.le_of_ble_eq_true rfl) ⟨Nat.le_of_ble_eq_true rfl, Nat.le_of_ble_eq_true rfl⟩ hK hRO hA hP hS (fun H locs hP hS => ?_)
    refine W.eq (g2 := F0 m 80 ls [.int r77]) rfl ?_
    cases Hf
    exact r_iret hx hb hr rfl hlocks dX8_day_80 (Nat.le_of_ble_eq_true rfl) (Nat.le_of_ble_eq_true rfl) hP hS
  have Hf := c_i_f Hf hs1
  by_cases hs2 : x2 = 2
  · have Hf := c_i_t Hf hs2
    refine lv_tableIn hx hb dX8_day_21 (by rw [hs2]; decide) (by rw [hs2]; decide) (off := 60) (by rw [hs2]; rfl) (tgt := 81) (by decide) ?_
    refine lv_aload_n hx hb dX8_day_81 rfl (lv_at hl 0 rfl) ?_
    obtain ⟨hk_p2, Hf⟩ := c_g_some Hf
    obtain ⟨r82, T82, hq82, Hf⟩ := c_c_some Hf
    refine r_cV (n := 0) (As := []) (rest := []) ⟨hx, hb, hml, hown, hts⟩ (s_X1_tensMended l X hq82) lkm_X8_211 (by decide +kernel) rfl (by decide) dX8_day_82 rfl rfl ⟨Nat.le_of_ble_eq_true rfl, Nat.le_of_ble_eq_true rfl⟩ hk_p2 rfl hl.1 (Nat.le_of_ble_eq_true rfl) ⟨Nat.le_of_ble_eq_true rfl, Nat.le_of_ble_eq_true rfl⟩ hK hRO hA hP hS (fun H locs hP hS => ?_)
    refine W.eq (g2 := F0 m 85 ls [.int r82]) rfl ?_
    cases Hf
    exact r_iret hx hb hr rfl hlocks dX8_day_85 (Nat.le_of_ble_eq_true rfl) (Nat.le_of_ble_eq_true rfl) hP hS
  have Hf := c_i_f Hf hs2
  by_cases hs3 : x2 = 3
  · have Hf := c_i_t Hf hs3
    refine lv_tableIn hx hb dX8_day_21 (by rw [hs3]; decide) (by rw [hs3]; decide) (off := 65) (by rw [hs3]; rfl) (tgt := 86) (by decide) ?_
    refine lv_aload_n hx hb dX8_day_86 rfl (lv_at hl 0 rfl) ?_
    obtain ⟨hk_p2, Hf⟩ := c_g_some Hf
    obtain ⟨r87, T87, hq87, Hf⟩ := c_c_some Hf
    refine r_cV (n := 0) (As := []) (rest := []) ⟨hx, hb, hml, hown, hts⟩ (s_X1_linesWithoutCode l X hq87) lkm_X8_214 (by decide +kernel) rfl (by decide) dX8_day_87 rfl rfl ⟨Nat.le_of_ble_eq_true rfl, Nat.le_of_ble_eq_true rfl⟩ hk_p2 rfl hl.1 (Nat.le_of_ble_eq_true rfl) ⟨Nat.le_of_ble_eq_true rfl, Nat.le_of_ble_eq_true rfl⟩ hK hRO hA hP hS (fun H locs hP hS => ?_)
    refine W.eq (g2 := F0 m 90 ls [.int r87]) rfl ?_
    cases Hf
    exact r_iret hx hb hr rfl hlocks dX8_day_90 (Nat.le_of_ble_eq_true rfl) (Nat.le_of_ble_eq_true rfl) hP hS
  have Hf := c_i_f Hf hs3
  by_cases hs4 : x2 = 4
  · have Hf := c_i_t Hf hs4
    refine lv_tableIn hx hb dX8_day_21 (by rw [hs4]; decide) (by rw [hs4]; decide) (off := 70) (by rw [hs4]; rfl) (tgt := 91) (by decide) ?_
    refine lv_aload_n hx hb dX8_day_91 rfl (lv_at hl 0 rfl) ?_
    obtain ⟨hk_p2, Hf⟩ := c_g_some Hf
    refine fg_2_0 hx hb hts hown hK hP hk_p2 lkf_X8_217 dX8_day_92 ?_
    cases Hf
    exact r_iret hx hb hr rfl hlocks dX8_day_95 (Nat.le_of_ble_eq_true rfl) (Nat.le_of_ble_eq_true rfl) hP hS
  have Hf := c_i_f Hf hs4
  by_cases hs5 : x2 = 5
  · have Hf := c_i_t Hf hs5
    refine lv_tableIn hx hb dX8_day_21 (by rw [hs5]; decide) (by rw [hs5]; decide) (off := 75) (by rw [hs5]; rfl) (tgt := 96) (by decide) ?_
    refine lv_aload_n hx hb dX8_day_96 rfl (lv_at hl 0 rfl) ?_
    obtain ⟨hk_p2, Hf⟩ := c_g_some Hf
    refine fg_2_1 hx hb hts hown hK hP hk_p2 lkf_X8_94 dX8_day_97 ?_
    cases Hf
    exact r_iret hx hb hr rfl hlocks dX8_day_100 (Nat.le_of_ble_eq_true rfl) (Nat.le_of_ble_eq_true rfl) hP hS
  have Hf := c_i_f Hf hs5
  by_cases hs6 : x2 = 6
  · have Hf := c_i_t Hf hs6
    refine lv_tableIn hx hb dX8_day_21 (by rw [hs6]; decide) (by rw [hs6]; decide) (off := 80) (by rw [hs6]; rfl) (tgt := 101) (by decide) ?_
    refine lv_aload_n hx hb dX8_day_101 rfl (lv_at hl 0 rfl) ?_
    obtain ⟨hk_p2, Hf⟩ := c_g_some Hf
    refine fg_2_2 hx hb hts hown hK hP hk_p2 lkf_X8_220 dX8_day_102 ?_
    cases Hf
    exact r_iret hx hb hr rfl hlocks dX8_day_105 (Nat.le_of_ble_eq_true rfl) (Nat.le_of_ble_eq_true rfl) hP hS
  have Hf := c_i_f Hf hs6
  by_cases hs7 : x2 = 7
  · have Hf := c_i_t Hf hs7
    refine lv_tableIn hx hb dX8_day_21 (by rw [hs7]; decide) (by rw [hs7]; decide) (off := 85) (by rw [hs7]; rfl) (tgt := 106) (by decide) ?_
    refine lv_aload_n hx hb dX8_day_106 rfl (lv_at hl 0 rfl) ?_
    obtain ⟨hk_p2, Hf⟩ := c_g_some Hf
    refine fg_2_3 hx hb hts hown hK hP hk_p2 lkf_X8_223 dX8_day_107 ?_
    cases Hf
    exact r_iret hx hb hr rfl hlocks dX8_day_110 (Nat.le_of_ble_eq_true rfl) (Nat.le_of_ble_eq_true rfl) hP hS
  have Hf := c_i_f Hf hs7
  refine lv_tableOut hx hb dX8_day_21 (by have n0 := sw_ne 0 hs0 (n := 0) rfl; have n1 := sw_ne 1 hs1 (n := 1) rfl; have n2 := sw_ne 2 hs2 (n := 2) rfl; have n3 := sw_ne 3 hs3 (n := 3) rfl; have n4 := sw_ne 4 hs4 (n := 4) rfl; have n5 := sw_ne 5 hs5 (n := 5) rfl; have n6 := sw_ne 6 hs6 (n := 6) rfl; have n7 := sw_ne 7 hs7 (n := 7) rfl; omega) (tgt := 111) (by decide) ?_
  cases Hf

set_option maxRecDepth 100000 in
def h_X8_look (S : st_T) (a0 : Nat) (x1 : Int32) (x2 : Int32) (x3 : Int32) : Option (Unit × st_T) :=
  (c_g (st_K S a0 = 10) (c_c (f_X8_find S a0 x1) (fun (r2 : Option Nat) (T2 : st_T) => (c_o r2 (some ((), T2)) (fun (p2 : Nat) => (c_g (st_K T2 p2 = 3) (c_n (st_fr T2 204 p2) (fun (q16 : Nat) => (c_g (st_K T2 q16 = 1) (c_c (f_Jx4a65c_size_8abf5 T2 q16) (fun (r19 : Int32) (T19 : st_T) => (c_c (f_X8_isWithin T19 x2 0 (r19 - 1)) (fun (r24 : Int32) (T24 : st_T) => (c_i (r24 = 0) (some ((), T24)) (c_g (st_K T24 p2 = 3) (c_n (st_fr T24 204 p2) (fun (q42 : Nat) => (c_g (st_K T24 q42 = 1) (c_c (f_Jx4a65c_get_915e3 T24 q42 x2) (fun (r46 : Option Nat) (T46 : st_T) => (c_n r46 (fun (p46 : Nat) => (c_g (st_K T46 p46 = 4) (c_i (x3 = 0) none (c_i (x3 = 1) none (c_i (x3 = 2) none (c_i (x3 = 3) none (c_i (x3 = 4) none (c_i (x3 = 5) none (some ((), T46)))))))))))))))))))))))))))))))
set_option maxRecDepth 100000 in
set_option maxHeartbeats 4000000 in
theorem x_X8_look (l : Launch) (hlt : l.stackTraces = false) (X : st_I) {S SE : st_T} {a0 : Nat} {x1 : Int32} {x2 : Int32} {x3 : Int32} {rr : Unit} (Hf : h_X8_look S a0 x1 x2 x3 = some (rr, SE)) : vx_Met l yX8_look (Cond.code yX8_look cX8_look 6 (some .int) :: lw_g) { frames := 6, cells := 1, slots := 6, locals := 120 } (st_P X S [.ref a0, .int x1, .int x2, .int x3]) st_NQ (st_XC X (st_A S) SE) 1 6 (st_A S) := by
  refine st_ofX (by decide) (Nat.le_of_ble_eq_true rfl) ?_
  intro p e s m args below meth c hex hx hb hr hml hlocks hnm hts hown hK hRO hA hP hS ls hl
  have hown : s.vm.findClass RX8 = some m.cls := hown
  have hl : lv_has ls 6 [(0, .ref a0), (1, .int x1), (2, .int x2), (3, .int x3)] := hl
  unfold h_X8_look at Hf
  refine lv_aload_n hx hb dX8_look_0 rfl (lv_at hl 0 rfl) ?_
  refine lv_iload_n hx hb dX8_look_1 rfl (lv_at hl 1 rfl) ?_
  obtain ⟨hk_a0, Hf⟩ := c_g_some Hf
  obtain ⟨r2, T2, hq2, Hf⟩ := c_c_some Hf
  refine r_cV (n := 1) (As := [.int x1]) (rest := []) ⟨hx, hb, hml, hown, hts⟩ (s_X8_find l X hq2) lkm_X8_104 (by decide +kernel) rfl (by decide) dX8_look_2 rfl rfl ⟨Nat.le_of_ble_eq_true rfl, Nat.le_of_ble_eq_true rfl⟩ hk_a0 rfl hl.1 (Nat.le_of_ble_eq_true rfl) ⟨Nat.le_of_ble_eq_true rfl, Nat.le_of_ble_eq_true rfl⟩ hK hRO hA hP hS (fun H locs hP hS => ?_)
  rcases r2 with _ | p2
  · have Hf := c_o_n Hf
    refine W.eq (g2 := F0 m 5 ls [.null]) rfl ?_
    refine lv_astoreN (lv' := [(4, .null), (0, .ref a0), (1, .int x1), (2, .int x2), (3, .int x3)]) hx hb dX8_look_5 hl (by decide) rfl (fun ls hl => ?_)
    refine lv_aloadN hx hb dX8_look_7 (lv_at hl 0 rfl) ?_
    refine lv_ifnullN hx hb dX8_look_9 (tgt := 30) (by decide) ?_
    cases Hf
    exact r_thr (is := 149) (text := "no such line") hlt hx hb hts (hml.trans hl.1.symm) hown hlocks hex (by decide) (lg_1 875 rfl rfl) (lg_1 91 rfl rfl) dX8_look_30 dX8_look_33 dX8_look_34 dX8_look_36 dX8_look_39 (Nat.le_of_ble_eq_true rfl) (Nat.le_of_ble_eq_true rfl) (Nat.le_of_ble_eq_true rfl) (Nat.le_of_ble_eq_true rfl) (Nat.le_of_ble_eq_true rfl) (Nat.le_of_ble_eq_true rfl) hRO hP hS
  have Hf := c_o_s Hf
  refine W.eq (g2 := F0 m 5 ls [.ref p2]) rfl ?_
  refine lv_astore (lv' := [(4, .ref p2), (0, .ref a0), (1, .int x1), (2, .int x2), (3, .int x3)]) hx hb dX8_look_5 hl (by decide) rfl (fun ls hl => ?_)
  refine lv_aload hx hb dX8_look_7 (lv_at hl 0 rfl) ?_
  refine lv_ifnull hx hb dX8_look_9 ?_
  refine lv_iload_n hx hb dX8_look_12 rfl (lv_at hl 3 rfl) ?_
  refine lv_iconst (v := 0) hx hb dX8_look_13 (by decide) ?_
  refine lv_aload hx hb dX8_look_14 (lv_at hl 0 rfl) ?_
  obtain ⟨hk_p2, Hf⟩ := c_g_some Hf
  obtain ⟨q16, hq16, Hf⟩ := c_n_some Hf
  refine fg_2_4 hx hb hts hown hK hP hk_p2 lkf_X8_108 hq16 dX8_look_16 ?_
  obtain ⟨hk_q16, Hf⟩ := c_g_some Hf
  obtain ⟨r19, T19, hq19, Hf⟩ := c_c_some Hf
  refine r_cV (n := 0) (As := []) (rest := [.int 0, .int x2]) ⟨hx, hb, hml, hown, hts⟩ (s_Jx4a65c_size_8abf5 l X hq19) lkm_X8_81 (by decide +kernel) rfl (by decide) dX8_look_19 rfl rfl ⟨Nat.le_of_ble_eq_true rfl, Nat.le_of_ble_eq_true rfl⟩ hk_q16 rfl hl.1 (Nat.le_of_ble_eq_true rfl) ⟨Nat.le_of_ble_eq_true rfl, Nat.le_of_ble_eq_true rfl⟩ hK hRO hA hP hS (fun H locs hP hS => ?_)
  refine W.eq (g2 := F0 m 22 ls [.int r19, .int 0, .int x2]) rfl ?_
  refine lv_iconst (v := 1) hx hb dX8_look_22 (by decide) ?_
  refine lv_isub hx hb dX8_look_23 ?_
  obtain ⟨r24, T24, hq24, Hf⟩ := c_c_some Hf
  refine r_cS (n := 3) (As := [.int x2, .int 0, .int (r19 - 1)]) (rest := []) ⟨hx, hb, hml, hown, hts⟩ (s_X8_isWithin l X hq24) lkm_X8_69 (by decide +kernel) dX8_look_24 rfl rfl ⟨Nat.le_of_ble_eq_true rfl, Nat.le_of_ble_eq_true rfl⟩ rfl hl.1 (Nat.le_of_ble_eq_true rfl) ⟨Nat.le_of_ble_eq_true rfl, Nat.le_of_ble_eq_true rfl⟩ hK hRO hA hP hS (fun H locs hP hS => ?_)
  refine W.eq (g2 := F0 m 27 ls [.int r24]) rfl ?_
  refine lv_if_ne hx hb dX8_look_27 (tgt := 40) (by decide) (fun hc => ?_) (fun hc => ?_)
  · have Hf := c_i_f Hf hc
    refine lv_aload hx hb dX8_look_40 (lv_at hl 0 rfl) ?_
    obtain ⟨hk_p2, Hf⟩ := c_g_some Hf
    obtain ⟨q42, hq42, Hf⟩ := c_n_some Hf
    refine fg_2_4 hx hb hts hown hK hP hk_p2 lkf_X8_108 hq42 dX8_look_42 ?_
    refine lv_iload_n hx hb dX8_look_45 rfl (lv_at hl 3 rfl) ?_
    obtain ⟨hk_q42, Hf⟩ := c_g_some Hf
    obtain ⟨r46, T46, hq46, Hf⟩ := c_c_some Hf
    refine r_cV (n := 1) (As := [.int x2]) (rest := []) ⟨hx, hb, hml, hown, hts⟩ (s_Jx4a65c_get_915e3 l X hq46) lkm_X8_85 (by decide +kernel) rfl (by decide) dX8_look_46 rfl rfl ⟨Nat.le_of_ble_eq_true rfl, Nat.le_of_ble_eq_true rfl⟩ hk_q42 rfl hl.1 (Nat.le_of_ble_eq_true rfl) ⟨Nat.le_of_ble_eq_true rfl, Nat.le_of_ble_eq_true rfl⟩ hK hRO hA hP hS (fun H locs hP hS => ?_)
    obtain ⟨p46, ep46, Hf⟩ := c_n_some Hf
    subst ep46
    refine W.eq (g2 := F0 m 49 ls [.ref p46]) rfl ?_
    obtain ⟨hk_p46, Hf⟩ := c_g_some Hf
    refine va_castE hx hb hown (hts _ (lg_1 456 rfl rfl)) (st_recv hK hP hk_p46 (by decide) rfl) dX8_look_49 ?_
    refine lv_astore (lv' := [(5, .ref p46), (4, .ref p2), (0, .ref a0), (1, .int x1), (2, .int x2), (3, .int x3)]) hx hb dX8_look_52 hl (by decide) rfl (fun ls hl => ?_)
    refine lv_iload_n hx hb dX8_look_54 rfl (lv_at hl 5 rfl) ?_
    by_cases hs0 : x3 = 0
    · have Hf := c_i_t Hf hs0
      refine lv_tableIn hx hb dX8_look_55 (by rw [hs0]; decide) (by rw [hs0]; decide) (off := 37) (by rw [hs0]; rfl) (tgt := 92) (by decide) ?_
      refine lv_aload hx hb dX8_look_92 (lv_at hl 0 rfl) ?_
      refine fg_3_0 hx hb hts hown hK hP hk_p46 lkf_X8_154 dX8_look_94 ?_
      cases Hf
    have Hf := c_i_f Hf hs0
    by_cases hs1 : x3 = 1
    · have Hf := c_i_t Hf hs1
      refine lv_tableIn hx hb dX8_look_55 (by rw [hs1]; decide) (by rw [hs1]; decide) (off := 43) (by rw [hs1]; rfl) (tgt := 98) (by decide) ?_
      refine lv_aload hx hb dX8_look_98 (lv_at hl 0 rfl) ?_
      refine fg_3_1 hx hb hts hown hK hP hk_p46 lkf_X8_157 dX8_look_100 ?_
      cases Hf
    have Hf := c_i_f Hf hs1
    by_cases hs2 : x3 = 2
    · have Hf := c_i_t Hf hs2
      refine lv_tableIn hx hb dX8_look_55 (by rw [hs2]; decide) (by rw [hs2]; decide) (off := 49) (by rw [hs2]; rfl) (tgt := 104) (by decide) ?_
      refine lv_aload hx hb dX8_look_104 (lv_at hl 0 rfl) ?_
      refine fg_3_2 hx hb hts hown hK hP hk_p46 lkf_X8_160 dX8_look_106 ?_
      cases Hf
    have Hf := c_i_f Hf hs2
    by_cases hs3 : x3 = 3
    · have Hf := c_i_t Hf hs3
      refine lv_tableIn hx hb dX8_look_55 (by rw [hs3]; decide) (by rw [hs3]; decide) (off := 55) (by rw [hs3]; rfl) (tgt := 110) (by decide) ?_
      refine lv_aload hx hb dX8_look_110 (lv_at hl 0 rfl) ?_
      refine fg_3_3 hx hb hts hown hK hP hk_p46 lkf_X8_163 dX8_look_112 ?_
      cases Hf
    have Hf := c_i_f Hf hs3
    by_cases hs4 : x3 = 4
    · have Hf := c_i_t Hf hs4
      refine lv_tableIn hx hb dX8_look_55 (by rw [hs4]; decide) (by rw [hs4]; decide) (off := 61) (by rw [hs4]; rfl) (tgt := 116) (by decide) ?_
      refine lv_aload hx hb dX8_look_116 (lv_at hl 0 rfl) ?_
      refine fg_3_4 hx hb hts hown hK hP hk_p46 lkf_X8_166 dX8_look_118 ?_
      cases Hf
    have Hf := c_i_f Hf hs4
    by_cases hs5 : x3 = 5
    · have Hf := c_i_t Hf hs5
      refine lv_tableIn hx hb dX8_look_55 (by rw [hs5]; decide) (by rw [hs5]; decide) (off := 67) (by rw [hs5]; rfl) (tgt := 122) (by decide) ?_
      refine lv_aload hx hb dX8_look_122 (lv_at hl 0 rfl) ?_
      refine fg_3_5 hx hb hts hown hK hP hk_p46 lkf_X8_169 dX8_look_124 ?_
      cases Hf
    have Hf := c_i_f Hf hs5
    refine lv_tableOut hx hb dX8_look_55 (by have n0 := sw_ne 0 hs0 (n := 0) rfl; have n1 := sw_ne 1 hs1 (n := 1) rfl; have n2 := sw_ne 2 hs2 (n := 2) rfl; have n3 := sw_ne 3 hs3 (n := 3) rfl; have n4 := sw_ne 4 hs4 (n := 4) rfl; have n5 := sw_ne 5 hs5 (n := 5) rfl; omega) (tgt := 128) (by decide) ?_
    cases Hf
    exact r_thr (is := 172) (text := "a line has no such thing") hlt hx hb hts (hml.trans hl.1.symm) hown hlocks hex (by decide) (lg_1 875 rfl rfl) (lg_1 91 rfl rfl) dX8_look_128 dX8_look_131 dX8_look_132 dX8_look_134 dX8_look_137 (Nat.le_of_ble_eq_true rfl) (Nat.le_of_ble_eq_true rfl) (Nat.le_of_ble_eq_true rfl) (Nat.le_of_ble_eq_true rfl) (Nat.le_of_ble_eq_true rfl) (Nat.le_of_ble_eq_true rfl) hRO hP hS
  have Hf := c_i_t Hf hc
  cases Hf
  exact r_thr (is := 149) (text := "no such line") hlt hx hb hts (hml.trans hl.1.symm) hown hlocks hex (by decide) (lg_1 875 rfl rfl) (lg_1 91 rfl rfl) dX8_look_30 dX8_look_33 dX8_look_34 dX8_look_36 dX8_look_39 (Nat.le_of_ble_eq_true rfl) (Nat.le_of_ble_eq_true rfl) (Nat.le_of_ble_eq_true rfl) (Nat.le_of_ble_eq_true rfl) (Nat.le_of_ble_eq_true rfl) (Nat.le_of_ble_eq_true rfl) hRO hP hS

set_option maxRecDepth 100000 in
def h_X8_day (S : st_T) (a0 : Nat) (x1 : Int32) (x2 : Int32) : Option (Unit × st_T) :=
  (c_g (st_K S a0 = 10) (c_c (f_X8_findCoded S a0 x1) (fun (r2 : Option Nat) (T2 : st_T) => (c_o r2 (some ((), T2)) (fun (p2 : Nat) => (c_i (x2 = 0) (c_g (st_K T2 p2 = 3) (c_n (st_fr T2 204 p2) (fun (q69 : Nat) => (c_g (st_K T2 q69 = 1) (c_c (f_Jx4a65c_size_8abf5 T2 q69) (fun (r72 : Int32) (T72 : st_T) => none)))))) (c_i (x2 = 1) (c_g (st_K T2 p2 = 3) (c_c (f_X1_tensWithoutLine T2 p2) (fun (r77 : Int32) (T77 : st_T) => none))) (c_i (x2 = 2) (c_g (st_K T2 p2 = 3) (c_c (f_X1_tensMended T2 p2) (fun (r82 : Int32) (T82 : st_T) => none))) (c_i (x2 = 3) (c_g (st_K T2 p2 = 3) (c_c (f_X1_linesWithoutCode T2 p2) (fun (r87 : Int32) (T87 : st_T) => none))) (c_i (x2 = 4) (c_g (st_K T2 p2 = 3) none) (c_i (x2 = 5) (c_g (st_K T2 p2 = 3) none) (c_i (x2 = 6) (c_g (st_K T2 p2 = 3) none) (c_i (x2 = 7) (c_g (st_K T2 p2 = 3) none) (some ((), T2)))))))))))))))
set_option maxRecDepth 100000 in
set_option maxHeartbeats 4000000 in
theorem x_X8_day (l : Launch) (hlt : l.stackTraces = false) (X : st_I) {S SE : st_T} {a0 : Nat} {x1 : Int32} {x2 : Int32} {rr : Unit} (Hf : h_X8_day S a0 x1 x2 = some (rr, SE)) : vx_Met l yX8_day (Cond.code yX8_day cX8_day 4 (some .int) :: lw_g) { frames := 7, cells := 1, slots := 6, locals := 168 } (st_P X S [.ref a0, .int x1, .int x2]) st_NQ (st_XC X (st_A S) SE) 1 6 (st_A S) := by
  refine st_ofX (by decide) (Nat.le_of_ble_eq_true rfl) ?_
  intro p e s m args below meth c hex hx hb hr hml hlocks hnm hts hown hK hRO hA hP hS ls hl
  have hown : s.vm.findClass RX8 = some m.cls := hown
  have hl : lv_has ls 4 [(0, .ref a0), (1, .int x1), (2, .int x2)] := hl
  unfold h_X8_day at Hf
  refine lv_aload_n hx hb dX8_day_0 rfl (lv_at hl 0 rfl) ?_
  refine lv_iload_n hx hb dX8_day_1 rfl (lv_at hl 1 rfl) ?_
  obtain ⟨hk_a0, Hf⟩ := c_g_some Hf
  obtain ⟨r2, T2, hq2, Hf⟩ := c_c_some Hf
  refine r_cV (n := 1) (As := [.int x1]) (rest := []) ⟨hx, hb, hml, hown, hts⟩ (s_X8_findCoded l X hq2) lkm_X8_141 (by decide +kernel) rfl (by decide) dX8_day_2 rfl rfl ⟨Nat.le_of_ble_eq_true rfl, Nat.le_of_ble_eq_true rfl⟩ hk_a0 rfl hl.1 (Nat.le_of_ble_eq_true rfl) ⟨Nat.le_of_ble_eq_true rfl, Nat.le_of_ble_eq_true rfl⟩ hK hRO hA hP hS (fun H locs hP hS => ?_)
  rcases r2 with _ | p2
  · have Hf := c_o_n Hf
    refine W.eq (g2 := F0 m 5 ls [.null]) rfl ?_
    refine lv_astore_nN (lv' := [(3, .null), (0, .ref a0), (1, .int x1), (2, .int x2)]) hx hb dX8_day_5 rfl hl (by decide) rfl (fun ls hl => ?_)
    refine lv_aload_nN hx hb dX8_day_6 rfl (lv_at hl 0 rfl) ?_
    refine lv_ifnonnullN hx hb dX8_day_7 ?_
    cases Hf
    exact r_thr (is := 206) (text := "no such diary") hlt hx hb hts (hml.trans hl.1.symm) hown hlocks hex (by decide) (lg_1 875 rfl rfl) (lg_1 91 rfl rfl) dX8_day_10 dX8_day_13 dX8_day_14 dX8_day_16 dX8_day_19 (Nat.le_of_ble_eq_true rfl) (Nat.le_of_ble_eq_true rfl) (Nat.le_of_ble_eq_true rfl) (Nat.le_of_ble_eq_true rfl) (Nat.le_of_ble_eq_true rfl) (Nat.le_of_ble_eq_true rfl) hRO hP hS
  have Hf := c_o_s Hf
  refine W.eq (g2 := F0 m 5 ls [.ref p2]) rfl ?_
  refine lv_astore_n (lv' := [(3, .ref p2), (0, .ref a0), (1, .int x1), (2, .int x2)]) hx hb dX8_day_5 rfl hl (by decide) rfl (fun ls hl => ?_)
  refine lv_aload_n hx hb dX8_day_6 rfl (lv_at hl 0 rfl) ?_
  refine lv_ifnonnull hx hb dX8_day_7 (tgt := 20) (by decide) ?_
  refine lv_iload_n hx hb dX8_day_20 rfl (lv_at hl 3 rfl) ?_
  by_cases hs0 : x2 = 0
  · have Hf := c_i_t Hf hs0
    refine lv_tableIn hx hb dX8_day_21 (by rw [hs0]; decide) (by rw [hs0]; decide) (off := 47) (by rw [hs0]; rfl) (tgt := 68) (by decide) ?_
    refine lv_aload_n hx hb dX8_day_68 rfl (lv_at hl 0 rfl) ?_
    obtain ⟨hk_p2, Hf⟩ := c_g_some Hf
    obtain ⟨q69, hq69, Hf⟩ := c_n_some Hf
    refine fg_2_4 hx hb hts hown hK hP hk_p2 lkf_X8_108 hq69 dX8_day_69 ?_
    obtain ⟨hk_q69, Hf⟩ := c_g_some Hf
    obtain ⟨r72, T72, hq72, Hf⟩ := c_c_some Hf
    refine r_cV (n := 0) (As := []) (rest := []) ⟨hx, hb, hml, hown, hts⟩ (s_Jx4a65c_size_8abf5 l X hq72) lkm_X8_81 (by decide +kernel) rfl (by decide) dX8_day_72 rfl rfl ⟨Nat.le_of_ble_eq_true rfl, Nat.le_of_ble_eq_true rfl⟩ hk_q69 rfl hl.1 (Nat.le_of_ble_eq_true rfl) ⟨Nat.le_of_ble_eq_true rfl, Nat.le_of_ble_eq_true rfl⟩ hK hRO hA hP hS (fun H locs hP hS => ?_)
    refine W.eq (g2 := F0 m 75 ls [.int r72]) rfl ?_
    cases Hf
  have Hf := c_i_f Hf hs0
  by_cases hs1 : x2 = 1
  · have Hf := c_i_t Hf hs1
    refine lv_tableIn hx hb dX8_day_21 (by rw [hs1]; decide) (by rw [hs1]; decide) (off := 55) (by rw [hs1]; rfl) (tgt := 76) (by decide) ?_
    refine lv_aload_n hx hb dX8_day_76 rfl (lv_at hl 0 rfl) ?_
    obtain ⟨hk_p2, Hf⟩ := c_g_some Hf
    obtain ⟨r77, T77, hq77, Hf⟩ := c_c_some Hf
    refine r_cV (n := 0) (As := []) (rest := []) ⟨hx, hb, hml, hown, hts⟩ (s_X1_tensWithoutLine l X hq77) lkm_X8_208 (by decide +kernel) rfl (by decide) dX8_day_77 rfl rfl ⟨Nat.le_of_ble_eq_true rfl, Nat.le_of_ble_eq_true rfl⟩ hk_p2 rfl hl.1 (Nat.le_of_ble_eq_true rfl) ⟨Nat.le_of_ble_eq_true rfl, Nat.le_of_ble_eq_true rfl⟩ hK hRO hA hP hS (fun H locs hP hS => ?_)
    refine W.eq (g2 := F0 m 80 ls [.int r77]) rfl ?_
    cases Hf
  have Hf := c_i_f Hf hs1
  by_cases hs2 : x2 = 2
  · have Hf := c_i_t Hf hs2
    refine lv_tableIn hx hb dX8_day_21 (by rw [hs2]; decide) (by rw [hs2]; decide) (off := 60) (by rw [hs2]; rfl) (tgt := 81) (by decide) ?_
    refine lv_aload_n hx hb dX8_day_81 rfl (lv_at hl 0 rfl) ?_
    obtain ⟨hk_p2, Hf⟩ := c_g_some Hf
    obtain ⟨r82, T82, hq82, Hf⟩ := c_c_some Hf
    refine r_cV (n := 0) (As := []) (rest := []) ⟨hx, hb, hml, hown, hts⟩ (s_X1_tensMended l X hq82) lkm_X8_211 (by decide +kernel) rfl (by decide) dX8_day_82 rfl rfl ⟨Nat.le_of_ble_eq_true rfl, Nat.le_of_ble_eq_true rfl⟩ hk_p2 rfl hl.1 (Nat.le_of_ble_eq_true rfl) ⟨Nat.le_of_ble_eq_true rfl, Nat.le_of_ble_eq_true rfl⟩ hK hRO hA hP hS (fun H locs hP hS => ?_)
    refine W.eq (g2 := F0 m 85 ls [.int r82]) rfl ?_
    cases Hf
  have Hf := c_i_f Hf hs2
  by_cases hs3 : x2 = 3
  · have Hf := c_i_t Hf hs3
    refine lv_tableIn hx hb dX8_day_21 (by rw [hs3]; decide) (by rw [hs3]; decide) (off := 65) (by rw [hs3]; rfl) (tgt := 86) (by decide) ?_
    refine lv_aload_n hx hb dX8_day_86 rfl (lv_at hl 0 rfl) ?_
    obtain ⟨hk_p2, Hf⟩ := c_g_some Hf
    obtain ⟨r87, T87, hq87, Hf⟩ := c_c_some Hf
    refine r_cV (n := 0) (As := []) (rest := []) ⟨hx, hb, hml, hown, hts⟩ (s_X1_linesWithoutCode l X hq87) lkm_X8_214 (by decide +kernel) rfl (by decide) dX8_day_87 rfl rfl ⟨Nat.le_of_ble_eq_true rfl, Nat.le_of_ble_eq_true rfl⟩ hk_p2 rfl hl.1 (Nat.le_of_ble_eq_true rfl) ⟨Nat.le_of_ble_eq_true rfl, Nat.le_of_ble_eq_true rfl⟩ hK hRO hA hP hS (fun H locs hP hS => ?_)
    refine W.eq (g2 := F0 m 90 ls [.int r87]) rfl ?_
    cases Hf
  have Hf := c_i_f Hf hs3
  by_cases hs4 : x2 = 4
  · have Hf := c_i_t Hf hs4
    refine lv_tableIn hx hb dX8_day_21 (by rw [hs4]; decide) (by rw [hs4]; decide) (off := 70) (by rw [hs4]; rfl) (tgt := 91) (by decide) ?_
    refine lv_aload_n hx hb dX8_day_91 rfl (lv_at hl 0 rfl) ?_
    obtain ⟨hk_p2, Hf⟩ := c_g_some Hf
    refine fg_2_0 hx hb hts hown hK hP hk_p2 lkf_X8_217 dX8_day_92 ?_
    cases Hf
  have Hf := c_i_f Hf hs4
  by_cases hs5 : x2 = 5
  · have Hf := c_i_t Hf hs5
    refine lv_tableIn hx hb dX8_day_21 (by rw [hs5]; decide) (by rw [hs5]; decide) (off := 75) (by rw [hs5]; rfl) (tgt := 96) (by decide) ?_
    refine lv_aload_n hx hb dX8_day_96 rfl (lv_at hl 0 rfl) ?_
    obtain ⟨hk_p2, Hf⟩ := c_g_some Hf
    refine fg_2_1 hx hb hts hown hK hP hk_p2 lkf_X8_94 dX8_day_97 ?_
    cases Hf
  have Hf := c_i_f Hf hs5
  by_cases hs6 : x2 = 6
  · have Hf := c_i_t Hf hs6
    refine lv_tableIn hx hb dX8_day_21 (by rw [hs6]; decide) (by rw [hs6]; decide) (off := 80) (by rw [hs6]; rfl) (tgt := 101) (by decide) ?_
    refine lv_aload_n hx hb dX8_day_101 rfl (lv_at hl 0 rfl) ?_
    obtain ⟨hk_p2, Hf⟩ := c_g_some Hf
    refine fg_2_2 hx hb hts hown hK hP hk_p2 lkf_X8_220 dX8_day_102 ?_
    cases Hf
  have Hf := c_i_f Hf hs6
  by_cases hs7 : x2 = 7
  · have Hf := c_i_t Hf hs7
    refine lv_tableIn hx hb dX8_day_21 (by rw [hs7]; decide) (by rw [hs7]; decide) (off := 85) (by rw [hs7]; rfl) (tgt := 106) (by decide) ?_
    refine lv_aload_n hx hb dX8_day_106 rfl (lv_at hl 0 rfl) ?_
    obtain ⟨hk_p2, Hf⟩ := c_g_some Hf
    refine fg_2_3 hx hb hts hown hK hP hk_p2 lkf_X8_223 dX8_day_107 ?_
    cases Hf
  have Hf := c_i_f Hf hs7
  refine lv_tableOut hx hb dX8_day_21 (by have n0 := sw_ne 0 hs0 (n := 0) rfl; have n1 := sw_ne 1 hs1 (n := 1) rfl; have n2 := sw_ne 2 hs2 (n := 2) rfl; have n3 := sw_ne 3 hs3 (n := 3) rfl; have n4 := sw_ne 4 hs4 (n := 4) rfl; have n5 := sw_ne 5 hs5 (n := 5) rfl; have n6 := sw_ne 6 hs6 (n := 6) rfl; have n7 := sw_ne 7 hs7 (n := 7) rfl; omega) (tgt := 111) (by decide) ?_
  cases Hf
  exact r_thr (is := 226) (text := "a diary has no such thing") hlt hx hb hts (hml.trans hl.1.symm) hown hlocks hex (by decide) (lg_1 875 rfl rfl) (lg_1 91 rfl rfl) dX8_day_111 dX8_day_114 dX8_day_115 dX8_day_117 dX8_day_120 (Nat.le_of_ble_eq_true rfl) (Nat.le_of_ble_eq_true rfl) (Nat.le_of_ble_eq_true rfl) (Nat.le_of_ble_eq_true rfl) (Nat.le_of_ble_eq_true rfl) (Nat.le_of_ble_eq_true rfl) hRO hP hS

set_option maxRecDepth 100000 in
def f_L_look (S : st_T) (x0 : Nat) (x1 : Int32) (x2 : Int32) (x3 : Int32) (x4 : Nat) : Option (Int32 × st_T) :=
  (c_g (st_K S x0 = 10) (c_c (f_X8_look S x0 x1 x2 x3) (fun (r7 : Int32) (T7 : st_T) => (c_g (st_K T7 x4 = 21) (c_g (c_in 0 (st_ln T7 x4)) (c_l (st_wl T7 x4 (0 : Int32).toNatClampNeg ((r7 : Int32).toInt64)) (fun (S_11 : st_T) => (some (0, S_11)))))))))
set_option maxRecDepth 100000 in
set_option maxHeartbeats 4000000 in
theorem s_L_look (l : Launch) (X : st_I) {S SE : st_T} {x0 : Nat} {x1 : Int32} {x2 : Int32} {x3 : Int32} {x4 : Nat} {rr : Int32} (Hf : f_L_look S x0 x1 x2 x3 x4 = some (rr, SE)) : Met l yL_look (Cond.codeWith yL_look cL_look 6 (some .int) [(0, 12, 15, 13)] :: lw_g) { frames := 5, cells := 0, slots := 0, locals := 110 } (st_P X S [.ref x0, .int x1, .int x2, .int x3, .ref x4]) (st_Q X (st_A S) (some (.int rr)) SE) 0 0 (st_A S) := by
  refine st_ofT (by decide) (Nat.le_of_ble_eq_true rfl) ?_
  intro p e s m args below meth c hex hx hb hr hml hlocks hnm hts hown hK hRO hA hP hS ls hl
  have hown : s.vm.findClass RL = some m.cls := hown
  have hl : lv_has ls 6 [(0, .ref x0), (1, .int x1), (2, .int x2), (3, .int x3), (4, .ref x4)] := hl
  unfold f_L_look at Hf
  refine lv_aload hx hb dL_look_0 (lv_at hl 4 rfl) ?_
  refine lv_iconst (v := 0) hx hb dL_look_2 (by decide) ?_
  refine lv_aload_n hx hb dL_look_3 rfl (lv_at hl 0 rfl) ?_
  refine lv_iload_n hx hb dL_look_4 rfl (lv_at hl 1 rfl) ?_
  refine lv_iload_n hx hb dL_look_5 rfl (lv_at hl 2 rfl) ?_
  refine lv_iload_n hx hb dL_look_6 rfl (lv_at hl 3 rfl) ?_
  obtain ⟨hk_x0, Hf⟩ := c_g_some Hf
  obtain ⟨r7, T7, hq7, Hf⟩ := c_c_some Hf
  refine r_cV (n := 3) (As := [.int x1, .int x2, .int x3]) (rest := [.int 0, .ref x4]) ⟨hx, hb, hml, hown, hts⟩ (s_X8_look l X hq7) lkm_L_7 (by decide +kernel) rfl (by decide) dL_look_7 rfl rfl ⟨Nat.le_of_ble_eq_true rfl, Nat.le_of_ble_eq_true rfl⟩ hk_x0 rfl hl.1 (Nat.le_of_ble_eq_true rfl) ⟨Nat.le_of_ble_eq_true rfl, Nat.le_of_ble_eq_true rfl⟩ hK hRO hA hP hS (fun H locs hP hS => ?_)
  refine W.eq (g2 := F0 m 10 ls [.int r7, .int 0, .ref x4]) rfl ?_
  refine lv_i2l (v := (r7 : Int32).toInt64) hx hb dL_look_10 rfl ?_
  obtain ⟨hk_x4, Hf⟩ := c_g_some Hf
  obtain ⟨hi11, Hf⟩ := c_g_some Hf
  refine r_last hx hb hK hP hS hk_x4 hi11 dL_look_11 (fun H locs hP hS => ?_)
  obtain ⟨S_11, eS_11, Hf⟩ := c_l_ex Hf
  have hP : st_HP X (st_A S) S_11 H := by rw [eS_11]; exact hP
  refine lv_goto hx hb dL_look_12 (tgt := 19) (by decide) ?_
  refine lv_iconst (v := 0) hx hb dL_look_19 (by decide) ?_
  cases Hf
  exact r_iret hx hb hr rfl hlocks dL_look_20 (Nat.le_of_ble_eq_true rfl) (Nat.le_of_ble_eq_true rfl) hP hS

set_option maxRecDepth 100000 in
def f_L_day (S : st_T) (x0 : Nat) (x1 : Int32) (x2 : Int32) (x3 : Nat) : Option (Int32 × st_T) :=
  (c_g (st_K S x0 = 10) (c_c (f_X8_day S x0 x1 x2) (fun (r5 : Int32) (T5 : st_T) => (c_g (st_K T5 x3 = 21) (c_g (c_in 0 (st_ln T5 x3)) (c_l (st_wl T5 x3 (0 : Int32).toNatClampNeg ((r5 : Int32).toInt64)) (fun (S_9 : st_T) => (some (0, S_9)))))))))
set_option maxRecDepth 100000 in
set_option maxHeartbeats 4000000 in
theorem s_L_day (l : Launch) (X : st_I) {S SE : st_T} {x0 : Nat} {x1 : Int32} {x2 : Int32} {x3 : Nat} {rr : Int32} (Hf : f_L_day S x0 x1 x2 x3 = some (rr, SE)) : Met l yL_day (Cond.codeWith yL_day cL_day 5 (some .int) [(0, 10, 13, 13)] :: lw_g) { frames := 8, cells := 0, slots := 0, locals := 191 } (st_P X S [.ref x0, .int x1, .int x2, .ref x3]) (st_Q X (st_A S) (some (.int rr)) SE) 0 0 (st_A S) := by
  refine st_ofT (by decide) (Nat.le_of_ble_eq_true rfl) ?_
  intro p e s m args below meth c hex hx hb hr hml hlocks hnm hts hown hK hRO hA hP hS ls hl
  have hown : s.vm.findClass RL = some m.cls := hown
  have hl : lv_has ls 5 [(0, .ref x0), (1, .int x1), (2, .int x2), (3, .ref x3)] := hl
  unfold f_L_day at Hf
  refine lv_aload_n hx hb dL_day_0 rfl (lv_at hl 3 rfl) ?_
  refine lv_iconst (v := 0) hx hb dL_day_1 (by decide) ?_
  refine lv_aload_n hx hb dL_day_2 rfl (lv_at hl 0 rfl) ?_
  refine lv_iload_n hx hb dL_day_3 rfl (lv_at hl 1 rfl) ?_
  refine lv_iload_n hx hb dL_day_4 rfl (lv_at hl 2 rfl) ?_
  obtain ⟨hk_x0, Hf⟩ := c_g_some Hf
  obtain ⟨r5, T5, hq5, Hf⟩ := c_c_some Hf
  refine r_cV (n := 2) (As := [.int x1, .int x2]) (rest := [.int 0, .ref x3]) ⟨hx, hb, hml, hown, hts⟩ (s_X8_day l X hq5) lkm_L_15 (by decide +kernel) rfl (by decide) dL_day_5 rfl rfl ⟨Nat.le_of_ble_eq_true rfl, Nat.le_of_ble_eq_true rfl⟩ hk_x0 rfl hl.1 (Nat.le_of_ble_eq_true rfl) ⟨Nat.le_of_ble_eq_true rfl, Nat.le_of_ble_eq_true rfl⟩ hK hRO hA hP hS (fun H locs hP hS => ?_)
  refine W.eq (g2 := F0 m 8 ls [.int r5, .int 0, .ref x3]) rfl ?_
  refine lv_i2l (v := (r5 : Int32).toInt64) hx hb dL_day_8 rfl ?_
  obtain ⟨hk_x3, Hf⟩ := c_g_some Hf
  obtain ⟨hi9, Hf⟩ := c_g_some Hf
  refine r_last hx hb hK hP hS hk_x3 hi9 dL_day_9 (fun H locs hP hS => ?_)
  obtain ⟨S_9, eS_9, Hf⟩ := c_l_ex Hf
  have hP : st_HP X (st_A S) S_9 H := by rw [eS_9]; exact hP
  refine lv_goto hx hb dL_day_10 (tgt := 17) (by decide) ?_
  refine lv_iconst (v := 0) hx hb dL_day_17 (by decide) ?_
  cases Hf
  exact r_iret hx hb hr rfl hlocks dL_day_18 (Nat.le_of_ble_eq_true rfl) (Nat.le_of_ble_eq_true rfl) hP hS
