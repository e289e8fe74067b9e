set_option maxRecDepth 100000 in
theorem xs_L_look (l : Launch) (hlt : l.stackTraces = false) (X : st_I) {S SE : st_T} {x0 x4 : Nat} {x1 x2 x3 : Int32} (hk : st_K S x0 = 10) (Hx : h_X8_look S x0 x1 x2 x3 = some ((), SE)) : Met l yL_look (Cond.codeWith yL_look cL_look 6 (some .int) [(0, 12, 15, 13)] :: lw_g) { frames := 7, cells := 1, slots := 6, locals := 160 } (st_P X S [.ref x0, .int x1, .int x2, .int x3, .ref x4]) (st_Q1 X (st_A S) SE) 1 6 (st_A S) := by
  refine st_ofT (by decide) (Nat.le_of_ble_eq_true rfl) ?_
  intro p e s m args below meth c hex hx hb hr hml hlocks hnm hts hown hK hRO hA hP hS ls hl
  have hown : s.vm.findClass RL = some m.cls := hown
  have hl : lv_has ls 6 [(0, .ref x0), (1, .int x1), (2, .int x2), (3, .int x3), (4, .ref x4)] := hl
  have htab : c.exceptionTable.toList = [{ startPc := 0, endPc := 12, handlerPc := 15, catchType := 13 }] := hex
  refine lv_aload hx hb dL_look_0 (lv_at hl 4 rfl) ?_
  refine lv_iconst (v := 0) hx hb dL_look_2 (by decide) ?_
  refine lv_aload_n hx hb dL_look_3 rfl (lv_at hl 0 rfl) ?_
  refine lv_iload_n hx hb dL_look_4 rfl (lv_at hl 1 rfl) ?_
  refine lv_iload_n hx hb dL_look_5 rfl (lv_at hl 2 rfl) ?_
  refine lv_iload_n hx hb dL_look_6 rfl (lv_at hl 3 rfl) ?_
  refine r_xback (vx_runV (As := [.int x1, .int x2, .int x3]) (rest := [.int 0, .ref x4]) ⟨hx, hb, hml, hown, hts⟩ (x_X8_look l hlt X Hx) (cwV 3 hts lkm_L_7 rfl rfl rfl (by decide +kernel) ⟨Nat.le_of_ble_eq_true rfl, Nat.le_of_ble_eq_true rfl⟩) (st_preV hK hRO hA hP hS hk (by decide) rfl) rfl rfl hl.1 rfl (lv_room (Nat.le_of_ble_eq_true rfl)) dL_look_7 ⟨Nat.le_of_ble_eq_true rfl, Nat.le_of_ble_eq_true rfl⟩) hA hP hS (fun q H locs ce hP hnx hS hce hcv hcl => ?_)
  refine r_catch hown htab (by decide) (by decide) (hts _ (lg_1 870 rfl rfl)) (st_use rfl (hRO.1 _ (List.mem_of_getElem? (i := 877) rfl) rfl)) hce hcv hcl ?_
  refine lv_astore (lv' := [(5, .ref q)]) hx hb dL_look_15 (lv_sub hl [] rfl) (by decide) rfl (fun ls hl => ?_)
  refine lv_iconst (v := 1) hx hb dL_look_17 (by decide) ?_
  exact W.widen (Nat.le_of_ble_eq_true rfl) (Nat.le_of_ble_eq_true rfl) (W.iret hx hb hr (fun t ht _ => ⟨rfl, by rw [ht]; exact hP, by rw [ht]; exact hnx, hS.F ht⟩) hS.2.2 dL_look_18)
set_option maxRecDepth 100000 in
theorem xs_L_day (l : Launch) (hlt : l.stackTraces = false) (X : st_I) {S SE : st_T} {x0 x3 : Nat} {x1 x2 : Int32} (hk : st_K S x0 = 10) (Hx : h_X8_day S x0 x1 x2 = some ((), SE)) : Met l yL_day (Cond.codeWith yL_day cL_day 5 (some .int) [(0, 10, 13, 13)] :: lw_g) { frames := 8, cells := 1, slots := 6, locals := 208 } (st_P X S [.ref x0, .int x1, .int x2, .ref x3]) (st_Q1 X (st_A S) SE) 1 6 (st_A S) := by
  refine st_ofT (by decide) (Nat.le_of_ble_eq_true rfl) ?_
  intro p e s m args below meth c hex hx hb hr hml hlocks hnm hts hown hK hRO hA hP hS ls hl
  have hown : s.vm.findClass RL = some m.cls := hown
  have hl : lv_has ls 5 [(0, .ref x0), (1, .int x1), (2, .int x2), (3, .ref x3)] := hl
  have htab : c.exceptionTable.toList = [{ startPc := 0, endPc := 10, handlerPc := 13, catchType := 13 }] := hex
  refine lv_aload_n hx hb dL_day_0 rfl (lv_at hl 3 rfl) ?_
  refine lv_iconst (v := 0) hx hb dL_day_1 (by decide) ?_
  refine lv_aload_n hx hb dL_day_2 rfl (lv_at hl 0 rfl) ?_
  refine lv_iload_n hx hb dL_day_3 rfl (lv_at hl 1 rfl) ?_
  refine lv_iload_n hx hb dL_day_4 rfl (lv_at hl 2 rfl) ?_
  refine r_xback (vx_runV (As := [.int x1, .int x2]) (rest := [.int 0, .ref x3]) ⟨hx, hb, hml, hown, hts⟩ (x_X8_day l hlt X Hx) (cwV 2 hts lkm_L_15 rfl rfl rfl (by decide +kernel) ⟨Nat.le_of_ble_eq_true rfl, Nat.le_of_ble_eq_true rfl⟩) (st_preV hK hRO hA hP hS hk (by decide) rfl) rfl rfl hl.1 rfl (lv_room (Nat.le_of_ble_eq_true rfl)) dL_day_5 ⟨Nat.le_of_ble_eq_true rfl, Nat.le_of_ble_eq_true rfl⟩) hA hP hS (fun q H locs ce hP hnx hS hce hcv hcl => ?_)
  refine r_catch hown htab (by decide) (by decide) (hts _ (lg_1 870 rfl rfl)) (st_use rfl (hRO.1 _ (List.mem_of_getElem? (i := 877) rfl) rfl)) hce hcv hcl ?_
  refine lv_astore (lv' := [(4, .ref q)]) hx hb dL_day_13 (lv_sub hl [] rfl) (by decide) rfl (fun ls hl => ?_)
  refine lv_iconst (v := 1) hx hb dL_day_15 (by decide) ?_
  exact W.widen (Nat.le_of_ble_eq_true rfl) (Nat.le_of_ble_eq_true rfl) (W.iret hx hb hr (fun t ht _ => ⟨rfl, by rw [ht]; exact hP, by rw [ht]; exact hnx, hS.F ht⟩) hS.2.2 dL_day_16)
