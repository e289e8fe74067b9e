theorem tx_chk : ∀ i, i < 15 → ∀ j, j < (st_tx i).length → ((((st_byt.getD i []).getD j 0) &&& 255).toUInt32 % 65536).toInt32 = nI ((st_tx i).getD j 0) := by decide +kernel
theorem tx_len : ∀ i, i < 15 → st_len.getD i 0 = (st_tx i).length := by decide +kernel
theorem tx_lt : ∀ i, i < 15 → (st_tx i).length < 100 := by decide +kernel
def f_J0_length_8abf5 (S : st_T) (a0 : Nat) : Option (Int32 × st_T) := c_g (st_K S a0 = 31) (some (nI (st_ln S a0), S))
def f_J0_charAt_5068e (S : st_T) (a0 : Nat) (x1 : Int32) : Option (Int32 × st_T) := c_g (st_K S a0 = 31) (c_g (c_in x1 (st_ln S a0)) (some (st_ri S a0 x1.toNatClampNeg, S)))
section STR
variable {p : Program} {l : Launch} {e : Env} {R : Room} {s : State} {m : MethodId} {args : Array Value} {below : List Frame} {meth : Method} {c : Code} {H : Heap} {locs : List Loc} {cells slots : Nat} {Q : State → Prop}
variable {cc : ByteArray} {pc : Nat} {ls : Array Slot} {rest : List Value} {X : st_I} {S S' : st_T} {A : Nat → Prop} {a : Nat}
theorem r_tret {mc ms : Nat} {v : Int32} {ret : Option FieldType} {ty : FieldType} (hx : p.tables.exec = Jvm.exec) (hb : c.code = cc) (hr : meth.sig.returnType = ret) (hret : ret = some ty) (hn : narrow ty (.int v) = .int v) (hlocks : meth.locks = false) (hdg : decode cc pc = .ok (.ireturn, 1)) (h1 : cells ≤ mc) (h2 : slots ≤ ms) (hP : st_HP X A S H) (hS : va_S A s.heap H locs) :
    W p l e R s m args below meth c H locs cells slots (MQ below (st_Q X A (some (.int v)) S) args s mc ms A) (F0 m pc ls [.int v]) :=
  W.widen h1 h2 (W.zret hx hb (hr.trans hret) hn (fun t ht _ => ⟨rfl, by rw [ht]; exact hP, hS.F ht⟩) hS.2.2 hdg)
/-- a call on a text -/
theorem r_cVS {nL n mc ms maxL index b : Nat} {own : String} {y : MethodName} {bytes : ByteArray} {ret : Option FieldType} {rm : Room} {As : List Value} {v : Option Value} (S5 : CallFix p m c cc nL s args lw_g own) (hM : Met l y (Cond.code y bytes maxL ret :: lw_g) rm (st_P X S (.ref b :: As)) (st_Q X (st_A S) v S') mc ms (st_A S))
    (hg : GoodIn lw_g (wsV own index "java/lang/String" y (Cond.code y bytes maxL ret :: lw_g))) (hd : y.cls = "java/lang/String" ∧ y.cls ≠ "java/lang/invoke/MethodHandle" ∧ y.cls ≠ "java/lang/invoke/VarHandle" ∧ (parseMethodDescriptor y.desc).map (fun d => d.parameters.length) = some n) (hdg : decode cc pc = .ok (.invokevirtual index, 3))
    (hrc : rm.cells = mc) (hrs : rm.slots = ms) (hR : rm.frames + 1 ≤ R.frames ∧ 8 + (maxL + 11) + rm.locals ≤ R.locals) (hkb : st_K S b = 31) (hn : As.length = n) (hsize : ls.size = nL) (hW : (rest.map fun v => v.category).sum ≤ 8) (hf : cells + mc ≤ R.cells ∧ slots + ms ≤ R.slots) (hK : st_KK X s) (hRO : st_RO X A s) (hA : ∀ q, s.heap.size ≤ q → A q) (hP : st_HP X A S H) (hS : va_S A s.heap H locs)
    (kk : ∀ (H1 : Heap) (locs1 : List Loc), st_HP X A S' H1 → va_S A s.heap H1 locs1 → W p l e R s m args below meth c H1 locs1 (cells + mc) (slots + ms) Q (F0 m (pc + 3) ls (v.toList ++ rest))) : W p l e R s m args below meth c H locs cells slots Q (F0 m pc ls (As.reverse ++ .ref b :: rest)) := by
  obtain ⟨i, hi, hb1, -⟩ := hP.2.2.2.2 b hkb
  have hrec := vk_recv hRO.2.2.2.2.2.1 hi hS
  rw [← hP.2.2.1, ← hb1] at hrec
  have hp := st_pre (As := .ref b :: As) hK hRO hA hP hS
  exact r_back (va_runV (As := As) (rest := rest) S5 hM (cwV n S5.2.2.2.2 hg rfl hrc hrs hd hR) ⟨hp.1, hrec, hp.2⟩ rfl hn hsize rfl (lv_room hW) hdg hf) hA hP hS kk
end STR
set_option maxRecDepth 100000 in
theorem s_coder (l : Launch) (X : st_I) {S : st_T} {a0 : Nat} (hk : st_K S a0 = 31) : Met l yJ0_coder_7d493 (Cond.code yJ0_coder_7d493 cJ0_coder_7d493 1 (some .byte) :: lw_g) { frames := 0, cells := 0, slots := 0, locals := 0 } (st_P X S [.ref a0]) (st_Q X (st_A S) (some (.int 0)) S) 0 0 (st_A S) := by
  refine st_ofW (by decide) (Nat.le_of_ble_eq_true rfl) ?_
  intro p e s m args below meth c hx hb hr hml hlocks hnm hts hown hK hRO hA hP hS ls hl
  have hown : s.vm.findClass RJ0 = some m.cls := hown
  have hl : lv_has ls 1 [(0, .ref a0)] := hl
  obtain ⟨i, hi, ha, -⟩ := hP.2.2.2.2 a0 hk
  rw [hP.2.2.1] at ha
  subst ha
  refine va_gets hx hb hRO.2.2.2.2.2.2.2.1 hS hown (hts _ lkf_J0_38) (fun _ h => h) dJ0_coder_7d493_0 ?_
  refine lv_if_eq hx hb dJ0_coder_7d493_3 (tgt := 13) (by decide) (fun hc => absurd hc (by decide)) (fun hc => ?_)
  refine lv_aload_n hx hb dJ0_coder_7d493_6 rfl (lv_at hl 0 rfl) ?_
  refine vk_getf hx hb (hRO.2.2.2.2.2.1.1 i hi).2.1 hS hown (hts _ lkf_J0_15) (fun _ h => h) dJ0_coder_7d493_7 ?_
  refine lv_goto hx hb dJ0_coder_7d493_10 (tgt := 14) (by decide) ?_
  exact r_tret hx hb hr rfl rfl hlocks dJ0_coder_7d493_14 (Nat.le_of_ble_eq_true rfl) (Nat.le_of_ble_eq_true rfl) hP hS
set_option maxRecDepth 100000 in
theorem s_isLatin1 (l : Launch) (X : st_I) {S : st_T} {a0 : Nat} (hk : st_K S a0 = 31) : Met l yJ0_isLatin1_aae02 (Cond.code yJ0_isLatin1_aae02 cJ0_isLatin1_aae02 1 (some .boolean) :: lw_g) { frames := 0, cells := 0, slots := 0, locals := 0 } (st_P X S [.ref a0]) (st_Q X (st_A S) (some (.int 1)) S) 0 0 (st_A S) := by
  refine st_ofW (by decide) (Nat.le_of_ble_eq_true rfl) ?_
  intro p e s m args below meth c hx hb hr hml hlocks hnm hts hown hK hRO hA hP hS ls hl
  have hown : s.vm.findClass RJ0 = some m.cls := hown
  have hl : lv_has ls 1 [(0, .ref a0)] := hl
  obtain ⟨i, hi, ha, -⟩ := hP.2.2.2.2 a0 hk
  rw [hP.2.2.1] at ha
  subst ha
  refine va_gets hx hb hRO.2.2.2.2.2.2.2.1 hS hown (hts _ lkf_J0_38) (fun _ h => h) dJ0_isLatin1_aae02_0 ?_
  refine lv_if_eq hx hb dJ0_isLatin1_aae02_3 (tgt := 17) (by decide) (fun hc => absurd hc (by decide)) (fun hc => ?_)
  refine lv_aload_n hx hb dJ0_isLatin1_aae02_6 rfl (lv_at hl 0 rfl) ?_
  refine vk_getf hx hb (hRO.2.2.2.2.2.1.1 i hi).2.1 hS hown (hts _ lkf_J0_15) (fun _ h => h) dJ0_isLatin1_aae02_7 ?_
  refine lv_if_ne hx hb dJ0_isLatin1_aae02_10 (tgt := 17) (by decide) (fun hc => absurd rfl hc) (fun hc => ?_)
  refine lv_iconst (v := 1) hx hb dJ0_isLatin1_aae02_13 (by decide) ?_
  refine lv_goto hx hb dJ0_isLatin1_aae02_14 (tgt := 18) (by decide) ?_
  exact r_tret hx hb hr rfl rfl hlocks dJ0_isLatin1_aae02_18 (Nat.le_of_ble_eq_true rfl) (Nat.le_of_ble_eq_true rfl) hP hS
set_option maxRecDepth 100000 in
theorem s_J0_length_8abf5 (l : Launch) (X : st_I) {S SE : st_T} {a0 : Nat} {rr : Int32} (Hf : f_J0_length_8abf5 S a0 = some (rr, SE)) : Met l yJ0_length_8abf5 (Cond.code yJ0_length_8abf5 cJ0_length_8abf5 1 (some .int) :: lw_g) { frames := 1, cells := 0, slots := 0, locals := 24 } (st_P X S [.ref a0]) (st_Q X (st_A S) (some (.int rr)) SE) 0 0 (st_A S) := by
  refine st_ofW (by decide) (Nat.le_of_ble_eq_true rfl) ?_
  intro p e s m args below meth c hx hb hr hml hlocks hnm hts hown hK hRO hA hP hS ls hl
  have hown : s.vm.findClass RJ0 = some m.cls := hown
  have hl : lv_has ls 1 [(0, .ref a0)] := hl
  unfold f_J0_length_8abf5 at Hf
  obtain ⟨hk, Hf⟩ := c_g_some Hf
  cases Hf
  obtain ⟨i, hi, ha, hln, -⟩ := hP.2.2.2.2 a0 hk
  rw [hP.2.2.1] at ha
  rw [hln]
  have hk0 := hk
  subst ha
  refine lv_aload_n hx hb dJ0_length_8abf5_0 rfl (lv_at hl 0 rfl) ?_
  refine vk_getf hx hb (hRO.2.2.2.2.2.1.1 i hi).2.2.1 hS hown (hts _ lkf_J0_9) (fun _ h => h) dJ0_length_8abf5_1 ?_
  refine va_tlen hx hb (hRO.2.2.2.2.2.1.1 i hi).2.2.2 hS rfl dJ0_length_8abf5_4 ?_
  refine lv_aload_n hx hb dJ0_length_8abf5_5 rfl (lv_at hl 0 rfl) ?_
  refine r_cVS (n := 0) (As := []) (rest := [.int (Int32.ofNat (st_len.getD i 0))]) ⟨hx, hb, hml, hown, hts⟩ (s_coder l X hk0) lkm_J0_335 (by decide +kernel) dJ0_length_8abf5_6 rfl rfl ⟨Nat.le_of_ble_eq_true rfl, Nat.le_of_ble_eq_true rfl⟩ hk0 rfl hl.1 (Nat.le_of_ble_eq_true rfl) ⟨Nat.le_of_ble_eq_true rfl, Nat.le_of_ble_eq_true rfl⟩ hK hRO hA hP hS (fun H locs hP hS => ?_)
  refine W.eq (g2 := F0 m 9 ls [.int 0, .int (nI (st_len.getD i 0))]) rfl ?_
  refine lv_ishr hx hb dJ0_length_8abf5_9 ?_
  have h9 : st_len.getD i 0 = (st_tx i).length := tx_len i hi
  rw [h9, sc_shr0 (Nat.lt_trans (tx_lt i hi) (by decide))]
  exact r_iret hx hb hr rfl hlocks dJ0_length_8abf5_10 (Nat.le_of_ble_eq_true rfl) (Nat.le_of_ble_eq_true rfl) hP hS
set_option maxRecDepth 100000 in
/-- the check of an index, with any formatter -/
theorem s_chk (l : Launch) (X : st_I) {S : st_T} {x0 x1 : Int32} {v : Value} (hv : v = .null ∨ ∃ q, v = .ref q) (h0 : ¬ x0 < 0) (h1 : x0 < x1) : Met l yJ3_checkIndex_8e157 (Cond.code yJ3_checkIndex_8e157 cJ3_checkIndex_8e157 3 (some .int) :: lw_g) { frames := 0, cells := 0, slots := 0, locals := 0 } (st_P X S [.int x0, .int x1, v]) (st_Q X (st_A S) (some (.int x0)) S) 0 0 (st_A S) := by
  rcases hv with rfl | ⟨q, rfl⟩
  · refine st_ofW (by decide) (Nat.le_of_ble_eq_true rfl) ?_
    intro p e s m args below meth c hx hb hr hml hlocks hnm hts hown hK hRO hA hP hS ls hl
    have hl : lv_has ls 3 [(0, .int x0), (1, .int x1), (2, .null)] := hl
    refine lv_iload_n hx hb dJ3_checkIndex_8e157_0 rfl (lv_at hl 0 rfl) ?_
    refine lv_if_lt hx hb dJ3_checkIndex_8e157_1 (tgt := 9) (by decide) (fun hc => absurd hc h0) (fun hc => ?_)
    refine lv_iload_n hx hb dJ3_checkIndex_8e157_4 rfl (lv_at hl 0 rfl) ?_
    refine lv_iload_n hx hb dJ3_checkIndex_8e157_5 rfl (lv_at hl 1 rfl) ?_
    refine lv_icmp_lt hx hb dJ3_checkIndex_8e157_6 (tgt := 16) (by decide) (fun hc => ?_) (fun hc => absurd h1 hc)
    refine lv_iload_n hx hb dJ3_checkIndex_8e157_16 rfl (lv_at hl 0 rfl) ?_
    exact r_iret hx hb hr rfl hlocks dJ3_checkIndex_8e157_17 (Nat.le_of_ble_eq_true rfl) (Nat.le_of_ble_eq_true rfl) hP hS
  · refine st_ofW (by decide) (Nat.le_of_ble_eq_true rfl) ?_
    intro p e s m args below meth c hx hb hr hml hlocks hnm hts hown hK hRO hA hP hS ls hl
    have hl : lv_has ls 3 [(0, .int x0), (1, .int x1), (2, .ref q)] := hl
    refine lv_iload_n hx hb dJ3_checkIndex_8e157_0 rfl (lv_at hl 0 rfl) ?_
    refine lv_if_lt hx hb dJ3_checkIndex_8e157_1 (tgt := 9) (by decide) (fun hc => absurd hc h0) (fun hc => ?_)
    refine lv_iload_n hx hb dJ3_checkIndex_8e157_4 rfl (lv_at hl 0 rfl) ?_
    refine lv_iload_n hx hb dJ3_checkIndex_8e157_5 rfl (lv_at hl 1 rfl) ?_
    refine lv_icmp_lt hx hb dJ3_checkIndex_8e157_6 (tgt := 16) (by decide) (fun hc => ?_) (fun hc => absurd h1 hc)
    refine lv_iload_n hx hb dJ3_checkIndex_8e157_16 rfl (lv_at hl 0 rfl) ?_
    exact r_iret hx hb hr rfl hlocks dJ3_checkIndex_8e157_17 (Nat.le_of_ble_eq_true rfl) (Nat.le_of_ble_eq_true rfl) hP hS
set_option maxRecDepth 100000 in
theorem s_schk (l : Launch) (X : st_I) {S : st_T} {x0 x1 : Int32} (h0 : ¬ x0 < 0) (h1 : x0 < x1) : Met l yJ0_checkIndex_df160 (Cond.code yJ0_checkIndex_df160 cJ0_checkIndex_df160 2 none :: lw_g) { frames := 1, cells := 0, slots := 0, locals := 24 } (st_P X S [.int x0, .int x1]) (st_Q X (st_A S) none S) 0 0 (st_A S) := by
  refine st_ofW (by decide) (Nat.le_of_ble_eq_true rfl) ?_
  intro p e s m args below meth c hx hb hr hml hlocks hnm hts hown hK hRO hA hP hS ls hl
  have hown : s.vm.findClass RJ0 = some m.cls := hown
  have hl : lv_has ls 2 [(0, .int x0), (1, .int x1)] := hl
  have fin : ∀ v : Value, (v = .null ∨ ∃ q, v = .ref q) → va_Z "jdk/internal/util/Preconditions" "SIOOBE_FORMATTER" "Ljava/util/function/BiFunction;" v (st_A S) s s.heap → W p l e { frames := 1, cells := 0, slots := 0, locals := 24 } s m args below meth c s.heap [] 0 0 (MQ below (st_Q X (st_A S) none S) args s 0 0 (st_A S)) (F0 m 0 ls []) := by
    intro v hv hZ
    refine lv_iload_n hx hb dJ0_checkIndex_df160_0 rfl (lv_at hl 0 rfl) ?_
    refine lv_iload_n hx hb dJ0_checkIndex_df160_1 rfl (lv_at hl 1 rfl) ?_
    refine va_gets hx hb hZ hS hown (hts _ lkf_J0_1053) (fun _ h => h) dJ0_checkIndex_df160_2 ?_
    refine r_cX (n := 3) (As := [.int x0, .int x1, v]) (rest := []) ⟨hx, hb, hml, hown, hts⟩ (s_chk l X hv h0 h1) lkm_J0_1059 (by decide +kernel) dJ0_checkIndex_df160_5 rfl rfl ⟨Nat.le_of_ble_eq_true rfl, Nat.le_of_ble_eq_true rfl⟩ rfl hl.1 (Nat.le_of_ble_eq_true rfl) ⟨Nat.le_of_ble_eq_true rfl, Nat.le_of_ble_eq_true rfl⟩ hK hRO hA hP hS (fun H locs hP hS => ?_)
    refine W.eq (g2 := F0 m 8 ls [.int x0]) rfl ?_
    refine lv_pop hx hb dJ0_checkIndex_df160_8 rfl ?_
    exact r_vret hx hb hr rfl hlocks dJ0_checkIndex_df160_9 (Nat.le_of_ble_eq_true rfl) (Nat.le_of_ble_eq_true rfl) hP hS
  rcases hRO.2.2.2.2.2.2.2.2.1 with h | ⟨t, h⟩
  · exact fin _ (Or.inl rfl) h
  · exact fin _ (Or.inr ⟨t, rfl⟩) h
set_option maxRecDepth 100000 in
theorem s_lat (l : Launch) (X : st_I) {S : st_T} {i : Nat} (hi : i < 15) {x1 : Int32} (hin : vp_in x1 (st_tx i).length) : Met l yJ1_charAt_3b067 (Cond.code yJ1_charAt_3b067 cJ1_charAt_3b067 2 (some .char) :: lw_g) { frames := 2, cells := 0, slots := 0, locals := 48 } (st_P X S [.ref (X.2.2.2.2.2.2 (200 + i)), .int x1]) (st_Q X (st_A S) (some (.int (nI ((st_tx i).getD x1.toNatClampNeg 0)))) S) 0 0 (st_A S) := by
  refine st_ofW (by decide) (Nat.le_of_ble_eq_true rfl) ?_
  intro p e s m args below meth c hx hb hr hml hlocks hnm hts hown hK hRO hA hP hS ls hl
  have hown : s.vm.findClass RJ1 = some m.cls := hown
  have hl : lv_has ls 2 [(0, .ref (X.2.2.2.2.2.2 (200 + i))), (1, .int x1)] := hl
  have hT := (hRO.2.2.2.2.2.1.1 i hi).2.2.2
  rw [tx_len i hi] at hT
  have h0 : ¬ x1 < 0 := fun q => hin (Or.inl q)
  have hlt : x1.toNatClampNeg < (st_tx i).length := Nat.not_le.mp fun q => hin (Or.inr q)
  have h1 : x1 < nI (st_tx i).length := by
    obtain ⟨j, hj, e⟩ := vp_in_of hin (Nat.lt_trans (tx_lt i hi) (by decide))
    rw [e]
    exact nI_lt hj (Nat.lt_trans (tx_lt i hi) (by decide))
  refine lv_iload_n hx hb dJ1_charAt_3b067_0 rfl (lv_at hl 1 rfl) ?_
  refine lv_aload_n hx hb dJ1_charAt_3b067_1 rfl (lv_at hl 0 rfl) ?_
  refine va_tlen hx hb hT hS (v := nI (st_tx i).length) rfl dJ1_charAt_3b067_2 ?_
  refine r_cX (n := 2) (As := [.int x1, .int (nI (st_tx i).length)]) (rest := []) ⟨hx, hb, hml, hown, hts⟩ (s_schk l X h0 h1) lkm_J1_9 (by decide +kernel) dJ1_charAt_3b067_3 rfl rfl ⟨Nat.le_of_ble_eq_true rfl, Nat.le_of_ble_eq_true rfl⟩ rfl hl.1 (Nat.le_of_ble_eq_true rfl) ⟨Nat.le_of_ble_eq_true rfl, Nat.le_of_ble_eq_true rfl⟩ hK hRO hA hP hS (fun H locs hP hS => ?_)
  refine W.eq (g2 := F0 m 6 ls []) rfl ?_
  refine lv_aload_n hx hb dJ1_charAt_3b067_6 rfl (lv_at hl 0 rfl) ?_
  refine lv_iload_n hx hb dJ1_charAt_3b067_7 rfl (lv_at hl 1 rfl) ?_
  refine va_tb hx hb hT hS hin rfl dJ1_charAt_3b067_8 ?_
  refine lv_sipush (v := 255) hx hb dJ1_charAt_3b067_9 (by decide) ?_
  refine lv_iand hx hb dJ1_charAt_3b067_12 ?_
  refine lv_i2c (v := nI ((st_tx i).getD x1.toNatClampNeg 0)) hx hb dJ1_charAt_3b067_13 (tx_chk i hi _ hlt) ?_
  exact r_tret hx hb hr rfl (by rw [← tx_chk i hi _ hlt]; exact pk_nc _) hlocks dJ1_charAt_3b067_14 (Nat.le_of_ble_eq_true rfl) (Nat.le_of_ble_eq_true rfl) hP hS
set_option maxRecDepth 100000 in
theorem s_J0_charAt_5068e (l : Launch) (X : st_I) {S SE : st_T} {a0 : Nat} {x1 : Int32} {rr : Int32} (Hf : f_J0_charAt_5068e S a0 x1 = some (rr, SE)) : Met l yJ0_charAt_5068e (Cond.code yJ0_charAt_5068e cJ0_charAt_5068e 2 (some .char) :: lw_g) { frames := 3, cells := 0, slots := 0, locals := 72 } (st_P X S [.ref a0, .int x1]) (st_Q X (st_A S) (some (.int rr)) SE) 0 0 (st_A S) := by
  refine st_ofW (by decide) (Nat.le_of_ble_eq_true rfl) ?_
  intro p e s m args below meth c hx hb hr hml hlocks hnm hts hown hK hRO hA hP hS ls hl
  have hown : s.vm.findClass RJ0 = some m.cls := hown
  have hl : lv_has ls 2 [(0, .ref a0), (1, .int x1)] := hl
  unfold f_J0_charAt_5068e at Hf
  obtain ⟨hk, Hf⟩ := c_g_some Hf
  obtain ⟨hin, Hf⟩ := c_g_some Hf
  cases Hf
  obtain ⟨i, hi, ha, hln, hri⟩ := hP.2.2.2.2 a0 hk
  rw [hP.2.2.1] at ha
  rw [hln] at hin
  have hlt : x1.toNatClampNeg < (st_tx i).length := Nat.not_le.mp fun q => hin (Or.inr q)
  rw [hri _ hlt]
  have hk0 := hk
  refine lv_aload_n hx hb dJ0_charAt_5068e_0 rfl (lv_at hl 0 rfl) ?_
  refine r_cVS (n := 0) (As := []) (rest := []) ⟨hx, hb, hml, hown, hts⟩ (s_isLatin1 l X hk0) lkm_J0_492 (by decide +kernel) dJ0_charAt_5068e_1 rfl rfl ⟨Nat.le_of_ble_eq_true rfl, Nat.le_of_ble_eq_true rfl⟩ hk0 rfl hl.1 (Nat.le_of_ble_eq_true rfl) ⟨Nat.le_of_ble_eq_true rfl, Nat.le_of_ble_eq_true rfl⟩ hK hRO hA hP hS (fun H locs hP hS => ?_)
  refine W.eq (g2 := F0 m 4 ls [.int 1]) rfl ?_
  refine lv_if_eq hx hb dJ0_charAt_5068e_4 (tgt := 16) (by decide) (fun hc => absurd hc (by decide)) (fun hc => ?_)
  refine lv_aload_n hx hb dJ0_charAt_5068e_7 rfl (lv_at hl 0 rfl) ?_
  have hOF := (hRO.2.2.2.2.2.1.1 i hi).2.2.1
  rw [← ha] at hOF
  refine vk_getf hx hb hOF hS hown (hts _ lkf_J0_9) (fun _ h => h) dJ0_charAt_5068e_8 ?_
  refine lv_iload_n hx hb dJ0_charAt_5068e_11 rfl (lv_at hl 1 rfl) ?_
  refine r_cX (n := 2) (As := [.ref (X.2.2.2.2.2.2 (200 + i)), .int x1]) (rest := []) ⟨hx, hb, hml, hown, hts⟩ (s_lat l X hi hin) lkm_J0_495 (by decide +kernel) dJ0_charAt_5068e_12 rfl rfl ⟨Nat.le_of_ble_eq_true rfl, Nat.le_of_ble_eq_true rfl⟩ rfl hl.1 (Nat.le_of_ble_eq_true rfl) ⟨Nat.le_of_ble_eq_true rfl, Nat.le_of_ble_eq_true rfl⟩ hK hRO hA hP hS (fun H locs hP hS => ?_)
  refine W.eq (g2 := F0 m 15 ls [.int (nI ((st_tx i).getD x1.toNatClampNeg 0))]) rfl ?_
  exact r_tret hx hb hr rfl (by rw [← tx_chk i hi _ hlt]; exact pk_nc _) hlocks dJ0_charAt_5068e_15 (Nat.le_of_ble_eq_true rfl) (Nat.le_of_ble_eq_true rfl) hP hS
