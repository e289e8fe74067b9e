def j_L_law_1034 (rec23 : st_T × Int32 → Prop) (y4_23 : Int32) (S1034 : st_T) : Prop :=
  (rec23 (S1034, (y4_23 + 8)))
def j_L_law_626 (rec23 : st_T × Int32 → Prop) (y4_23 : Int32) (S626 : st_T) : Prop :=
  (j_L_law_1034 rec23 y4_23 S626)
def j_L_law_572 (L : Nat) (xs : Nat → Int32) (n8 : Nat) (n17 : Nat) (rec23 : st_T × Int32 → Prop) (y4_23 : Int32) (S572 : st_T) (u0_572 : Int32) : Prop :=
  (p_g (c_in (y4_23 + 1) L) (p_g (c_in (y4_23 + 2) L) (p_g (c_in (y4_23 + 3) L) (p_g (st_K S572 n8 = 11) (p_c (f_X9_look S572 n8 (xs ((y4_23 + 1) : Int32).toNatClampNeg) (xs ((y4_23 + 2) : Int32).toNatClampNeg) (xs ((y4_23 + 3) : Int32).toNatClampNeg)) (fun (r593 : Int32) (T593 : st_T) => (p_g (st_K T593 n8 = 11) (p_c (f_X9_thrown T593 n8) (fun (r599 : Int32) (T599 : st_T) => (p_i (r599 = u0_572) (p_i (u0_572 = 0) (p_g (st_K T599 n17 = 21) (p_g (c_in 0 (st_ln T599 n17)) (p_i ((lg_cmp (st_rl T599 n17 (0 : Int32).toNatClampNeg) ((r593 : Int32).toInt64)) = 0) (j_L_law_626 rec23 y4_23 T599) ((0 : Int32) = 1)))) (j_L_law_626 rec23 y4_23 T599)) ((0 : Int32) = 1)))))))))))
def j_L_law_810 (xs : Nat → Int32) (n8 : Nat) (rec23 : st_T × Int32 → Prop) (y4_23 : Int32) (r780 : Int32) (S810 : st_T) (u0_810 : Int32) : Prop :=
  (p_g (st_K S810 n8 = 11) (p_c (f_X9_cell S810 n8 (xs ((y4_23 + 1) : Int32).toNatClampNeg) (xs ((y4_23 + 2) : Int32).toNatClampNeg) u0_810) (fun (r810 : Int32) (T810 : st_T) => (p_i (r780 = r810) (j_L_law_1034 rec23 y4_23 T810) ((0 : Int32) = 1)))))
def j_L_law_780 (L : Nat) (xs : Nat → Int32) (n0 : Nat) (n8 : Nat) (rec23 : st_T × Int32 → Prop) (y4_23 : Int32) (S780 : st_T) (u0_780 : Int32) : Prop :=
  (p_g (st_K S780 n0 = 10) (p_c (f_X8_cell S780 n0 (xs ((y4_23 + 1) : Int32).toNatClampNeg) (xs ((y4_23 + 2) : Int32).toNatClampNeg) u0_780) (fun (r780 : Int32) (T780 : st_T) => (p_g (c_in (y4_23 + 1) L) (p_g (c_in (y4_23 + 2) L) (p_g (c_in (y4_23 + 3) L) (p_i ((xs ((y4_23 + 3) : Int32).toNatClampNeg) = 0) (j_L_law_810 xs n8 rec23 y4_23 r780 T780 0) (j_L_law_810 xs n8 rec23 y4_23 r780 T780 1))))))))
def j_L_law_1006 (rec23 : st_T × Int32 → Prop) (y4_23 : Int32) (S1006 : st_T) : Prop :=
  (j_L_law_1034 rec23 y4_23 S1006)
def j_L_law_958 (L : Nat) (xs : Nat → Int32) (n8 : Nat) (n17 : Nat) (rec23 : st_T × Int32 → Prop) (y4_23 : Int32) (S958 : st_T) (u0_958 : Int32) : Prop :=
  (p_g (c_in (y4_23 + 1) L) (p_g (c_in (y4_23 + 2) L) (p_g (st_K S958 n8 = 11) (p_c (f_X9_day S958 n8 (xs ((y4_23 + 1) : Int32).toNatClampNeg) (xs ((y4_23 + 2) : Int32).toNatClampNeg)) (fun (r973 : Int32) (T973 : st_T) => (p_g (st_K T973 n8 = 11) (p_c (f_X9_thrown T973 n8) (fun (r979 : Int32) (T979 : st_T) => (p_i (r979 = u0_958) (p_i (u0_958 = 0) (p_g (st_K T979 n17 = 21) (p_g (c_in 0 (st_ln T979 n17)) (p_i ((lg_cmp (st_rl T979 n17 (0 : Int32).toNatClampNeg) ((r973 : Int32).toInt64)) = 0) (j_L_law_1006 rec23 y4_23 T979) ((0 : Int32) = 1)))) (j_L_law_1006 rec23 y4_23 T979)) ((0 : Int32) = 1))))))))))
def b_L_law_23 (L : Nat) (xs : Nat → Int32) (n0 : Nat) (n8 : Nat) (n17 : Nat) (rec23 : st_T × Int32 → Prop) (q : st_T × Int32) : Prop :=
  (fun (S23 : st_T) (y4_23 : Int32) =>
  (p_i (((nI L) - 8) < y4_23) True (p_g (c_in y4_23 L) (p_i (((xs (y4_23 : Int32).toNatClampNeg) &&& 31) = 0) (p_g (c_in (y4_23 + 1) L) (p_g (c_in (y4_23 + 2) L) (p_g (st_K S23 n0 = 10) (p_c (f_X8_below S23 n0 (xs ((y4_23 + 1) : Int32).toNatClampNeg) (xs ((y4_23 + 2) : Int32).toNatClampNeg)) (fun (r141 : Int32) (T141 : st_T) => (p_g (c_in (y4_23 + 1) L) (p_g (c_in (y4_23 + 2) L) (p_g (st_K T141 n8 = 11) (p_c (f_X9_below T141 n8 (xs ((y4_23 + 1) : Int32).toNatClampNeg) (xs ((y4_23 + 2) : Int32).toNatClampNeg)) (fun (r157 : Int32) (T157 : st_T) => (p_i (r141 = r157) (j_L_law_1034 rec23 y4_23 T157) ((0 : Int32) = 1)))))))))))) (p_i (((xs (y4_23 : Int32).toNatClampNeg) &&& 31) = 1) (p_g (c_in (y4_23 + 1) L) (p_g (c_in (y4_23 + 2) L) (p_g (c_in (y4_23 + 3) L) (p_g (c_in (y4_23 + 4) L) (p_g (st_K S23 n0 = 10) (p_c (f_X8_diary S23 n0 (xs ((y4_23 + 1) : Int32).toNatClampNeg) (xs ((y4_23 + 2) : Int32).toNatClampNeg) (xs ((y4_23 + 3) : Int32).toNatClampNeg) (xs ((y4_23 + 4) : Int32).toNatClampNeg)) (fun (r190 : Int32) (T190 : st_T) => (p_g (c_in (y4_23 + 1) L) (p_g (c_in (y4_23 + 2) L) (p_g (c_in (y4_23 + 3) L) (p_g (c_in (y4_23 + 4) L) (p_g (st_K T190 n8 = 11) (p_c (f_X9_diary T190 n8 (xs ((y4_23 + 1) : Int32).toNatClampNeg) (xs ((y4_23 + 2) : Int32).toNatClampNeg) (xs ((y4_23 + 3) : Int32).toNatClampNeg) (xs ((y4_23 + 4) : Int32).toNatClampNeg)) (fun (r218 : Int32) (T218 : st_T) => (p_i (r190 = r218) (j_L_law_1034 rec23 y4_23 T218) ((0 : Int32) = 1)))))))))))))))) (p_i (((xs (y4_23 : Int32).toNatClampNeg) &&& 31) = 2) (p_g (c_in (y4_23 + 1) L) (p_g (c_in (y4_23 + 2) L) (p_g (c_in (y4_23 + 3) L) (p_g (c_in (y4_23 + 4) L) (p_g (c_in (y4_23 + 5) L) (p_g (c_in (y4_23 + 6) L) (p_g (c_in (y4_23 + 7) L) (p_g (st_K S23 n0 = 10) (p_c (f_X8_line S23 n0 (xs ((y4_23 + 1) : Int32).toNatClampNeg) (xs ((y4_23 + 2) : Int32).toNatClampNeg) (xs ((y4_23 + 3) : Int32).toNatClampNeg) (xs ((y4_23 + 4) : Int32).toNatClampNeg) (xs ((y4_23 + 5) : Int32).toNatClampNeg) (xs ((y4_23 + 6) : Int32).toNatClampNeg) (xs ((y4_23 + 7) : Int32).toNatClampNeg)) (fun (r271 : Int32) (T271 : st_T) => (p_g (c_in (y4_23 + 1) L) (p_g (c_in (y4_23 + 2) L) (p_g (c_in (y4_23 + 3) L) (p_g (c_in (y4_23 + 4) L) (p_g (c_in (y4_23 + 5) L) (p_g (c_in (y4_23 + 6) L) (p_g (c_in (y4_23 + 7) L) (p_g (st_K T271 n8 = 11) (p_c (f_X9_line T271 n8 (xs ((y4_23 + 1) : Int32).toNatClampNeg) (xs ((y4_23 + 2) : Int32).toNatClampNeg) (xs ((y4_23 + 3) : Int32).toNatClampNeg) (xs ((y4_23 + 4) : Int32).toNatClampNeg) (xs ((y4_23 + 5) : Int32).toNatClampNeg) (xs ((y4_23 + 6) : Int32).toNatClampNeg) (xs ((y4_23 + 7) : Int32).toNatClampNeg)) (fun (r319 : Int32) (T319 : st_T) => (p_i (r271 = r319) (j_L_law_1034 rec23 y4_23 T319) ((0 : Int32) = 1)))))))))))))))))))))) (p_i (((xs (y4_23 : Int32).toNatClampNeg) &&& 31) = 3) (p_g (c_in (y4_23 + 1) L) (p_g (c_in (y4_23 + 2) L) (p_g (c_in (y4_23 + 3) L) (p_g (c_in (y4_23 + 4) L) (p_g (c_in (y4_23 + 5) L) (p_g (c_in (y4_23 + 6) L) (p_g (st_K S23 n0 = 10) (p_c (f_X8_feed S23 n0 (((((xs ((y4_23 + 1) : Int32).toNatClampNeg) : Int32).toInt64) <<< ((32 : Int32).toInt64 &&& 63)) ||| ((((xs ((y4_23 + 2) : Int32).toNatClampNeg) : Int32).toInt64) &&& 4294967295)) (((((xs ((y4_23 + 3) : Int32).toNatClampNeg) : Int32).toInt64) <<< ((32 : Int32).toInt64 &&& 63)) ||| ((((xs ((y4_23 + 4) : Int32).toNatClampNeg) : Int32).toInt64) &&& 4294967295)) (((((xs ((y4_23 + 5) : Int32).toNatClampNeg) : Int32).toInt64) <<< ((32 : Int32).toInt64 &&& 63)) ||| ((((xs ((y4_23 + 6) : Int32).toNatClampNeg) : Int32).toInt64) &&& 4294967295))) (fun (r395 : Int32) (T395 : st_T) => (p_g (c_in (y4_23 + 1) L) (p_g (c_in (y4_23 + 2) L) (p_g (c_in (y4_23 + 3) L) (p_g (c_in (y4_23 + 4) L) (p_g (c_in (y4_23 + 5) L) (p_g (c_in (y4_23 + 6) L) (p_g (st_K T395 n8 = 11) (p_c (f_X9_feed T395 n8 (((((xs ((y4_23 + 1) : Int32).toNatClampNeg) : Int32).toInt64) <<< ((32 : Int32).toInt64 &&& 63)) ||| ((((xs ((y4_23 + 2) : Int32).toNatClampNeg) : Int32).toInt64) &&& 4294967295)) (((((xs ((y4_23 + 3) : Int32).toNatClampNeg) : Int32).toInt64) <<< ((32 : Int32).toInt64 &&& 63)) ||| ((((xs ((y4_23 + 4) : Int32).toNatClampNeg) : Int32).toInt64) &&& 4294967295)) (((((xs ((y4_23 + 5) : Int32).toNatClampNeg) : Int32).toInt64) <<< ((32 : Int32).toInt64 &&& 63)) ||| ((((xs ((y4_23 + 6) : Int32).toNatClampNeg) : Int32).toInt64) &&& 4294967295))) (fun (r466 : Int32) (T466 : st_T) => (p_i (r395 = r466) (j_L_law_1034 rec23 y4_23 T466) ((0 : Int32) = 1)))))))))))))))))))) (p_i (((xs (y4_23 : Int32).toNatClampNeg) &&& 31) = 4) (p_g (st_K S23 n0 = 10) (p_c (f_X8_text S23 n0) (fun (r475 : Int32) (T475 : st_T) => (p_g (st_K T475 n8 = 11) (p_c (f_X9_text T475 n8) (fun (r479 : Int32) (T479 : st_T) => (p_i (r475 = r479) (j_L_law_1034 rec23 y4_23 T479) ((0 : Int32) = 1)))))))) (p_i (((xs (y4_23 : Int32).toNatClampNeg) &&& 31) = 5) (p_g (c_in (y4_23 + 1) L) (p_g (st_K S23 n0 = 10) (p_c (f_X8_choose S23 n0 (xs ((y4_23 + 1) : Int32).toNatClampNeg)) (fun (r494 : Int32) (T494 : st_T) => (p_g (c_in (y4_23 + 1) L) (p_g (st_K T494 n8 = 11) (p_c (f_X9_choose T494 n8 (xs ((y4_23 + 1) : Int32).toNatClampNeg)) (fun (r504 : Int32) (T504 : st_T) => (p_i (r494 = r504) (j_L_law_1034 rec23 y4_23 T504) ((0 : Int32) = 1)))))))))) (p_i (((xs (y4_23 : Int32).toNatClampNeg) &&& 31) = 6) (p_g (c_in (y4_23 + 1) L) (p_g (c_in (y4_23 + 2) L) (p_g (st_K S23 n0 = 10) (p_c (f_X8_code S23 n0 (xs ((y4_23 + 1) : Int32).toNatClampNeg) (xs ((y4_23 + 2) : Int32).toNatClampNeg)) (fun (r525 : Int32) (T525 : st_T) => (p_g (c_in (y4_23 + 1) L) (p_g (c_in (y4_23 + 2) L) (p_g (st_K T525 n8 = 11) (p_c (f_X9_code T525 n8 (xs ((y4_23 + 1) : Int32).toNatClampNeg) (xs ((y4_23 + 2) : Int32).toNatClampNeg)) (fun (r541 : Int32) (T541 : st_T) => (p_i (r525 = r541) (j_L_law_1034 rec23 y4_23 T541) ((0 : Int32) = 1)))))))))))) (p_i (((xs (y4_23 : Int32).toNatClampNeg) &&& 31) = 7) (p_g (c_in (y4_23 + 1) L) (p_g (c_in (y4_23 + 2) L) (p_g (c_in (y4_23 + 3) L) (p_x (f_L_look S23 n0 (xs ((y4_23 + 1) : Int32).toNatClampNeg) (xs ((y4_23 + 2) : Int32).toNatClampNeg) (xs ((y4_23 + 3) : Int32).toNatClampNeg) n17) (h_X8_look S23 n0 (xs ((y4_23 + 1) : Int32).toNatClampNeg) (xs ((y4_23 + 2) : Int32).toNatClampNeg) (xs ((y4_23 + 3) : Int32).toNatClampNeg)) (st_K S23 n0 = 10) (fun (r569 : Int32) (T569 : st_T) => (j_L_law_572 L xs n8 n17 rec23 y4_23 T569 r569)))))) (p_i (((xs (y4_23 : Int32).toNatClampNeg) &&& 31) = 8) (p_g (c_in (y4_23 + 1) L) (p_g (c_in (y4_23 + 2) L) (p_g (st_K S23 n0 = 10) (p_c (f_X8_ten S23 n0 (xs ((y4_23 + 1) : Int32).toNatClampNeg) (xs ((y4_23 + 2) : Int32).toNatClampNeg)) (fun (r642 : Int32) (T642 : st_T) => (p_g (c_in (y4_23 + 1) L) (p_g (c_in (y4_23 + 2) L) (p_g (st_K T642 n8 = 11) (p_c (f_X9_ten T642 n8 (xs ((y4_23 + 1) : Int32).toNatClampNeg) (xs ((y4_23 + 2) : Int32).toNatClampNeg)) (fun (r658 : Int32) (T658 : st_T) => (p_i (r642 = r658) (j_L_law_1034 rec23 y4_23 T658) ((0 : Int32) = 1)))))))))))) (p_i (((xs (y4_23 : Int32).toNatClampNeg) &&& 31) = 9) (p_g (c_in (y4_23 + 1) L) (p_g (c_in (y4_23 + 2) L) (p_g (st_K S23 n0 = 10) (p_c (f_X8_known S23 n0 (xs ((y4_23 + 1) : Int32).toNatClampNeg) (xs ((y4_23 + 2) : Int32).toNatClampNeg)) (fun (r679 : Int32) (T679 : st_T) => (p_g (c_in (y4_23 + 1) L) (p_g (c_in (y4_23 + 2) L) (p_g (st_K T679 n8 = 11) (p_c (f_X9_known T679 n8 (xs ((y4_23 + 1) : Int32).toNatClampNeg) (xs ((y4_23 + 2) : Int32).toNatClampNeg)) (fun (r695 : Int32) (T695 : st_T) => (p_i (r679 = r695) (j_L_law_1034 rec23 y4_23 T695) ((0 : Int32) = 1)))))))))))) (p_i (((xs (y4_23 : Int32).toNatClampNeg) &&& 31) = 10) (p_g (c_in (y4_23 + 1) L) (p_g (st_K S23 n0 = 10) (p_c (f_X8_rounds S23 n0 (xs ((y4_23 + 1) : Int32).toNatClampNeg)) (fun (r710 : Int32) (T710 : st_T) => (p_g (c_in (y4_23 + 1) L) (p_g (st_K T710 n8 = 11) (p_c (f_X9_rounds T710 n8 (xs ((y4_23 + 1) : Int32).toNatClampNeg)) (fun (r720 : Int32) (T720 : st_T) => (p_i (r710 = r720) (j_L_law_1034 rec23 y4_23 T720) ((0 : Int32) = 1)))))))))) (p_i (((xs (y4_23 : Int32).toNatClampNeg) &&& 31) = 11) (p_g (c_in (y4_23 + 1) L) (p_g (st_K S23 n0 = 10) (p_c (f_X8_weight S23 n0 (xs ((y4_23 + 1) : Int32).toNatClampNeg)) (fun (r735 : Int32) (T735 : st_T) => (p_g (c_in (y4_23 + 1) L) (p_g (st_K T735 n8 = 11) (p_c (f_X9_weight T735 n8 (xs ((y4_23 + 1) : Int32).toNatClampNeg)) (fun (r745 : Int32) (T745 : st_T) => (p_i (r735 = r745) (j_L_law_1034 rec23 y4_23 T745) ((0 : Int32) = 1)))))))))) (p_i (((xs (y4_23 : Int32).toNatClampNeg) &&& 31) = 12) (p_g (c_in (y4_23 + 1) L) (p_g (c_in (y4_23 + 2) L) (p_g (c_in (y4_23 + 3) L) (p_i ((xs ((y4_23 + 3) : Int32).toNatClampNeg) = 0) (j_L_law_780 L xs n0 n8 rec23 y4_23 S23 0) (j_L_law_780 L xs n0 n8 rec23 y4_23 S23 1))))) (p_i (((xs (y4_23 : Int32).toNatClampNeg) &&& 31) = 13) (p_g (c_in (y4_23 + 1) L) (p_g (c_in (y4_23 + 2) L) (p_g (c_in (y4_23 + 3) L) (p_g (st_K S23 n0 = 10) (p_c (f_X8_lead S23 n0 (xs ((y4_23 + 1) : Int32).toNatClampNeg) (xs ((y4_23 + 2) : Int32).toNatClampNeg) (xs ((y4_23 + 3) : Int32).toNatClampNeg)) (fun (r837 : Int32) (T837 : st_T) => (p_g (c_in (y4_23 + 1) L) (p_g (c_in (y4_23 + 2) L) (p_g (c_in (y4_23 + 3) L) (p_g (st_K T837 n8 = 11) (p_c (f_X9_lead T837 n8 (xs ((y4_23 + 1) : Int32).toNatClampNeg) (xs ((y4_23 + 2) : Int32).toNatClampNeg) (xs ((y4_23 + 3) : Int32).toNatClampNeg)) (fun (r859 : Int32) (T859 : st_T) => (p_i (r837 = r859) (j_L_law_1034 rec23 y4_23 T859) ((0 : Int32) = 1)))))))))))))) (p_i (((xs (y4_23 : Int32).toNatClampNeg) &&& 31) = 14) (p_g (c_in (y4_23 + 1) L) (p_g (c_in (y4_23 + 2) L) (p_g (st_K S23 n0 = 10) (p_c (f_X8_next S23 n0 (xs ((y4_23 + 1) : Int32).toNatClampNeg) (xs ((y4_23 + 2) : Int32).toNatClampNeg)) (fun (r880 : Int32) (T880 : st_T) => (p_g (c_in (y4_23 + 1) L) (p_g (c_in (y4_23 + 2) L) (p_g (st_K T880 n8 = 11) (p_c (f_X9_next T880 n8 (xs ((y4_23 + 1) : Int32).toNatClampNeg) (xs ((y4_23 + 2) : Int32).toNatClampNeg)) (fun (r896 : Int32) (T896 : st_T) => (p_i (r880 = r896) (j_L_law_1034 rec23 y4_23 T896) ((0 : Int32) = 1)))))))))))) (p_i (((xs (y4_23 : Int32).toNatClampNeg) &&& 31) = 15) (p_g (c_in (y4_23 + 1) L) (p_g (c_in (y4_23 + 2) L) (p_g (st_K S23 n0 = 10) (p_c (f_X8_quarrels S23 n0 (xs ((y4_23 + 1) : Int32).toNatClampNeg) (xs ((y4_23 + 2) : Int32).toNatClampNeg)) (fun (r917 : Int32) (T917 : st_T) => (p_g (c_in (y4_23 + 1) L) (p_g (c_in (y4_23 + 2) L) (p_g (st_K T917 n8 = 11) (p_c (f_X9_quarrels T917 n8 (xs ((y4_23 + 1) : Int32).toNatClampNeg) (xs ((y4_23 + 2) : Int32).toNatClampNeg)) (fun (r933 : Int32) (T933 : st_T) => (p_i (r917 = r933) (j_L_law_1034 rec23 y4_23 T933) ((0 : Int32) = 1)))))))))))) (p_i (((xs (y4_23 : Int32).toNatClampNeg) &&& 31) = 16) (p_g (c_in (y4_23 + 1) L) (p_g (c_in (y4_23 + 2) L) (p_x (f_L_day S23 n0 (xs ((y4_23 + 1) : Int32).toNatClampNeg) (xs ((y4_23 + 2) : Int32).toNatClampNeg) n17) (h_X8_day S23 n0 (xs ((y4_23 + 1) : Int32).toNatClampNeg) (xs ((y4_23 + 2) : Int32).toNatClampNeg)) (st_K S23 n0 = 10) (fun (r955 : Int32) (T955 : st_T) => (j_L_law_958 L xs n8 n17 rec23 y4_23 T955 r955))))) (p_i (((xs (y4_23 : Int32).toNatClampNeg) &&& 31) = 17) (p_g (c_in (y4_23 + 1) L) (p_g (st_K S23 n0 = 10) (p_c (f_X8_count S23 n0 (xs ((y4_23 + 1) : Int32).toNatClampNeg)) (fun (r1016 : Int32) (T1016 : st_T) => (p_g (c_in (y4_23 + 1) L) (p_g (st_K T1016 n8 = 11) (p_c (f_X9_count T1016 n8 (xs ((y4_23 + 1) : Int32).toNatClampNeg)) (fun (r1026 : Int32) (T1026 : st_T) => (p_i (r1016 = r1026) (j_L_law_1034 rec23 y4_23 T1026) ((0 : Int32) = 1)))))))))) (j_L_law_1034 rec23 y4_23 S23)))))))))))))))))))))) q.1 q.2
set_option maxRecDepth 100000 in
def p_L_law (L : Nat) (xs : Nat → Int32) (S : st_T) : Prop :=
  (p_l (st_nx S) (fun (n0 : Nat) => (p_l (st_no S 9) (fun (S_0 : st_T) => (p_c (f_X8_init S_0 n0) (fun (r4 : Unit) (T4 : st_T) => (p_l (st_nx T4) (fun (n8 : Nat) => (p_l (st_no T4 10) (fun (S_8 : st_T) => (p_c (f_X9_init S_8 n8) (fun (r12 : Unit) (T12 : st_T) => (p_g (¬ (1 : Int32) < 0 ∧ (1 : Int32).toNatClampNeg ≤ 1) (p_l (st_nx T12) (fun (n17 : Nat) => (p_l (st_na T12 21 (1 : Int32).toNatClampNeg) (fun (S_17 : st_T) => (p_w (b_L_law_23 L xs n0 n8 n17) 513 (S_17, 0)))))))))))))))))))
set_option maxRecDepth 100000 in
set_option maxHeartbeats 4000000 in
theorem s_law {p : Program} {l : Launch} {e : Env} {s : State} {m : MethodId} {below : List Frame} {meth : Method} {c : Code} (hlt : l.stackTraces = false) {X : st_I} {AA : Nat → Prop} {bq L : Nat} {xs : Nat → Int32} {S : st_T} (hx : p.tables.exec = Jvm.exec) (hb : c.code = code) (hr : meth.sig.returnType = ret) (hml : c.maxLocals = 7) (hlocks : meth.locks = false) (hts : ∀ w ∈ lw_g, w.before #[Value.ref bq] s = true) (hown : s.vm.findClass RL = some m.cls) (hK : st_KK X s) (hRO : st_RO X AA s) (hA : ∀ q, s.heap.size ≤ q → AA q) (hAA : ∀ q, AA q → s.heap.size ≤ q) (hP : st_HP X AA S s.heap) (hS : va_S AA s.heap s.heap []) (hX : va_X bq L xs s s.heap) (hbl : bq < s.heap.size) (hbA : ¬ AA bq) {ls : Array Slot} (hl : lv_has ls 7 [(0, .ref bq)]) (Hf : p_L_law L xs S) : W p l e room_1 s m #[Value.ref bq] below meth c s.heap [] 0 0 (lw_Z below #[Value.ref bq] s) (F0 m 0 ls []) := by
  unfold p_L_law at Hf
  obtain ⟨n0, en0, Hf⟩ := p_l_ex Hf
  obtain ⟨S_0, eS_0, Hf⟩ := p_l_ex Hf
  refine r_new (T := TX8) (ci := 9) hx hb hts in_9 rfl rfl (by decide) tyX8_ok df_9 (lg_1 92 rfl rfl) (lg_1 93 rfl rfl) (lg_1 65 rfl rfl) hown hK hA hP hS en0 eS_0 (by show _ ≤ 601024; omega) (by show _ ≤ 7293034; omega) dL_law_0 (fun H hP hS => ?_)
  refine W.eq (g2 := F0 m 3 ls [.ref n0]) rfl ?_
  refine lv_dup hx hb dL_law_3 rfl ?_
  obtain ⟨r4, T4, hq4, Hf⟩ := p_c_some Hf
  refine r_cI (n := 0) (As := []) (rest := [.ref n0]) ⟨hx, hb, hml, hown, hts⟩ (s_X8_init l X hq4) (lg_ps _ [94, 95, 65, 96] rfl (by decide +kernel)) (by decide +kernel) dL_law_4 rfl rfl ⟨(Nat.le_of_ble_eq_true rfl), (Nat.le_of_ble_eq_true rfl)⟩ rfl hl.1 (Nat.le_of_ble_eq_true rfl) ⟨by show _ ≤ 601024; omega, by show _ ≤ 7293034; omega⟩ hK hRO hA hP hS (fun H locs hP hS => ?_)
  refine W.eq (g2 := F0 m 7 ls [.ref n0]) rfl ?_
  refine lv_astore_n (lv' := [(1, .ref n0), (0, .ref bq)]) hx hb dL_law_7 rfl hl (by decide) rfl (fun ls hl => ?_)
  obtain ⟨n8, en8, Hf⟩ := p_l_ex Hf
  obtain ⟨S_8, eS_8, Hf⟩ := p_l_ex Hf
  refine r_new (T := TX9) (ci := 10) hx hb hts in_10 rfl rfl (by decide) tyX9_ok df_10 (lg_1 962 rfl rfl) (lg_1 963 rfl rfl) (lg_1 75 rfl rfl) hown hK hA hP hS en8 eS_8 (by show _ ≤ 601024; omega) (by show _ ≤ 7293034; omega) dL_law_8 (fun H hP hS => ?_)
  refine W.eq (g2 := F0 m 11 ls [.ref n8]) rfl ?_
  refine lv_dup hx hb dL_law_11 rfl ?_
  obtain ⟨r12, T12, hq12, Hf⟩ := p_c_some Hf
  refine r_cI (n := 0) (As := []) (rest := [.ref n8]) ⟨hx, hb, hml, hown, hts⟩ (s_X9_init l X hq12) (lg_ps _ [964, 965, 75, 966] rfl (by decide +kernel)) (by decide +kernel) dL_law_12 rfl rfl ⟨(Nat.le_of_ble_eq_true rfl), (Nat.le_of_ble_eq_true rfl)⟩ rfl hl.1 (Nat.le_of_ble_eq_true rfl) ⟨by show _ ≤ 601024; omega, by show _ ≤ 7293034; omega⟩ hK hRO hA hP hS (fun H locs hP hS => ?_)
  refine W.eq (g2 := F0 m 15 ls [.ref n8]) rfl ?_
  refine lv_astore_n (lv' := [(2, .ref n8), (1, .ref n0), (0, .ref bq)]) hx hb dL_law_15 rfl hl (by decide) rfl (fun ls hl => ?_)
  refine lv_iconst (v := 1) hx hb dL_law_16 (by decide) ?_
  obtain ⟨hn17, Hf⟩ := p_g_some Hf
  obtain ⟨n17, en17, Hf⟩ := p_l_ex Hf
  obtain ⟨S_17, eS_17, Hf⟩ := p_l_ex Hf
  refine r_newJ (B := 1) hx hb hts (lg_1 1100 rfl rfl) hK hA hP hS hn17 (by decide) en17 eS_17 (by show _ ≤ 601024; omega) (by show _ ≤ 7293034; omega) dL_law_17 (fun H hP hS => ?_)
  refine W.eq (g2 := F0 m 19 ls [.ref n17]) rfl ?_
  refine lv_astore_n (lv' := [(3, .ref n17), (2, .ref n8), (1, .ref n0), (0, .ref bq)]) hx hb dL_law_19 rfl hl (by decide) rfl (fun ls hl => ?_)
  refine lv_iconst (v := 0) hx hb dL_law_20 (by decide) ?_
  refine lv_istore (lv' := [(4, .int 0), (3, .ref n17), (2, .ref n8), (1, .ref n0), (0, .ref bq)]) hx hb dL_law_21 hl (by decide) rfl (fun ls hl => ?_)
  refine W.widen (k := 55 + 12 * 0 + 0) (n := 31858 + 4000 * 0 + 0) (by omega) (by omega) ?_
  refine (p_w_ind (P := fun (n : Nat) (q : st_T × Int32) => ∀ k, k + n = 513 → ∀ (H : Heap) (locs : List Loc) (ls : Array Slot), st_HP X AA q.1 H → va_S AA s.heap H locs → lv_has ls 7 [(0, .ref bq), (1, .ref n0), (2, .ref n8), (3, .ref n17), (4, .int q.2)] → W p l e room_1 s m #[Value.ref bq] below meth c H locs (55 + 12 * k + 0) (31858 + 4000 * k + 0) (lw_Z below #[Value.ref bq] s) (F0 m 23 ls [])) ?_ _ _ Hf) 0 rfl _ _ _ hP hS (lv_sub hl [4, 3, 2, 1, 0] rfl)
  intro n rec23 hrec23 q Hf k hk H locs ls hP hS hl
  obtain ⟨S23, y4_23⟩ := q
  unfold b_L_law_23 at Hf
  try dsimp only at Hf
  try dsimp only at hP
  try dsimp only at hl
  try dsimp only
  refine lv_iload hx hb dL_law_23 (lv_at hl 4 rfl) ?_
  refine lv_aload_n hx hb dL_law_25 rfl (lv_at hl 0 rfl) ?_
  refine va_slen hx hb hX hbl hbA hS dL_law_26 ?_
  refine lv_bipush (v := 8) hx hb dL_law_27 (by decide) ?_
  refine lv_isub hx hb dL_law_29 ?_
  refine lv_icmp_gt hx hb dL_law_30 (tgt := 1040) (by decide) (fun hc => ?_) (fun hc => ?_)
  · have Hf := p_i_t Hf hc
    refine lv_iconst (v := 1) hx hb dL_law_1040 (by decide) ?_
    refine va_forget (fun q hq => hAA _ (hS.2.2 q hq)) ?_
    refine W.widen (k := 601024) (n := 7293034) (by omega) (by omega) ?_
    exact lw_ret hx hb hr hlocks dL_law_1041
  have Hf := p_i_f Hf hc
  refine lv_aload_n hx hb dL_law_33 rfl (lv_at hl 0 rfl) ?_
  refine lv_iload hx hb dL_law_34 (lv_at hl 4 rfl) ?_
  obtain ⟨hi36, Hf⟩ := p_g_some Hf
  refine va_sld hx hb hX hbl hbA hS hi36 dL_law_36 ?_
  refine lv_bipush (v := 31) hx hb dL_law_37 (by decide) ?_
  refine lv_iand hx hb dL_law_39 ?_
  have hJ1034 : ∀ (S1034 : st_T), j_L_law_1034 rec23 y4_23 S1034 → ∀ (H : Heap) (locs : List Loc) (ls : Array Slot), st_HP X AA S1034 H → va_S AA s.heap H locs → lv_has ls 7 [(0, .ref bq), (1, .ref n0), (2, .ref n8), (3, .ref n17), (4, .int y4_23)] → W p l e room_1 s m #[Value.ref bq] below meth c H locs (55 + 12 * k + 8) (31858 + 4000 * k + 3500) (lw_Z below #[Value.ref bq] s) (F0 m 1034 ls []) := by
    intro S1034 Hf H locs ls hP hS hl
    unfold j_L_law_1034 at Hf
    refine lv_iinc (v := (y4_23 + 8)) (lv' := [(4, .int (y4_23 + 8)), (0, .ref bq), (1, .ref n0), (2, .ref n8), (3, .ref n17)]) hx hb dL_law_1034 hl (k := 4) rfl rfl (by decide) rfl (fun ls hl => ?_)
    refine lv_goto hx hb dL_law_1037 (tgt := 23) (by decide) ?_
    refine W.widen (k := 55 + 12 * (k + 1) + 0) (n := 31858 + 4000 * (k + 1) + 0) (by omega) (by omega) ?_
    exact hrec23 (S1034, (y4_23 + 8)) Hf (k + 1) (by omega) _ _ _ hP hS (lv_sub hl [1, 2, 3, 4, 0] rfl)
  by_cases hs0 : ((xs (y4_23 : Int32).toNatClampNeg) &&& 31) = 0
  · have Hf := p_i_t Hf hs0
    refine lv_tableIn hx hb dL_law_40 (by rw [hs0]; decide) (by rw [hs0]; decide) (off := 88) (by rw [hs0]; rfl) (tgt := 128) (by decide) ?_
    refine lv_aload_n hx hb dL_law_128 rfl (lv_at hl 1 rfl) ?_
    refine lv_aload_n hx hb dL_law_129 rfl (lv_at hl 0 rfl) ?_
    refine lv_iload hx hb dL_law_130 (lv_at hl 4 rfl) ?_
    refine lv_iconst (v := 1) hx hb dL_law_132 (by decide) ?_
    refine lv_iadd hx hb dL_law_133 ?_
    obtain ⟨hi134, Hf⟩ := p_g_some Hf
    refine va_sld hx hb hX hbl hbA hS hi134 dL_law_134 ?_
    refine lv_aload_n hx hb dL_law_135 rfl (lv_at hl 0 rfl) ?_
    refine lv_iload hx hb dL_law_136 (lv_at hl 4 rfl) ?_
    refine lv_iconst (v := 2) hx hb dL_law_138 (by decide) ?_
    refine lv_iadd hx hb dL_law_139 ?_
    obtain ⟨hi140, Hf⟩ := p_g_some Hf
    refine va_sld hx hb hX hbl hbA hS hi140 dL_law_140 ?_
    obtain ⟨hk_n0, Hf⟩ := p_g_some Hf
    obtain ⟨r141, T141, hq141, Hf⟩ := p_c_some Hf
    refine r_cV (n := 2) (As := [.int (xs ((y4_23 + 1) : Int32).toNatClampNeg), .int (xs ((y4_23 + 2) : Int32).toNatClampNeg)]) (rest := []) ⟨hx, hb, hml, hown, hts⟩ (s_X8_below l X hq141) lkm_L_23 (by decide +kernel) rfl (by decide) dL_law_141 rfl rfl ⟨Nat.le_of_ble_eq_true rfl, Nat.le_of_ble_eq_true rfl⟩ hk_n0 rfl hl.1 (Nat.le_of_ble_eq_true rfl) ⟨by show _ ≤ 601024; omega, by show _ ≤ 7293034; omega⟩ hK hRO hA hP hS (fun H locs hP hS => ?_)
    refine W.eq (g2 := F0 m 144 ls [.int r141]) rfl ?_
    refine lv_aload_n hx hb dL_law_144 rfl (lv_at hl 2 rfl) ?_
    refine lv_aload_n hx hb dL_law_145 rfl (lv_at hl 0 rfl) ?_
    refine lv_iload hx hb dL_law_146 (lv_at hl 4 rfl) ?_
    refine lv_iconst (v := 1) hx hb dL_law_148 (by decide) ?_
    refine lv_iadd hx hb dL_law_149 ?_
    obtain ⟨hi150, Hf⟩ := p_g_some Hf
    refine va_sld hx hb hX hbl hbA hS hi150 dL_law_150 ?_
    refine lv_aload_n hx hb dL_law_151 rfl (lv_at hl 0 rfl) ?_
    refine lv_iload hx hb dL_law_152 (lv_at hl 4 rfl) ?_
    refine lv_iconst (v := 2) hx hb dL_law_154 (by decide) ?_
    refine lv_iadd hx hb dL_law_155 ?_
    obtain ⟨hi156, Hf⟩ := p_g_some Hf
    refine va_sld hx hb hX hbl hbA hS hi156 dL_law_156 ?_
    obtain ⟨hk_n8, Hf⟩ := p_g_some Hf
    obtain ⟨r157, T157, hq157, Hf⟩ := p_c_some Hf
    refine r_cV (n := 2) (As := [.int (xs ((y4_23 + 1) : Int32).toNatClampNeg), .int (xs ((y4_23 + 2) : Int32).toNatClampNeg)]) (rest := [.int r141]) ⟨hx, hb, hml, hown, hts⟩ (s_X9_below l X hq157) lkm_L_27 (by decide +kernel) rfl (by decide) dL_law_157 rfl rfl ⟨Nat.le_of_ble_eq_true rfl, Nat.le_of_ble_eq_true rfl⟩ hk_n8 rfl hl.1 (Nat.le_of_ble_eq_true rfl) ⟨by show _ ≤ 601024; omega, by show _ ≤ 7293034; omega⟩ hK hRO hA hP hS (fun H locs hP hS => ?_)
    refine W.eq (g2 := F0 m 160 ls [.int r157, .int r141]) rfl ?_
    refine lv_icmp_eq hx hb dL_law_160 (tgt := 1034) (by decide) (fun hc => ?_) (fun hc => ?_)
    · have Hf := p_i_t Hf hc
      refine W.widen (k := (55 + 12 * k + 8)) (n := (31858 + 4000 * k + 3500)) (by omega) (by omega) ?_
      exact hJ1034 T157 Hf _ _ _ hP hS (lv_sub hl [0, 1, 2, 3, 4] rfl)
    have Hf := p_i_f Hf hc
    refine lv_iconst (v := 0) hx hb dL_law_163 (by decide) ?_
    exact absurd Hf (by decide)
  have Hf := p_i_f Hf hs0
  by_cases hs1 : ((xs (y4_23 : Int32).toNatClampNeg) &&& 31) = 1
  · have Hf := p_i_t Hf hs1
    refine lv_tableIn hx hb dL_law_40 (by rw [hs1]; decide) (by rw [hs1]; decide) (off := 125) (by rw [hs1]; rfl) (tgt := 165) (by decide) ?_
    refine lv_aload_n hx hb dL_law_165 rfl (lv_at hl 1 rfl) ?_
    refine lv_aload_n hx hb dL_law_166 rfl (lv_at hl 0 rfl) ?_
    refine lv_iload hx hb dL_law_167 (lv_at hl 4 rfl) ?_
    refine lv_iconst (v := 1) hx hb dL_law_169 (by decide) ?_
    refine lv_iadd hx hb dL_law_170 ?_
    obtain ⟨hi171, Hf⟩ := p_g_some Hf
    refine va_sld hx hb hX hbl hbA hS hi171 dL_law_171 ?_
    refine lv_aload_n hx hb dL_law_172 rfl (lv_at hl 0 rfl) ?_
    refine lv_iload hx hb dL_law_173 (lv_at hl 4 rfl) ?_
    refine lv_iconst (v := 2) hx hb dL_law_175 (by decide) ?_
    refine lv_iadd hx hb dL_law_176 ?_
    obtain ⟨hi177, Hf⟩ := p_g_some Hf
    refine va_sld hx hb hX hbl hbA hS hi177 dL_law_177 ?_
    refine lv_aload_n hx hb dL_law_178 rfl (lv_at hl 0 rfl) ?_
    refine lv_iload hx hb dL_law_179 (lv_at hl 4 rfl) ?_
    refine lv_iconst (v := 3) hx hb dL_law_181 (by decide) ?_
    refine lv_iadd hx hb dL_law_182 ?_
    obtain ⟨hi183, Hf⟩ := p_g_some Hf
    refine va_sld hx hb hX hbl hbA hS hi183 dL_law_183 ?_
    refine lv_aload_n hx hb dL_law_184 rfl (lv_at hl 0 rfl) ?_
    refine lv_iload hx hb dL_law_185 (lv_at hl 4 rfl) ?_
    refine lv_iconst (v := 4) hx hb dL_law_187 (by decide) ?_
    refine lv_iadd hx hb dL_law_188 ?_
    obtain ⟨hi189, Hf⟩ := p_g_some Hf
    refine va_sld hx hb hX hbl hbA hS hi189 dL_law_189 ?_
    obtain ⟨hk_n0, Hf⟩ := p_g_some Hf
    obtain ⟨r190, T190, hq190, Hf⟩ := p_c_some Hf
    refine r_cV (n := 4) (As := [.int (xs ((y4_23 + 1) : Int32).toNatClampNeg), .int (xs ((y4_23 + 2) : Int32).toNatClampNeg), .int (xs ((y4_23 + 3) : Int32).toNatClampNeg), .int (xs ((y4_23 + 4) : Int32).toNatClampNeg)]) (rest := []) ⟨hx, hb, hml, hown, hts⟩ (s_X8_diary l X hq190) lkm_L_28 (by decide +kernel) rfl (by decide) dL_law_190 rfl rfl ⟨Nat.le_of_ble_eq_true rfl, Nat.le_of_ble_eq_true rfl⟩ hk_n0 rfl hl.1 (Nat.le_of_ble_eq_true rfl) ⟨by show _ ≤ 601024; omega, by show _ ≤ 7293034; omega⟩ hK hRO hA hP hS (fun H locs hP hS => ?_)
    refine W.eq (g2 := F0 m 193 ls [.int r190]) rfl ?_
    refine lv_aload_n hx hb dL_law_193 rfl (lv_at hl 2 rfl) ?_
    refine lv_aload_n hx hb dL_law_194 rfl (lv_at hl 0 rfl) ?_
    refine lv_iload hx hb dL_law_195 (lv_at hl 4 rfl) ?_
    refine lv_iconst (v := 1) hx hb dL_law_197 (by decide) ?_
    refine lv_iadd hx hb dL_law_198 ?_
    obtain ⟨hi199, Hf⟩ := p_g_some Hf
    refine va_sld hx hb hX hbl hbA hS hi199 dL_law_199 ?_
    refine lv_aload_n hx hb dL_law_200 rfl (lv_at hl 0 rfl) ?_
    refine lv_iload hx hb dL_law_201 (lv_at hl 4 rfl) ?_
    refine lv_iconst (v := 2) hx hb dL_law_203 (by decide) ?_
    refine lv_iadd hx hb dL_law_204 ?_
    obtain ⟨hi205, Hf⟩ := p_g_some Hf
    refine va_sld hx hb hX hbl hbA hS hi205 dL_law_205 ?_
    refine lv_aload_n hx hb dL_law_206 rfl (lv_at hl 0 rfl) ?_
    refine lv_iload hx hb dL_law_207 (lv_at hl 4 rfl) ?_
    refine lv_iconst (v := 3) hx hb dL_law_209 (by decide) ?_
    refine lv_iadd hx hb dL_law_210 ?_
    obtain ⟨hi211, Hf⟩ := p_g_some Hf
    refine va_sld hx hb hX hbl hbA hS hi211 dL_law_211 ?_
    refine lv_aload_n hx hb dL_law_212 rfl (lv_at hl 0 rfl) ?_
    refine lv_iload hx hb dL_law_213 (lv_at hl 4 rfl) ?_
    refine lv_iconst (v := 4) hx hb dL_law_215 (by decide) ?_
    refine lv_iadd hx hb dL_law_216 ?_
    obtain ⟨hi217, Hf⟩ := p_g_some Hf
    refine va_sld hx hb hX hbl hbA hS hi217 dL_law_217 ?_
    obtain ⟨hk_n8, Hf⟩ := p_g_some Hf
    obtain ⟨r218, T218, hq218, Hf⟩ := p_c_some Hf
    refine r_cV (n := 4) (As := [.int (xs ((y4_23 + 1) : Int32).toNatClampNeg), .int (xs ((y4_23 + 2) : Int32).toNatClampNeg), .int (xs ((y4_23 + 3) : Int32).toNatClampNeg), .int (xs ((y4_23 + 4) : Int32).toNatClampNeg)]) (rest := [.int r190]) ⟨hx, hb, hml, hown, hts⟩ (s_X9_diary l X hq218) lkm_L_32 (by decide +kernel) rfl (by decide) dL_law_218 rfl rfl ⟨Nat.le_of_ble_eq_true rfl, Nat.le_of_ble_eq_true rfl⟩ hk_n8 rfl hl.1 (Nat.le_of_ble_eq_true rfl) ⟨by show _ ≤ 601024; omega, by show _ ≤ 7293034; omega⟩ hK hRO hA hP hS (fun H locs hP hS => ?_)
    refine W.eq (g2 := F0 m 221 ls [.int r218, .int r190]) rfl ?_
    refine lv_icmp_eq hx hb dL_law_221 (tgt := 1034) (by decide) (fun hc => ?_) (fun hc => ?_)
    · have Hf := p_i_t Hf hc
      refine W.widen (k := (55 + 12 * k + 8)) (n := (31858 + 4000 * k + 3500)) (by omega) (by omega) ?_
      exact hJ1034 T218 Hf _ _ _ hP hS (lv_sub hl [0, 1, 2, 3, 4] rfl)
    have Hf := p_i_f Hf hc
    refine lv_iconst (v := 0) hx hb dL_law_224 (by decide) ?_
    exact absurd Hf (by decide)
  have Hf := p_i_f Hf hs1
  by_cases hs2 : ((xs (y4_23 : Int32).toNatClampNeg) &&& 31) = 2
  · have Hf := p_i_t Hf hs2
    refine lv_tableIn hx hb dL_law_40 (by rw [hs2]; decide) (by rw [hs2]; decide) (off := 186) (by rw [hs2]; rfl) (tgt := 226) (by decide) ?_
    refine lv_aload_n hx hb dL_law_226 rfl (lv_at hl 1 rfl) ?_
    refine lv_aload_n hx hb dL_law_227 rfl (lv_at hl 0 rfl) ?_
    refine lv_iload hx hb dL_law_228 (lv_at hl 4 rfl) ?_
    refine lv_iconst (v := 1) hx hb dL_law_230 (by decide) ?_
    refine lv_iadd hx hb dL_law_231 ?_
    obtain ⟨hi232, Hf⟩ := p_g_some Hf
    refine va_sld hx hb hX hbl hbA hS hi232 dL_law_232 ?_
    refine lv_aload_n hx hb dL_law_233 rfl (lv_at hl 0 rfl) ?_
    refine lv_iload hx hb dL_law_234 (lv_at hl 4 rfl) ?_
    refine lv_iconst (v := 2) hx hb dL_law_236 (by decide) ?_
    refine lv_iadd hx hb dL_law_237 ?_
    obtain ⟨hi238, Hf⟩ := p_g_some Hf
    refine va_sld hx hb hX hbl hbA hS hi238 dL_law_238 ?_
    refine lv_aload_n hx hb dL_law_239 rfl (lv_at hl 0 rfl) ?_
    refine lv_iload hx hb dL_law_240 (lv_at hl 4 rfl) ?_
    refine lv_iconst (v := 3) hx hb dL_law_242 (by decide) ?_
    refine lv_iadd hx hb dL_law_243 ?_
    obtain ⟨hi244, Hf⟩ := p_g_some Hf
    refine va_sld hx hb hX hbl hbA hS hi244 dL_law_244 ?_
    refine lv_aload_n hx hb dL_law_245 rfl (lv_at hl 0 rfl) ?_
    refine lv_iload hx hb dL_law_246 (lv_at hl 4 rfl) ?_
    refine lv_iconst (v := 4) hx hb dL_law_248 (by decide) ?_
    refine lv_iadd hx hb dL_law_249 ?_
    obtain ⟨hi250, Hf⟩ := p_g_some Hf
    refine va_sld hx hb hX hbl hbA hS hi250 dL_law_250 ?_
    refine lv_aload_n hx hb dL_law_251 rfl (lv_at hl 0 rfl) ?_
    refine lv_iload hx hb dL_law_252 (lv_at hl 4 rfl) ?_
    refine lv_iconst (v := 5) hx hb dL_law_254 (by decide) ?_
    refine lv_iadd hx hb dL_law_255 ?_
    obtain ⟨hi256, Hf⟩ := p_g_some Hf
    refine va_sld hx hb hX hbl hbA hS hi256 dL_law_256 ?_
    refine lv_aload_n hx hb dL_law_257 rfl (lv_at hl 0 rfl) ?_
    refine lv_iload hx hb dL_law_258 (lv_at hl 4 rfl) ?_
    refine lv_bipush (v := 6) hx hb dL_law_260 (by decide) ?_
    refine lv_iadd hx hb dL_law_262 ?_
    obtain ⟨hi263, Hf⟩ := p_g_some Hf
    refine va_sld hx hb hX hbl hbA hS hi263 dL_law_263 ?_
    refine lv_aload_n hx hb dL_law_264 rfl (lv_at hl 0 rfl) ?_
    refine lv_iload hx hb dL_law_265 (lv_at hl 4 rfl) ?_
    refine lv_bipush (v := 7) hx hb dL_law_267 (by decide) ?_
    refine lv_iadd hx hb dL_law_269 ?_
    obtain ⟨hi270, Hf⟩ := p_g_some Hf
    refine va_sld hx hb hX hbl hbA hS hi270 dL_law_270 ?_
    obtain ⟨hk_n0, Hf⟩ := p_g_some Hf
    obtain ⟨r271, T271, hq271, Hf⟩ := p_c_some Hf
    refine r_cV (n := 7) (As := [.int (xs ((y4_23 + 1) : Int32).toNatClampNeg), .int (xs ((y4_23 + 2) : Int32).toNatClampNeg), .int (xs ((y4_23 + 3) : Int32).toNatClampNeg), .int (xs ((y4_23 + 4) : Int32).toNatClampNeg), .int (xs ((y4_23 + 5) : Int32).toNatClampNeg), .int (xs ((y4_23 + 6) : Int32).toNatClampNeg), .int (xs ((y4_23 + 7) : Int32).toNatClampNeg)]) (rest := []) ⟨hx, hb, hml, hown, hts⟩ (s_X8_line l X hq271) lkm_L_33 (by decide +kernel) rfl (by decide) dL_law_271 rfl rfl ⟨Nat.le_of_ble_eq_true rfl, Nat.le_of_ble_eq_true rfl⟩ hk_n0 rfl hl.1 (Nat.le_of_ble_eq_true rfl) ⟨by show _ ≤ 601024; omega, by show _ ≤ 7293034; omega⟩ hK hRO hA hP hS (fun H locs hP hS => ?_)
    refine W.eq (g2 := F0 m 274 ls [.int r271]) rfl ?_
    refine lv_aload_n hx hb dL_law_274 rfl (lv_at hl 2 rfl) ?_
    refine lv_aload_n hx hb dL_law_275 rfl (lv_at hl 0 rfl) ?_
    refine lv_iload hx hb dL_law_276 (lv_at hl 4 rfl) ?_
    refine lv_iconst (v := 1) hx hb dL_law_278 (by decide) ?_
    refine lv_iadd hx hb dL_law_279 ?_
    obtain ⟨hi280, Hf⟩ := p_g_some Hf
    refine va_sld hx hb hX hbl hbA hS hi280 dL_law_280 ?_
    refine lv_aload_n hx hb dL_law_281 rfl (lv_at hl 0 rfl) ?_
    refine lv_iload hx hb dL_law_282 (lv_at hl 4 rfl) ?_
    refine lv_iconst (v := 2) hx hb dL_law_284 (by decide) ?_
    refine lv_iadd hx hb dL_law_285 ?_
    obtain ⟨hi286, Hf⟩ := p_g_some Hf
    refine va_sld hx hb hX hbl hbA hS hi286 dL_law_286 ?_
    refine lv_aload_n hx hb dL_law_287 rfl (lv_at hl 0 rfl) ?_
    refine lv_iload hx hb dL_law_288 (lv_at hl 4 rfl) ?_
    refine lv_iconst (v := 3) hx hb dL_law_290 (by decide) ?_
    refine lv_iadd hx hb dL_law_291 ?_
    obtain ⟨hi292, Hf⟩ := p_g_some Hf
    refine va_sld hx hb hX hbl hbA hS hi292 dL_law_292 ?_
    refine lv_aload_n hx hb dL_law_293 rfl (lv_at hl 0 rfl) ?_
    refine lv_iload hx hb dL_law_294 (lv_at hl 4 rfl) ?_
    refine lv_iconst (v := 4) hx hb dL_law_296 (by decide) ?_
    refine lv_iadd hx hb dL_law_297 ?_
    obtain ⟨hi298, Hf⟩ := p_g_some Hf
    refine va_sld hx hb hX hbl hbA hS hi298 dL_law_298 ?_
    refine lv_aload_n hx hb dL_law_299 rfl (lv_at hl 0 rfl) ?_
    refine lv_iload hx hb dL_law_300 (lv_at hl 4 rfl) ?_
    refine lv_iconst (v := 5) hx hb dL_law_302 (by decide) ?_
    refine lv_iadd hx hb dL_law_303 ?_
    obtain ⟨hi304, Hf⟩ := p_g_some Hf
    refine va_sld hx hb hX hbl hbA hS hi304 dL_law_304 ?_
    refine lv_aload_n hx hb dL_law_305 rfl (lv_at hl 0 rfl) ?_
    refine lv_iload hx hb dL_law_306 (lv_at hl 4 rfl) ?_
    refine lv_bipush (v := 6) hx hb dL_law_308 (by decide) ?_
    refine lv_iadd hx hb dL_law_310 ?_
    obtain ⟨hi311, Hf⟩ := p_g_some Hf
    refine va_sld hx hb hX hbl hbA hS hi311 dL_law_311 ?_
    refine lv_aload_n hx hb dL_law_312 rfl (lv_at hl 0 rfl) ?_
    refine lv_iload hx hb dL_law_313 (lv_at hl 4 rfl) ?_
    refine lv_bipush (v := 7) hx hb dL_law_315 (by decide) ?_
    refine lv_iadd hx hb dL_law_317 ?_
    obtain ⟨hi318, Hf⟩ := p_g_some Hf
    refine va_sld hx hb hX hbl hbA hS hi318 dL_law_318 ?_
    obtain ⟨hk_n8, Hf⟩ := p_g_some Hf
    obtain ⟨r319, T319, hq319, Hf⟩ := p_c_some Hf
    refine r_cV (n := 7) (As := [.int (xs ((y4_23 + 1) : Int32).toNatClampNeg), .int (xs ((y4_23 + 2) : Int32).toNatClampNeg), .int (xs ((y4_23 + 3) : Int32).toNatClampNeg), .int (xs ((y4_23 + 4) : Int32).toNatClampNeg), .int (xs ((y4_23 + 5) : Int32).toNatClampNeg), .int (xs ((y4_23 + 6) : Int32).toNatClampNeg), .int (xs ((y4_23 + 7) : Int32).toNatClampNeg)]) (rest := [.int r271]) ⟨hx, hb, hml, hown, hts⟩ (s_X9_line l X hq319) lkm_L_37 (by decide +kernel) rfl (by decide) dL_law_319 rfl rfl ⟨Nat.le_of_ble_eq_true rfl, Nat.le_of_ble_eq_true rfl⟩ hk_n8 rfl hl.1 (Nat.le_of_ble_eq_true rfl) ⟨by show _ ≤ 601024; omega, by show _ ≤ 7293034; omega⟩ hK hRO hA hP hS (fun H locs hP hS => ?_)
    refine W.eq (g2 := F0 m 322 ls [.int r319, .int r271]) rfl ?_
    refine lv_icmp_eq hx hb dL_law_322 (tgt := 1034) (by decide) (fun hc => ?_) (fun hc => ?_)
    · have Hf := p_i_t Hf hc
      refine W.widen (k := (55 + 12 * k + 8)) (n := (31858 + 4000 * k + 3500)) (by omega) (by omega) ?_
      exact hJ1034 T319 Hf _ _ _ hP hS (lv_sub hl [0, 1, 2, 3, 4] rfl)
    have Hf := p_i_f Hf hc
    refine lv_iconst (v := 0) hx hb dL_law_325 (by decide) ?_
    exact absurd Hf (by decide)
  have Hf := p_i_f Hf hs2
  by_cases hs3 : ((xs (y4_23 : Int32).toNatClampNeg) &&& 31) = 3
  · have Hf := p_i_t Hf hs3
    refine lv_tableIn hx hb dL_law_40 (by rw [hs3]; decide) (by rw [hs3]; decide) (off := 287) (by rw [hs3]; rfl) (tgt := 327) (by decide) ?_
    refine lv_aload_n hx hb dL_law_327 rfl (lv_at hl 1 rfl) ?_
    refine lv_aload_n hx hb dL_law_328 rfl (lv_at hl 0 rfl) ?_
    refine lv_iload hx hb dL_law_329 (lv_at hl 4 rfl) ?_
    refine lv_iconst (v := 1) hx hb dL_law_331 (by decide) ?_
    refine lv_iadd hx hb dL_law_332 ?_
    obtain ⟨hi333, Hf⟩ := p_g_some Hf
    refine va_sld hx hb hX hbl hbA hS hi333 dL_law_333 ?_
    refine lv_i2l (v := ((xs ((y4_23 + 1) : Int32).toNatClampNeg) : Int32).toInt64) hx hb dL_law_334 rfl ?_
    refine lv_bipush (v := 32) hx hb dL_law_335 (by decide) ?_
    refine lv_lshl (v := ((((xs ((y4_23 + 1) : Int32).toNatClampNeg) : Int32).toInt64) <<< ((32 : Int32).toInt64 &&& 63))) hx hb dL_law_337 rfl ?_
    refine lv_aload_n hx hb dL_law_338 rfl (lv_at hl 0 rfl) ?_
    refine lv_iload hx hb dL_law_339 (lv_at hl 4 rfl) ?_
    refine lv_iconst (v := 2) hx hb dL_law_341 (by decide) ?_
    refine lv_iadd hx hb dL_law_342 ?_
    obtain ⟨hi343, Hf⟩ := p_g_some Hf
    refine va_sld hx hb hX hbl hbA hS hi343 dL_law_343 ?_
    refine lv_i2l (v := ((xs ((y4_23 + 2) : Int32).toNatClampNeg) : Int32).toInt64) hx hb dL_law_344 rfl ?_
    refine lv_ldc2 hx hb hown (hts _ lkc_L_38) dL_law_345 ?_
    refine lv_land hx hb dL_law_348 ?_
    refine lv_lor hx hb dL_law_349 ?_
    refine lv_aload_n hx hb dL_law_350 rfl (lv_at hl 0 rfl) ?_
    refine lv_iload hx hb dL_law_351 (lv_at hl 4 rfl) ?_
    refine lv_iconst (v := 3) hx hb dL_law_353 (by decide) ?_
    refine lv_iadd hx hb dL_law_354 ?_
    obtain ⟨hi355, Hf⟩ := p_g_some Hf
    refine va_sld hx hb hX hbl hbA hS hi355 dL_law_355 ?_
    refine lv_i2l (v := ((xs ((y4_23 + 3) : Int32).toNatClampNeg) : Int32).toInt64) hx hb dL_law_356 rfl ?_
    refine lv_bipush (v := 32) hx hb dL_law_357 (by decide) ?_
    refine lv_lshl (v := ((((xs ((y4_23 + 3) : Int32).toNatClampNeg) : Int32).toInt64) <<< ((32 : Int32).toInt64 &&& 63))) hx hb dL_law_359 rfl ?_
    refine lv_aload_n hx hb dL_law_360 rfl (lv_at hl 0 rfl) ?_
    refine lv_iload hx hb dL_law_361 (lv_at hl 4 rfl) ?_
    refine lv_iconst (v := 4) hx hb dL_law_363 (by decide) ?_
    refine lv_iadd hx hb dL_law_364 ?_
    obtain ⟨hi365, Hf⟩ := p_g_some Hf
    refine va_sld hx hb hX hbl hbA hS hi365 dL_law_365 ?_
    refine lv_i2l (v := ((xs ((y4_23 + 4) : Int32).toNatClampNeg) : Int32).toInt64) hx hb dL_law_366 rfl ?_
    refine lv_ldc2 hx hb hown (hts _ lkc_L_38) dL_law_367 ?_
    refine lv_land hx hb dL_law_370 ?_
    refine lv_lor hx hb dL_law_371 ?_
    refine lv_aload_n hx hb dL_law_372 rfl (lv_at hl 0 rfl) ?_
    refine lv_iload hx hb dL_law_373 (lv_at hl 4 rfl) ?_
    refine lv_iconst (v := 5) hx hb dL_law_375 (by decide) ?_
    refine lv_iadd hx hb dL_law_376 ?_
    obtain ⟨hi377, Hf⟩ := p_g_some Hf
    refine va_sld hx hb hX hbl hbA hS hi377 dL_law_377 ?_
    refine lv_i2l (v := ((xs ((y4_23 + 5) : Int32).toNatClampNeg) : Int32).toInt64) hx hb dL_law_378 rfl ?_
    refine lv_bipush (v := 32) hx hb dL_law_379 (by decide) ?_
    refine lv_lshl (v := ((((xs ((y4_23 + 5) : Int32).toNatClampNeg) : Int32).toInt64) <<< ((32 : Int32).toInt64 &&& 63))) hx hb dL_law_381 rfl ?_
    refine lv_aload_n hx hb dL_law_382 rfl (lv_at hl 0 rfl) ?_
    refine lv_iload hx hb dL_law_383 (lv_at hl 4 rfl) ?_
    refine lv_bipush (v := 6) hx hb dL_law_385 (by decide) ?_
    refine lv_iadd hx hb dL_law_387 ?_
    obtain ⟨hi388, Hf⟩ := p_g_some Hf
    refine va_sld hx hb hX hbl hbA hS hi388 dL_law_388 ?_
    refine lv_i2l (v := ((xs ((y4_23 + 6) : Int32).toNatClampNeg) : Int32).toInt64) hx hb dL_law_389 rfl ?_
    refine lv_ldc2 hx hb hown (hts _ lkc_L_38) dL_law_390 ?_
    refine lv_land hx hb dL_law_393 ?_
    refine lv_lor hx hb dL_law_394 ?_
    obtain ⟨hk_n0, Hf⟩ := p_g_some Hf
    obtain ⟨r395, T395, hq395, Hf⟩ := p_c_some Hf
    refine r_cV (n := 3) (As := [.long (((((xs ((y4_23 + 1) : Int32).toNatClampNeg) : Int32).toInt64) <<< ((32 : Int32).toInt64 &&& 63)) ||| ((((xs ((y4_23 + 2) : Int32).toNatClampNeg) : Int32).toInt64) &&& 4294967295)), .long (((((xs ((y4_23 + 3) : Int32).toNatClampNeg) : Int32).toInt64) <<< ((32 : Int32).toInt64 &&& 63)) ||| ((((xs ((y4_23 + 4) : Int32).toNatClampNeg) : Int32).toInt64) &&& 4294967295)), .long (((((xs ((y4_23 + 5) : Int32).toNatClampNeg) : Int32).toInt64) <<< ((32 : Int32).toInt64 &&& 63)) ||| ((((xs ((y4_23 + 6) : Int32).toNatClampNeg) : Int32).toInt64) &&& 4294967295))]) (rest := []) ⟨hx, hb, hml, hown, hts⟩ (s_X8_feed l X hq395) lkm_L_40 (by decide +kernel) rfl (by decide) dL_law_395 rfl rfl ⟨Nat.le_of_ble_eq_true rfl, Nat.le_of_ble_eq_true rfl⟩ hk_n0 rfl hl.1 (Nat.le_of_ble_eq_true rfl) ⟨by show _ ≤ 601024; omega, by show _ ≤ 7293034; omega⟩ hK hRO hA hP hS (fun H locs hP hS => ?_)
    refine W.eq (g2 := F0 m 398 ls [.int r395]) rfl ?_
    refine lv_aload_n hx hb dL_law_398 rfl (lv_at hl 2 rfl) ?_
    refine lv_aload_n hx hb dL_law_399 rfl (lv_at hl 0 rfl) ?_
    refine lv_iload hx hb dL_law_400 (lv_at hl 4 rfl) ?_
    refine lv_iconst (v := 1) hx hb dL_law_402 (by decide) ?_
    refine lv_iadd hx hb dL_law_403 ?_
    obtain ⟨hi404, Hf⟩ := p_g_some Hf
    refine va_sld hx hb hX hbl hbA hS hi404 dL_law_404 ?_
    refine lv_i2l (v := ((xs ((y4_23 + 1) : Int32).toNatClampNeg) : Int32).toInt64) hx hb dL_law_405 rfl ?_
    refine lv_bipush (v := 32) hx hb dL_law_406 (by decide) ?_
    refine lv_lshl (v := ((((xs ((y4_23 + 1) : Int32).toNatClampNeg) : Int32).toInt64) <<< ((32 : Int32).toInt64 &&& 63))) hx hb dL_law_408 rfl ?_
    refine lv_aload_n hx hb dL_law_409 rfl (lv_at hl 0 rfl) ?_
    refine lv_iload hx hb dL_law_410 (lv_at hl 4 rfl) ?_
    refine lv_iconst (v := 2) hx hb dL_law_412 (by decide) ?_
    refine lv_iadd hx hb dL_law_413 ?_
    obtain ⟨hi414, Hf⟩ := p_g_some Hf
    refine va_sld hx hb hX hbl hbA hS hi414 dL_law_414 ?_
    refine lv_i2l (v := ((xs ((y4_23 + 2) : Int32).toNatClampNeg) : Int32).toInt64) hx hb dL_law_415 rfl ?_
    refine lv_ldc2 hx hb hown (hts _ lkc_L_38) dL_law_416 ?_
    refine lv_land hx hb dL_law_419 ?_
    refine lv_lor hx hb dL_law_420 ?_
    refine lv_aload_n hx hb dL_law_421 rfl (lv_at hl 0 rfl) ?_
    refine lv_iload hx hb dL_law_422 (lv_at hl 4 rfl) ?_
    refine lv_iconst (v := 3) hx hb dL_law_424 (by decide) ?_
    refine lv_iadd hx hb dL_law_425 ?_
    obtain ⟨hi426, Hf⟩ := p_g_some Hf
    refine va_sld hx hb hX hbl hbA hS hi426 dL_law_426 ?_
    refine lv_i2l (v := ((xs ((y4_23 + 3) : Int32).toNatClampNeg) : Int32).toInt64) hx hb dL_law_427 rfl ?_
    refine lv_bipush (v := 32) hx hb dL_law_428 (by decide) ?_
    refine lv_lshl (v := ((((xs ((y4_23 + 3) : Int32).toNatClampNeg) : Int32).toInt64) <<< ((32 : Int32).toInt64 &&& 63))) hx hb dL_law_430 rfl ?_
    refine lv_aload_n hx hb dL_law_431 rfl (lv_at hl 0 rfl) ?_
    refine lv_iload hx hb dL_law_432 (lv_at hl 4 rfl) ?_
    refine lv_iconst (v := 4) hx hb dL_law_434 (by decide) ?_
    refine lv_iadd hx hb dL_law_435 ?_
    obtain ⟨hi436, Hf⟩ := p_g_some Hf
    refine va_sld hx hb hX hbl hbA hS hi436 dL_law_436 ?_
    refine lv_i2l (v := ((xs ((y4_23 + 4) : Int32).toNatClampNeg) : Int32).toInt64) hx hb dL_law_437 rfl ?_
    refine lv_ldc2 hx hb hown (hts _ lkc_L_38) dL_law_438 ?_
    refine lv_land hx hb dL_law_441 ?_
    refine lv_lor hx hb dL_law_442 ?_
    refine lv_aload_n hx hb dL_law_443 rfl (lv_at hl 0 rfl) ?_
    refine lv_iload hx hb dL_law_444 (lv_at hl 4 rfl) ?_
    refine lv_iconst (v := 5) hx hb dL_law_446 (by decide) ?_
    refine lv_iadd hx hb dL_law_447 ?_
    obtain ⟨hi448, Hf⟩ := p_g_some Hf
    refine va_sld hx hb hX hbl hbA hS hi448 dL_law_448 ?_
    refine lv_i2l (v := ((xs ((y4_23 + 5) : Int32).toNatClampNeg) : Int32).toInt64) hx hb dL_law_449 rfl ?_
    refine lv_bipush (v := 32) hx hb dL_law_450 (by decide) ?_
    refine lv_lshl (v := ((((xs ((y4_23 + 5) : Int32).toNatClampNeg) : Int32).toInt64) <<< ((32 : Int32).toInt64 &&& 63))) hx hb dL_law_452 rfl ?_
    refine lv_aload_n hx hb dL_law_453 rfl (lv_at hl 0 rfl) ?_
    refine lv_iload hx hb dL_law_454 (lv_at hl 4 rfl) ?_
    refine lv_bipush (v := 6) hx hb dL_law_456 (by decide) ?_
    refine lv_iadd hx hb dL_law_458 ?_
    obtain ⟨hi459, Hf⟩ := p_g_some Hf
    refine va_sld hx hb hX hbl hbA hS hi459 dL_law_459 ?_
    refine lv_i2l (v := ((xs ((y4_23 + 6) : Int32).toNatClampNeg) : Int32).toInt64) hx hb dL_law_460 rfl ?_
    refine lv_ldc2 hx hb hown (hts _ lkc_L_38) dL_law_461 ?_
    refine lv_land hx hb dL_law_464 ?_
    refine lv_lor hx hb dL_law_465 ?_
    obtain ⟨hk_n8, Hf⟩ := p_g_some Hf
    obtain ⟨r466, T466, hq466, Hf⟩ := p_c_some Hf
    refine r_cV (n := 3) (As := [.long (((((xs ((y4_23 + 1) : Int32).toNatClampNeg) : Int32).toInt64) <<< ((32 : Int32).toInt64 &&& 63)) ||| ((((xs ((y4_23 + 2) : Int32).toNatClampNeg) : Int32).toInt64) &&& 4294967295)), .long (((((xs ((y4_23 + 3) : Int32).toNatClampNeg) : Int32).toInt64) <<< ((32 : Int32).toInt64 &&& 63)) ||| ((((xs ((y4_23 + 4) : Int32).toNatClampNeg) : Int32).toInt64) &&& 4294967295)), .long (((((xs ((y4_23 + 5) : Int32).toNatClampNeg) : Int32).toInt64) <<< ((32 : Int32).toInt64 &&& 63)) ||| ((((xs ((y4_23 + 6) : Int32).toNatClampNeg) : Int32).toInt64) &&& 4294967295))]) (rest := [.int r395]) ⟨hx, hb, hml, hown, hts⟩ (s_X9_feed l X hq466) lkm_L_44 (by decide +kernel) rfl (by decide) dL_law_466 rfl rfl ⟨Nat.le_of_ble_eq_true rfl, Nat.le_of_ble_eq_true rfl⟩ hk_n8 rfl hl.1 (Nat.le_of_ble_eq_true rfl) ⟨by show _ ≤ 601024; omega, by show _ ≤ 7293034; omega⟩ hK hRO hA hP hS (fun H locs hP hS => ?_)
    refine W.eq (g2 := F0 m 469 ls [.int r466, .int r395]) rfl ?_
    refine lv_icmp_eq hx hb dL_law_469 (tgt := 1034) (by decide) (fun hc => ?_) (fun hc => ?_)
    · have Hf := p_i_t Hf hc
      refine W.widen (k := (55 + 12 * k + 8)) (n := (31858 + 4000 * k + 3500)) (by omega) (by omega) ?_
      exact hJ1034 T466 Hf _ _ _ hP hS (lv_sub hl [0, 1, 2, 3, 4] rfl)
    have Hf := p_i_f Hf hc
    refine lv_iconst (v := 0) hx hb dL_law_472 (by decide) ?_
    exact absurd Hf (by decide)
  have Hf := p_i_f Hf hs3
  by_cases hs4 : ((xs (y4_23 : Int32).toNatClampNeg) &&& 31) = 4
  · have Hf := p_i_t Hf hs4
    refine lv_tableIn hx hb dL_law_40 (by rw [hs4]; decide) (by rw [hs4]; decide) (off := 434) (by rw [hs4]; rfl) (tgt := 474) (by decide) ?_
    refine lv_aload_n hx hb dL_law_474 rfl (lv_at hl 1 rfl) ?_
    obtain ⟨hk_n0, Hf⟩ := p_g_some Hf
    obtain ⟨r475, T475, hq475, Hf⟩ := p_c_some Hf
    refine r_cV (n := 0) (As := []) (rest := []) ⟨hx, hb, hml, hown, hts⟩ (s_X8_text l X hq475) lkm_L_45 (by decide +kernel) rfl (by decide) dL_law_475 rfl rfl ⟨Nat.le_of_ble_eq_true rfl, Nat.le_of_ble_eq_true rfl⟩ hk_n0 rfl hl.1 (Nat.le_of_ble_eq_true rfl) ⟨by show _ ≤ 601024; omega, by show _ ≤ 7293034; omega⟩ hK hRO hA hP hS (fun H locs hP hS => ?_)
    refine W.eq (g2 := F0 m 478 ls [.int r475]) rfl ?_
    refine lv_aload_n hx hb dL_law_478 rfl (lv_at hl 2 rfl) ?_
    obtain ⟨hk_n8, Hf⟩ := p_g_some Hf
    obtain ⟨r479, T479, hq479, Hf⟩ := p_c_some Hf
    refine r_cV (n := 0) (As := []) (rest := [.int r475]) ⟨hx, hb, hml, hown, hts⟩ (s_X9_text l X hq479) lkm_L_49 (by decide +kernel) rfl (by decide) dL_law_479 rfl rfl ⟨Nat.le_of_ble_eq_true rfl, Nat.le_of_ble_eq_true rfl⟩ hk_n8 rfl hl.1 (Nat.le_of_ble_eq_true rfl) ⟨by show _ ≤ 601024; omega, by show _ ≤ 7293034; omega⟩ hK hRO hA hP hS (fun H locs hP hS => ?_)
    refine W.eq (g2 := F0 m 482 ls [.int r479, .int r475]) rfl ?_
    refine lv_icmp_eq hx hb dL_law_482 (tgt := 1034) (by decide) (fun hc => ?_) (fun hc => ?_)
    · have Hf := p_i_t Hf hc
      refine W.widen (k := (55 + 12 * k + 8)) (n := (31858 + 4000 * k + 3500)) (by omega) (by omega) ?_
      exact hJ1034 T479 Hf _ _ _ hP hS (lv_sub hl [0, 1, 2, 3, 4] rfl)
    have Hf := p_i_f Hf hc
    refine lv_iconst (v := 0) hx hb dL_law_485 (by decide) ?_
    exact absurd Hf (by decide)
  have Hf := p_i_f Hf hs4
  by_cases hs5 : ((xs (y4_23 : Int32).toNatClampNeg) &&& 31) = 5
  · have Hf := p_i_t Hf hs5
    refine lv_tableIn hx hb dL_law_40 (by rw [hs5]; decide) (by rw [hs5]; decide) (off := 447) (by rw [hs5]; rfl) (tgt := 487) (by decide) ?_
    refine lv_aload_n hx hb dL_law_487 rfl (lv_at hl 1 rfl) ?_
    refine lv_aload_n hx hb dL_law_488 rfl (lv_at hl 0 rfl) ?_
    refine lv_iload hx hb dL_law_489 (lv_at hl 4 rfl) ?_
    refine lv_iconst (v := 1) hx hb dL_law_491 (by decide) ?_
    refine lv_iadd hx hb dL_law_492 ?_
    obtain ⟨hi493, Hf⟩ := p_g_some Hf
    refine va_sld hx hb hX hbl hbA hS hi493 dL_law_493 ?_
    obtain ⟨hk_n0, Hf⟩ := p_g_some Hf
    obtain ⟨r494, T494, hq494, Hf⟩ := p_c_some Hf
    refine r_cV (n := 1) (As := [.int (xs ((y4_23 + 1) : Int32).toNatClampNeg)]) (rest := []) ⟨hx, hb, hml, hown, hts⟩ (s_X8_choose l X hq494) lkm_L_50 (by decide +kernel) rfl (by decide) dL_law_494 rfl rfl ⟨Nat.le_of_ble_eq_true rfl, Nat.le_of_ble_eq_true rfl⟩ hk_n0 rfl hl.1 (Nat.le_of_ble_eq_true rfl) ⟨by show _ ≤ 601024; omega, by show _ ≤ 7293034; omega⟩ hK hRO hA hP hS (fun H locs hP hS => ?_)
    refine W.eq (g2 := F0 m 497 ls [.int r494]) rfl ?_
    refine lv_aload_n hx hb dL_law_497 rfl (lv_at hl 2 rfl) ?_
    refine lv_aload_n hx hb dL_law_498 rfl (lv_at hl 0 rfl) ?_
    refine lv_iload hx hb dL_law_499 (lv_at hl 4 rfl) ?_
    refine lv_iconst (v := 1) hx hb dL_law_501 (by decide) ?_
    refine lv_iadd hx hb dL_law_502 ?_
    obtain ⟨hi503, Hf⟩ := p_g_some Hf
    refine va_sld hx hb hX hbl hbA hS hi503 dL_law_503 ?_
    obtain ⟨hk_n8, Hf⟩ := p_g_some Hf
    obtain ⟨r504, T504, hq504, Hf⟩ := p_c_some Hf
    refine r_cV (n := 1) (As := [.int (xs ((y4_23 + 1) : Int32).toNatClampNeg)]) (rest := [.int r494]) ⟨hx, hb, hml, hown, hts⟩ (s_X9_choose l X hq504) lkm_L_54 (by decide +kernel) rfl (by decide) dL_law_504 rfl rfl ⟨Nat.le_of_ble_eq_true rfl, Nat.le_of_ble_eq_true rfl⟩ hk_n8 rfl hl.1 (Nat.le_of_ble_eq_true rfl) ⟨by show _ ≤ 601024; omega, by show _ ≤ 7293034; omega⟩ hK hRO hA hP hS (fun H locs hP hS => ?_)
    refine W.eq (g2 := F0 m 507 ls [.int r504, .int r494]) rfl ?_
    refine lv_icmp_eq hx hb dL_law_507 (tgt := 1034) (by decide) (fun hc => ?_) (fun hc => ?_)
    · have Hf := p_i_t Hf hc
      refine W.widen (k := (55 + 12 * k + 8)) (n := (31858 + 4000 * k + 3500)) (by omega) (by omega) ?_
      exact hJ1034 T504 Hf _ _ _ hP hS (lv_sub hl [0, 1, 2, 3, 4] rfl)
    have Hf := p_i_f Hf hc
    refine lv_iconst (v := 0) hx hb dL_law_510 (by decide) ?_
    exact absurd Hf (by decide)
  have Hf := p_i_f Hf hs5
  by_cases hs6 : ((xs (y4_23 : Int32).toNatClampNeg) &&& 31) = 6
  · have Hf := p_i_t Hf hs6
    refine lv_tableIn hx hb dL_law_40 (by rw [hs6]; decide) (by rw [hs6]; decide) (off := 472) (by rw [hs6]; rfl) (tgt := 512) (by decide) ?_
    refine lv_aload_n hx hb dL_law_512 rfl (lv_at hl 1 rfl) ?_
    refine lv_aload_n hx hb dL_law_513 rfl (lv_at hl 0 rfl) ?_
    refine lv_iload hx hb dL_law_514 (lv_at hl 4 rfl) ?_
    refine lv_iconst (v := 1) hx hb dL_law_516 (by decide) ?_
    refine lv_iadd hx hb dL_law_517 ?_
    obtain ⟨hi518, Hf⟩ := p_g_some Hf
    refine va_sld hx hb hX hbl hbA hS hi518 dL_law_518 ?_
    refine lv_aload_n hx hb dL_law_519 rfl (lv_at hl 0 rfl) ?_
    refine lv_iload hx hb dL_law_520 (lv_at hl 4 rfl) ?_
    refine lv_iconst (v := 2) hx hb dL_law_522 (by decide) ?_
    refine lv_iadd hx hb dL_law_523 ?_
    obtain ⟨hi524, Hf⟩ := p_g_some Hf
    refine va_sld hx hb hX hbl hbA hS hi524 dL_law_524 ?_
    obtain ⟨hk_n0, Hf⟩ := p_g_some Hf
    obtain ⟨r525, T525, hq525, Hf⟩ := p_c_some Hf
    refine r_cV (n := 2) (As := [.int (xs ((y4_23 + 1) : Int32).toNatClampNeg), .int (xs ((y4_23 + 2) : Int32).toNatClampNeg)]) (rest := []) ⟨hx, hb, hml, hown, hts⟩ (s_X8_code l X hq525) lkm_L_55 (by decide +kernel) rfl (by decide) dL_law_525 rfl rfl ⟨Nat.le_of_ble_eq_true rfl, Nat.le_of_ble_eq_true rfl⟩ hk_n0 rfl hl.1 (Nat.le_of_ble_eq_true rfl) ⟨by show _ ≤ 601024; omega, by show _ ≤ 7293034; omega⟩ hK hRO hA hP hS (fun H locs hP hS => ?_)
    refine W.eq (g2 := F0 m 528 ls [.int r525]) rfl ?_
    refine lv_aload_n hx hb dL_law_528 rfl (lv_at hl 2 rfl) ?_
    refine lv_aload_n hx hb dL_law_529 rfl (lv_at hl 0 rfl) ?_
    refine lv_iload hx hb dL_law_530 (lv_at hl 4 rfl) ?_
    refine lv_iconst (v := 1) hx hb dL_law_532 (by decide) ?_
    refine lv_iadd hx hb dL_law_533 ?_
    obtain ⟨hi534, Hf⟩ := p_g_some Hf
    refine va_sld hx hb hX hbl hbA hS hi534 dL_law_534 ?_
    refine lv_aload_n hx hb dL_law_535 rfl (lv_at hl 0 rfl) ?_
    refine lv_iload hx hb dL_law_536 (lv_at hl 4 rfl) ?_
    refine lv_iconst (v := 2) hx hb dL_law_538 (by decide) ?_
    refine lv_iadd hx hb dL_law_539 ?_
    obtain ⟨hi540, Hf⟩ := p_g_some Hf
    refine va_sld hx hb hX hbl hbA hS hi540 dL_law_540 ?_
    obtain ⟨hk_n8, Hf⟩ := p_g_some Hf
    obtain ⟨r541, T541, hq541, Hf⟩ := p_c_some Hf
    refine r_cV (n := 2) (As := [.int (xs ((y4_23 + 1) : Int32).toNatClampNeg), .int (xs ((y4_23 + 2) : Int32).toNatClampNeg)]) (rest := [.int r525]) ⟨hx, hb, hml, hown, hts⟩ (s_X9_code l X hq541) lkm_L_58 (by decide +kernel) rfl (by decide) dL_law_541 rfl rfl ⟨Nat.le_of_ble_eq_true rfl, Nat.le_of_ble_eq_true rfl⟩ hk_n8 rfl hl.1 (Nat.le_of_ble_eq_true rfl) ⟨by show _ ≤ 601024; omega, by show _ ≤ 7293034; omega⟩ hK hRO hA hP hS (fun H locs hP hS => ?_)
    refine W.eq (g2 := F0 m 544 ls [.int r541, .int r525]) rfl ?_
    refine lv_icmp_eq hx hb dL_law_544 (tgt := 1034) (by decide) (fun hc => ?_) (fun hc => ?_)
    · have Hf := p_i_t Hf hc
      refine W.widen (k := (55 + 12 * k + 8)) (n := (31858 + 4000 * k + 3500)) (by omega) (by omega) ?_
      exact hJ1034 T541 Hf _ _ _ hP hS (lv_sub hl [0, 1, 2, 3, 4] rfl)
    have Hf := p_i_f Hf hc
    refine lv_iconst (v := 0) hx hb dL_law_547 (by decide) ?_
    exact absurd Hf (by decide)
  have Hf := p_i_f Hf hs6
  by_cases hs7 : ((xs (y4_23 : Int32).toNatClampNeg) &&& 31) = 7
  · have Hf := p_i_t Hf hs7
    refine lv_tableIn hx hb dL_law_40 (by rw [hs7]; decide) (by rw [hs7]; decide) (off := 509) (by rw [hs7]; rfl) (tgt := 549) (by decide) ?_
    refine lv_aload_n hx hb dL_law_549 rfl (lv_at hl 1 rfl) ?_
    refine lv_aload_n hx hb dL_law_550 rfl (lv_at hl 0 rfl) ?_
    refine lv_iload hx hb dL_law_551 (lv_at hl 4 rfl) ?_
    refine lv_iconst (v := 1) hx hb dL_law_553 (by decide) ?_
    refine lv_iadd hx hb dL_law_554 ?_
    obtain ⟨hi555, Hf⟩ := p_g_some Hf
    refine va_sld hx hb hX hbl hbA hS hi555 dL_law_555 ?_
    refine lv_aload_n hx hb dL_law_556 rfl (lv_at hl 0 rfl) ?_
    refine lv_iload hx hb dL_law_557 (lv_at hl 4 rfl) ?_
    refine lv_iconst (v := 2) hx hb dL_law_559 (by decide) ?_
    refine lv_iadd hx hb dL_law_560 ?_
    obtain ⟨hi561, Hf⟩ := p_g_some Hf
    refine va_sld hx hb hX hbl hbA hS hi561 dL_law_561 ?_
    refine lv_aload_n hx hb dL_law_562 rfl (lv_at hl 0 rfl) ?_
    refine lv_iload hx hb dL_law_563 (lv_at hl 4 rfl) ?_
    refine lv_iconst (v := 3) hx hb dL_law_565 (by decide) ?_
    refine lv_iadd hx hb dL_law_566 ?_
    obtain ⟨hi567, Hf⟩ := p_g_some Hf
    refine va_sld hx hb hX hbl hbA hS hi567 dL_law_567 ?_
    refine lv_aload_n hx hb dL_law_568 rfl (lv_at hl 3 rfl) ?_
    have hJ572 : ∀ (S572 : st_T) (u0_572 : Int32), j_L_law_572 L xs n8 n17 rec23 y4_23 S572 u0_572 → ∀ (H : Heap) (locs : List Loc) (ls : Array Slot), st_HP X AA S572 H → va_S AA s.heap H locs → lv_has ls 7 [(0, .ref bq), (1, .ref n0), (2, .ref n8), (3, .ref n17), (4, .int y4_23)] → W p l e room_1 s m #[Value.ref bq] below meth c H locs (55 + 12 * k + 8) (31858 + 4000 * k + 3500) (lw_Z below #[Value.ref bq] s) (F0 m 572 ls [.int u0_572]) := by
      intro S572 u0_572 Hf H locs ls hP hS hl
      unfold j_L_law_572 at Hf
      refine lv_istore (lv' := [(5, .int u0_572), (0, .ref bq), (1, .ref n0), (2, .ref n8), (3, .ref n17), (4, .int y4_23)]) hx hb dL_law_572 hl (by decide) rfl (fun ls hl => ?_)
      refine lv_aload_n hx hb dL_law_574 rfl (lv_at hl 3 rfl) ?_
      refine lv_aload_n hx hb dL_law_575 rfl (lv_at hl 1 rfl) ?_
      refine lv_iload hx hb dL_law_576 (lv_at hl 5 rfl) ?_
      refine lv_iconst (v := 1) hx hb dL_law_578 (by decide) ?_
      refine lv_iadd hx hb dL_law_579 ?_
      obtain ⟨hi580, Hf⟩ := p_g_some Hf
      refine va_sld hx hb hX hbl hbA hS hi580 dL_law_580 ?_
      refine lv_aload_n hx hb dL_law_581 rfl (lv_at hl 1 rfl) ?_
      refine lv_iload hx hb dL_law_582 (lv_at hl 5 rfl) ?_
      refine lv_iconst (v := 2) hx hb dL_law_584 (by decide) ?_
      refine lv_iadd hx hb dL_law_585 ?_
      obtain ⟨hi586, Hf⟩ := p_g_some Hf
      refine va_sld hx hb hX hbl hbA hS hi586 dL_law_586 ?_
      refine lv_aload_n hx hb dL_law_587 rfl (lv_at hl 1 rfl) ?_
      refine lv_iload hx hb dL_law_588 (lv_at hl 5 rfl) ?_
      refine lv_iconst (v := 3) hx hb dL_law_590 (by decide) ?_
      refine lv_iadd hx hb dL_law_591 ?_
      obtain ⟨hi592, Hf⟩ := p_g_some Hf
      refine va_sld hx hb hX hbl hbA hS hi592 dL_law_592 ?_
      obtain ⟨hk_n8, Hf⟩ := p_g_some Hf
      obtain ⟨r593, T593, hq593, Hf⟩ := p_c_some Hf
      refine r_cV (n := 3) (As := [.int (xs ((y4_23 + 1) : Int32).toNatClampNeg), .int (xs ((y4_23 + 2) : Int32).toNatClampNeg), .int (xs ((y4_23 + 3) : Int32).toNatClampNeg)]) (rest := []) ⟨hx, hb, hml, hown, hts⟩ (s_X9_look l X hq593) lkm_L_64 (by decide +kernel) rfl (by decide) dL_law_593 rfl rfl ⟨Nat.le_of_ble_eq_true rfl, Nat.le_of_ble_eq_true rfl⟩ hk_n8 rfl hl.1 (Nat.le_of_ble_eq_true rfl) ⟨by show _ ≤ 601024; omega, by show _ ≤ 7293034; omega⟩ hK hRO hA hP hS (fun H locs hP hS => ?_)
      refine W.eq (g2 := F0 m 596 ls [.int r593]) rfl ?_
      refine lv_istore (lv' := [(6, .int r593), (5, .int u0_572), (0, .ref bq), (1, .ref n0), (2, .ref n8), (3, .ref n17), (4, .int y4_23)]) hx hb dL_law_596 hl (by decide) rfl (fun ls hl => ?_)
      refine lv_aload_n hx hb dL_law_598 rfl (lv_at hl 4 rfl) ?_
      obtain ⟨hk_n8, Hf⟩ := p_g_some Hf
      obtain ⟨r599, T599, hq599, Hf⟩ := p_c_some Hf
      refine r_cV (n := 0) (As := []) (rest := []) ⟨hx, hb, hml, hown, hts⟩ (s_X9_thrown l X hq599) lkm_L_65 (by decide +kernel) rfl (by decide) dL_law_599 rfl rfl ⟨Nat.le_of_ble_eq_true rfl, Nat.le_of_ble_eq_true rfl⟩ hk_n8 rfl hl.1 (Nat.le_of_ble_eq_true rfl) ⟨by show _ ≤ 601024; omega, by show _ ≤ 7293034; omega⟩ hK hRO hA hP hS (fun H locs hP hS => ?_)
      refine W.eq (g2 := F0 m 602 ls [.int r599]) rfl ?_
      refine lv_iload hx hb dL_law_602 (lv_at hl 1 rfl) ?_
      refine lv_icmp_eq hx hb dL_law_604 (tgt := 609) (by decide) (fun hc => ?_) (fun hc => ?_)
      · have Hf := p_i_t Hf hc
        refine lv_iload hx hb dL_law_609 (lv_at hl 1 rfl) ?_
        have hJ626 : ∀ (S626 : st_T), j_L_law_626 rec23 y4_23 S626 → ∀ (H : Heap) (locs : List Loc) (ls : Array Slot), st_HP X AA S626 H → va_S AA s.heap H locs → lv_has ls 7 [(0, .ref bq), (1, .ref n0), (2, .ref n8), (3, .ref n17), (4, .int y4_23)] → W p l e room_1 s m #[Value.ref bq] below meth c H locs (55 + 12 * k + 8) (31858 + 4000 * k + 3500) (lw_Z below #[Value.ref bq] s) (F0 m 626 ls []) := by
          intro S626 Hf H locs ls hP hS hl
          unfold j_L_law_626 at Hf
          refine lv_goto hx hb dL_law_626 (tgt := 1034) (by decide) ?_
          refine W.widen (k := (55 + 12 * k + 8)) (n := (31858 + 4000 * k + 3500)) (by omega) (by omega) ?_
          exact hJ1034 S626 Hf _ _ _ hP hS (lv_sub hl [0, 1, 2, 3, 4] rfl)
        refine lv_if_ne hx hb dL_law_611 (tgt := 626) (by decide) (fun hc => ?_) (fun hc => ?_)
        · have Hf := p_i_f Hf hc
          refine W.widen (k := (55 + 12 * k + 8)) (n := (31858 + 4000 * k + 3500)) (by omega) (by omega) ?_
          exact hJ626 T599 Hf _ _ _ hP hS (lv_sub hl [2, 3, 4, 5, 6] rfl)
        have Hf := p_i_t Hf hc
        refine lv_aload_n hx hb dL_law_614 rfl (lv_at hl 5 rfl) ?_
        refine lv_iconst (v := 0) hx hb dL_law_615 (by decide) ?_
        obtain ⟨hk_n17, Hf⟩ := p_g_some Hf
        obtain ⟨hi616, Hf⟩ := p_g_some Hf
        refine r_lald hx hb hK hP hk_n17 hi616 dL_law_616 ?_
        refine lv_iload hx hb dL_law_617 (lv_at hl 0 rfl) ?_
        refine lv_i2l (v := (r593 : Int32).toInt64) hx hb dL_law_619 rfl ?_
        refine W.lcmp hx hb dL_law_620 ?_
        refine lv_if_eq hx hb dL_law_621 (tgt := 626) (by decide) (fun hc => ?_) (fun hc => ?_)
        · have Hf := p_i_t Hf hc
          refine W.widen (k := (55 + 12 * k + 8)) (n := (31858 + 4000 * k + 3500)) (by omega) (by omega) ?_
          exact hJ626 T599 Hf _ _ _ hP hS (lv_sub hl [2, 3, 4, 5, 6] rfl)
        have Hf := p_i_f Hf hc
        refine lv_iconst (v := 0) hx hb dL_law_624 (by decide) ?_
        exact absurd Hf (by decide)
      have Hf := p_i_f Hf hc
      refine lv_iconst (v := 0) hx hb dL_law_607 (by decide) ?_
      exact absurd Hf (by decide)
    rcases Hf with ⟨r569, T569, hq569, Hf⟩ | ⟨hk9, SE9, hq569, Hf⟩
    · refine r_cSW (n := 5) (As := [.ref n0, .int (xs ((y4_23 + 1) : Int32).toNatClampNeg), .int (xs ((y4_23 + 2) : Int32).toNatClampNeg), .int (xs ((y4_23 + 3) : Int32).toNatClampNeg), .ref n17]) (rest := []) ⟨hx, hb, hml, hown, hts⟩ (s_L_look l X hq569) (gi_W (lg_ps _ [867, 868, 64, 869] rfl (by decide +kernel))) (by decide +kernel) dL_law_569 rfl rfl ⟨Nat.le_of_ble_eq_true rfl, Nat.le_of_ble_eq_true rfl⟩ rfl hl.1 (Nat.le_of_ble_eq_true rfl) ⟨by show _ ≤ 601024; omega, by show _ ≤ 7293034; omega⟩ hK hRO hA hP hS (fun H locs hP hS => ?_)
      refine W.widen (k := (55 + 12 * k + 8)) (n := (31858 + 4000 * k + 3500)) (by omega) (by omega) ?_
      exact hJ572 T569 r569 Hf _ _ _ hP hS (lv_sub hl [0, 1, 2, 3, 4] rfl)
    refine r_cSW1 (n := 5) (As := [.ref n0, .int (xs ((y4_23 + 1) : Int32).toNatClampNeg), .int (xs ((y4_23 + 2) : Int32).toNatClampNeg), .int (xs ((y4_23 + 3) : Int32).toNatClampNeg), .ref n17]) (rest := []) ⟨hx, hb, hml, hown, hts⟩ (xs_L_look l hlt X hk9 hq569) (gi_W (lg_ps _ [867, 868, 64, 869] rfl (by decide +kernel))) (by decide +kernel) dL_law_569 rfl rfl ⟨Nat.le_of_ble_eq_true rfl, Nat.le_of_ble_eq_true rfl⟩ rfl hl.1 (Nat.le_of_ble_eq_true rfl) ⟨by show _ ≤ 601024; omega, by show _ ≤ 7293034; omega⟩ hK hRO hA hP hS (fun H locs hP hnx hS => ?_)
    refine W.widen (k := (55 + 12 * k + 8)) (n := (31858 + 4000 * k + 3500)) (by omega) (by omega) ?_
    exact hJ572 (st_sx SE9 H.size) 1 (Hf _ hnx) _ _ _ hP hS (lv_sub hl [0, 1, 2, 3, 4] rfl)
  have Hf := p_i_f Hf hs7
  by_cases hs8 : ((xs (y4_23 : Int32).toNatClampNeg) &&& 31) = 8
  · have Hf := p_i_t Hf hs8
    refine lv_tableIn hx hb dL_law_40 (by rw [hs8]; decide) (by rw [hs8]; decide) (off := 589) (by rw [hs8]; rfl) (tgt := 629) (by decide) ?_
    refine lv_aload_n hx hb dL_law_629 rfl (lv_at hl 1 rfl) ?_
    refine lv_aload_n hx hb dL_law_630 rfl (lv_at hl 0 rfl) ?_
    refine lv_iload hx hb dL_law_631 (lv_at hl 4 rfl) ?_
    refine lv_iconst (v := 1) hx hb dL_law_633 (by decide) ?_
    refine lv_iadd hx hb dL_law_634 ?_
    obtain ⟨hi635, Hf⟩ := p_g_some Hf
    refine va_sld hx hb hX hbl hbA hS hi635 dL_law_635 ?_
    refine lv_aload_n hx hb dL_law_636 rfl (lv_at hl 0 rfl) ?_
    refine lv_iload hx hb dL_law_637 (lv_at hl 4 rfl) ?_
    refine lv_iconst (v := 2) hx hb dL_law_639 (by decide) ?_
    refine lv_iadd hx hb dL_law_640 ?_
    obtain ⟨hi641, Hf⟩ := p_g_some Hf
    refine va_sld hx hb hX hbl hbA hS hi641 dL_law_641 ?_
    obtain ⟨hk_n0, Hf⟩ := p_g_some Hf
    obtain ⟨r642, T642, hq642, Hf⟩ := p_c_some Hf
    refine r_cV (n := 2) (As := [.int (xs ((y4_23 + 1) : Int32).toNatClampNeg), .int (xs ((y4_23 + 2) : Int32).toNatClampNeg)]) (rest := []) ⟨hx, hb, hml, hown, hts⟩ (s_X8_ten l X hq642) lkm_L_68 (by decide +kernel) rfl (by decide) dL_law_642 rfl rfl ⟨Nat.le_of_ble_eq_true rfl, Nat.le_of_ble_eq_true rfl⟩ hk_n0 rfl hl.1 (Nat.le_of_ble_eq_true rfl) ⟨by show _ ≤ 601024; omega, by show _ ≤ 7293034; omega⟩ hK hRO hA hP hS (fun H locs hP hS => ?_)
    refine W.eq (g2 := F0 m 645 ls [.int r642]) rfl ?_
    refine lv_aload_n hx hb dL_law_645 rfl (lv_at hl 2 rfl) ?_
    refine lv_aload_n hx hb dL_law_646 rfl (lv_at hl 0 rfl) ?_
    refine lv_iload hx hb dL_law_647 (lv_at hl 4 rfl) ?_
    refine lv_iconst (v := 1) hx hb dL_law_649 (by decide) ?_
    refine lv_iadd hx hb dL_law_650 ?_
    obtain ⟨hi651, Hf⟩ := p_g_some Hf
    refine va_sld hx hb hX hbl hbA hS hi651 dL_law_651 ?_
    refine lv_aload_n hx hb dL_law_652 rfl (lv_at hl 0 rfl) ?_
    refine lv_iload hx hb dL_law_653 (lv_at hl 4 rfl) ?_
    refine lv_iconst (v := 2) hx hb dL_law_655 (by decide) ?_
    refine lv_iadd hx hb dL_law_656 ?_
    obtain ⟨hi657, Hf⟩ := p_g_some Hf
    refine va_sld hx hb hX hbl hbA hS hi657 dL_law_657 ?_
    obtain ⟨hk_n8, Hf⟩ := p_g_some Hf
    obtain ⟨r658, T658, hq658, Hf⟩ := p_c_some Hf
    refine r_cV (n := 2) (As := [.int (xs ((y4_23 + 1) : Int32).toNatClampNeg), .int (xs ((y4_23 + 2) : Int32).toNatClampNeg)]) (rest := [.int r642]) ⟨hx, hb, hml, hown, hts⟩ (s_X9_ten l X hq658) lkm_L_71 (by decide +kernel) rfl (by decide) dL_law_658 rfl rfl ⟨Nat.le_of_ble_eq_true rfl, Nat.le_of_ble_eq_true rfl⟩ hk_n8 rfl hl.1 (Nat.le_of_ble_eq_true rfl) ⟨by show _ ≤ 601024; omega, by show _ ≤ 7293034; omega⟩ hK hRO hA hP hS (fun H locs hP hS => ?_)
    refine W.eq (g2 := F0 m 661 ls [.int r658, .int r642]) rfl ?_
    refine lv_icmp_eq hx hb dL_law_661 (tgt := 1034) (by decide) (fun hc => ?_) (fun hc => ?_)
    · have Hf := p_i_t Hf hc
      refine W.widen (k := (55 + 12 * k + 8)) (n := (31858 + 4000 * k + 3500)) (by omega) (by omega) ?_
      exact hJ1034 T658 Hf _ _ _ hP hS (lv_sub hl [0, 1, 2, 3, 4] rfl)
    have Hf := p_i_f Hf hc
    refine lv_iconst (v := 0) hx hb dL_law_664 (by decide) ?_
    exact absurd Hf (by decide)
  have Hf := p_i_f Hf hs8
  by_cases hs9 : ((xs (y4_23 : Int32).toNatClampNeg) &&& 31) = 9
  · have Hf := p_i_t Hf hs9
    refine lv_tableIn hx hb dL_law_40 (by rw [hs9]; decide) (by rw [hs9]; decide) (off := 626) (by rw [hs9]; rfl) (tgt := 666) (by decide) ?_
    refine lv_aload_n hx hb dL_law_666 rfl (lv_at hl 1 rfl) ?_
    refine lv_aload_n hx hb dL_law_667 rfl (lv_at hl 0 rfl) ?_
    refine lv_iload hx hb dL_law_668 (lv_at hl 4 rfl) ?_
    refine lv_iconst (v := 1) hx hb dL_law_670 (by decide) ?_
    refine lv_iadd hx hb dL_law_671 ?_
    obtain ⟨hi672, Hf⟩ := p_g_some Hf
    refine va_sld hx hb hX hbl hbA hS hi672 dL_law_672 ?_
    refine lv_aload_n hx hb dL_law_673 rfl (lv_at hl 0 rfl) ?_
    refine lv_iload hx hb dL_law_674 (lv_at hl 4 rfl) ?_
    refine lv_iconst (v := 2) hx hb dL_law_676 (by decide) ?_
    refine lv_iadd hx hb dL_law_677 ?_
    obtain ⟨hi678, Hf⟩ := p_g_some Hf
    refine va_sld hx hb hX hbl hbA hS hi678 dL_law_678 ?_
    obtain ⟨hk_n0, Hf⟩ := p_g_some Hf
    obtain ⟨r679, T679, hq679, Hf⟩ := p_c_some Hf
    refine r_cV (n := 2) (As := [.int (xs ((y4_23 + 1) : Int32).toNatClampNeg), .int (xs ((y4_23 + 2) : Int32).toNatClampNeg)]) (rest := []) ⟨hx, hb, hml, hown, hts⟩ (s_X8_known l X hq679) lkm_L_72 (by decide +kernel) rfl (by decide) dL_law_679 rfl rfl ⟨Nat.le_of_ble_eq_true rfl, Nat.le_of_ble_eq_true rfl⟩ hk_n0 rfl hl.1 (Nat.le_of_ble_eq_true rfl) ⟨by show _ ≤ 601024; omega, by show _ ≤ 7293034; omega⟩ hK hRO hA hP hS (fun H locs hP hS => ?_)
    refine W.eq (g2 := F0 m 682 ls [.int r679]) rfl ?_
    refine lv_aload_n hx hb dL_law_682 rfl (lv_at hl 2 rfl) ?_
    refine lv_aload_n hx hb dL_law_683 rfl (lv_at hl 0 rfl) ?_
    refine lv_iload hx hb dL_law_684 (lv_at hl 4 rfl) ?_
    refine lv_iconst (v := 1) hx hb dL_law_686 (by decide) ?_
    refine lv_iadd hx hb dL_law_687 ?_
    obtain ⟨hi688, Hf⟩ := p_g_some Hf
    refine va_sld hx hb hX hbl hbA hS hi688 dL_law_688 ?_
    refine lv_aload_n hx hb dL_law_689 rfl (lv_at hl 0 rfl) ?_
    refine lv_iload hx hb dL_law_690 (lv_at hl 4 rfl) ?_
    refine lv_iconst (v := 2) hx hb dL_law_692 (by decide) ?_
    refine lv_iadd hx hb dL_law_693 ?_
    obtain ⟨hi694, Hf⟩ := p_g_some Hf
    refine va_sld hx hb hX hbl hbA hS hi694 dL_law_694 ?_
    obtain ⟨hk_n8, Hf⟩ := p_g_some Hf
    obtain ⟨r695, T695, hq695, Hf⟩ := p_c_some Hf
    refine r_cV (n := 2) (As := [.int (xs ((y4_23 + 1) : Int32).toNatClampNeg), .int (xs ((y4_23 + 2) : Int32).toNatClampNeg)]) (rest := [.int r679]) ⟨hx, hb, hml, hown, hts⟩ (s_X9_known l X hq695) lkm_L_75 (by decide +kernel) rfl (by decide) dL_law_695 rfl rfl ⟨Nat.le_of_ble_eq_true rfl, Nat.le_of_ble_eq_true rfl⟩ hk_n8 rfl hl.1 (Nat.le_of_ble_eq_true rfl) ⟨by show _ ≤ 601024; omega, by show _ ≤ 7293034; omega⟩ hK hRO hA hP hS (fun H locs hP hS => ?_)
    refine W.eq (g2 := F0 m 698 ls [.int r695, .int r679]) rfl ?_
    refine lv_icmp_eq hx hb dL_law_698 (tgt := 1034) (by decide) (fun hc => ?_) (fun hc => ?_)
    · have Hf := p_i_t Hf hc
      refine W.widen (k := (55 + 12 * k + 8)) (n := (31858 + 4000 * k + 3500)) (by omega) (by omega) ?_
      exact hJ1034 T695 Hf _ _ _ hP hS (lv_sub hl [0, 1, 2, 3, 4] rfl)
    have Hf := p_i_f Hf hc
    refine lv_iconst (v := 0) hx hb dL_law_701 (by decide) ?_
    exact absurd Hf (by decide)
  have Hf := p_i_f Hf hs9
  by_cases hs10 : ((xs (y4_23 : Int32).toNatClampNeg) &&& 31) = 10
  · have Hf := p_i_t Hf hs10
    refine lv_tableIn hx hb dL_law_40 (by rw [hs10]; decide) (by rw [hs10]; decide) (off := 663) (by rw [hs10]; rfl) (tgt := 703) (by decide) ?_
    refine lv_aload_n hx hb dL_law_703 rfl (lv_at hl 1 rfl) ?_
    refine lv_aload_n hx hb dL_law_704 rfl (lv_at hl 0 rfl) ?_
    refine lv_iload hx hb dL_law_705 (lv_at hl 4 rfl) ?_
    refine lv_iconst (v := 1) hx hb dL_law_707 (by decide) ?_
    refine lv_iadd hx hb dL_law_708 ?_
    obtain ⟨hi709, Hf⟩ := p_g_some Hf
    refine va_sld hx hb hX hbl hbA hS hi709 dL_law_709 ?_
    obtain ⟨hk_n0, Hf⟩ := p_g_some Hf
    obtain ⟨r710, T710, hq710, Hf⟩ := p_c_some Hf
    refine r_cV (n := 1) (As := [.int (xs ((y4_23 + 1) : Int32).toNatClampNeg)]) (rest := []) ⟨hx, hb, hml, hown, hts⟩ (s_X8_rounds l X hq710) lkm_L_76 (by decide +kernel) rfl (by decide) dL_law_710 rfl rfl ⟨Nat.le_of_ble_eq_true rfl, Nat.le_of_ble_eq_true rfl⟩ hk_n0 rfl hl.1 (Nat.le_of_ble_eq_true rfl) ⟨by show _ ≤ 601024; omega, by show _ ≤ 7293034; omega⟩ hK hRO hA hP hS (fun H locs hP hS => ?_)
    refine W.eq (g2 := F0 m 713 ls [.int r710]) rfl ?_
    refine lv_aload_n hx hb dL_law_713 rfl (lv_at hl 2 rfl) ?_
    refine lv_aload_n hx hb dL_law_714 rfl (lv_at hl 0 rfl) ?_
    refine lv_iload hx hb dL_law_715 (lv_at hl 4 rfl) ?_
    refine lv_iconst (v := 1) hx hb dL_law_717 (by decide) ?_
    refine lv_iadd hx hb dL_law_718 ?_
    obtain ⟨hi719, Hf⟩ := p_g_some Hf
    refine va_sld hx hb hX hbl hbA hS hi719 dL_law_719 ?_
    obtain ⟨hk_n8, Hf⟩ := p_g_some Hf
    obtain ⟨r720, T720, hq720, Hf⟩ := p_c_some Hf
    refine r_cV (n := 1) (As := [.int (xs ((y4_23 + 1) : Int32).toNatClampNeg)]) (rest := [.int r710]) ⟨hx, hb, hml, hown, hts⟩ (s_X9_rounds l X hq720) lkm_L_80 (by decide +kernel) rfl (by decide) dL_law_720 rfl rfl ⟨Nat.le_of_ble_eq_true rfl, Nat.le_of_ble_eq_true rfl⟩ hk_n8 rfl hl.1 (Nat.le_of_ble_eq_true rfl) ⟨by show _ ≤ 601024; omega, by show _ ≤ 7293034; omega⟩ hK hRO hA hP hS (fun H locs hP hS => ?_)
    refine W.eq (g2 := F0 m 723 ls [.int r720, .int r710]) rfl ?_
    refine lv_icmp_eq hx hb dL_law_723 (tgt := 1034) (by decide) (fun hc => ?_) (fun hc => ?_)
    · have Hf := p_i_t Hf hc
      refine W.widen (k := (55 + 12 * k + 8)) (n := (31858 + 4000 * k + 3500)) (by omega) (by omega) ?_
      exact hJ1034 T720 Hf _ _ _ hP hS (lv_sub hl [0, 1, 2, 3, 4] rfl)
    have Hf := p_i_f Hf hc
    refine lv_iconst (v := 0) hx hb dL_law_726 (by decide) ?_
    exact absurd Hf (by decide)
  have Hf := p_i_f Hf hs10
  by_cases hs11 : ((xs (y4_23 : Int32).toNatClampNeg) &&& 31) = 11
  · have Hf := p_i_t Hf hs11
    refine lv_tableIn hx hb dL_law_40 (by rw [hs11]; decide) (by rw [hs11]; decide) (off := 688) (by rw [hs11]; rfl) (tgt := 728) (by decide) ?_
    refine lv_aload_n hx hb dL_law_728 rfl (lv_at hl 1 rfl) ?_
    refine lv_aload_n hx hb dL_law_729 rfl (lv_at hl 0 rfl) ?_
    refine lv_iload hx hb dL_law_730 (lv_at hl 4 rfl) ?_
    refine lv_iconst (v := 1) hx hb dL_law_732 (by decide) ?_
    refine lv_iadd hx hb dL_law_733 ?_
    obtain ⟨hi734, Hf⟩ := p_g_some Hf
    refine va_sld hx hb hX hbl hbA hS hi734 dL_law_734 ?_
    obtain ⟨hk_n0, Hf⟩ := p_g_some Hf
    obtain ⟨r735, T735, hq735, Hf⟩ := p_c_some Hf
    refine r_cV (n := 1) (As := [.int (xs ((y4_23 + 1) : Int32).toNatClampNeg)]) (rest := []) ⟨hx, hb, hml, hown, hts⟩ (s_X8_weight l X hq735) lkm_L_81 (by decide +kernel) rfl (by decide) dL_law_735 rfl rfl ⟨Nat.le_of_ble_eq_true rfl, Nat.le_of_ble_eq_true rfl⟩ hk_n0 rfl hl.1 (Nat.le_of_ble_eq_true rfl) ⟨by show _ ≤ 601024; omega, by show _ ≤ 7293034; omega⟩ hK hRO hA hP hS (fun H locs hP hS => ?_)
    refine W.eq (g2 := F0 m 738 ls [.int r735]) rfl ?_
    refine lv_aload_n hx hb dL_law_738 rfl (lv_at hl 2 rfl) ?_
    refine lv_aload_n hx hb dL_law_739 rfl (lv_at hl 0 rfl) ?_
    refine lv_iload hx hb dL_law_740 (lv_at hl 4 rfl) ?_
    refine lv_iconst (v := 1) hx hb dL_law_742 (by decide) ?_
    refine lv_iadd hx hb dL_law_743 ?_
    obtain ⟨hi744, Hf⟩ := p_g_some Hf
    refine va_sld hx hb hX hbl hbA hS hi744 dL_law_744 ?_
    obtain ⟨hk_n8, Hf⟩ := p_g_some Hf
    obtain ⟨r745, T745, hq745, Hf⟩ := p_c_some Hf
    refine r_cV (n := 1) (As := [.int (xs ((y4_23 + 1) : Int32).toNatClampNeg)]) (rest := [.int r735]) ⟨hx, hb, hml, hown, hts⟩ (s_X9_weight l X hq745) lkm_L_84 (by decide +kernel) rfl (by decide) dL_law_745 rfl rfl ⟨Nat.le_of_ble_eq_true rfl, Nat.le_of_ble_eq_true rfl⟩ hk_n8 rfl hl.1 (Nat.le_of_ble_eq_true rfl) ⟨by show _ ≤ 601024; omega, by show _ ≤ 7293034; omega⟩ hK hRO hA hP hS (fun H locs hP hS => ?_)
    refine W.eq (g2 := F0 m 748 ls [.int r745, .int r735]) rfl ?_
    refine lv_icmp_eq hx hb dL_law_748 (tgt := 1034) (by decide) (fun hc => ?_) (fun hc => ?_)
    · have Hf := p_i_t Hf hc
      refine W.widen (k := (55 + 12 * k + 8)) (n := (31858 + 4000 * k + 3500)) (by omega) (by omega) ?_
      exact hJ1034 T745 Hf _ _ _ hP hS (lv_sub hl [0, 1, 2, 3, 4] rfl)
    have Hf := p_i_f Hf hc
    refine lv_iconst (v := 0) hx hb dL_law_751 (by decide) ?_
    exact absurd Hf (by decide)
  have Hf := p_i_f Hf hs11
  by_cases hs12 : ((xs (y4_23 : Int32).toNatClampNeg) &&& 31) = 12
  · have Hf := p_i_t Hf hs12
    refine lv_tableIn hx hb dL_law_40 (by rw [hs12]; decide) (by rw [hs12]; decide) (off := 713) (by rw [hs12]; rfl) (tgt := 753) (by decide) ?_
    refine lv_aload_n hx hb dL_law_753 rfl (lv_at hl 1 rfl) ?_
    refine lv_aload_n hx hb dL_law_754 rfl (lv_at hl 0 rfl) ?_
    refine lv_iload hx hb dL_law_755 (lv_at hl 4 rfl) ?_
    refine lv_iconst (v := 1) hx hb dL_law_757 (by decide) ?_
    refine lv_iadd hx hb dL_law_758 ?_
    obtain ⟨hi759, Hf⟩ := p_g_some Hf
    refine va_sld hx hb hX hbl hbA hS hi759 dL_law_759 ?_
    refine lv_aload_n hx hb dL_law_760 rfl (lv_at hl 0 rfl) ?_
    refine lv_iload hx hb dL_law_761 (lv_at hl 4 rfl) ?_
    refine lv_iconst (v := 2) hx hb dL_law_763 (by decide) ?_
    refine lv_iadd hx hb dL_law_764 ?_
    obtain ⟨hi765, Hf⟩ := p_g_some Hf
    refine va_sld hx hb hX hbl hbA hS hi765 dL_law_765 ?_
    refine lv_aload_n hx hb dL_law_766 rfl (lv_at hl 0 rfl) ?_
    refine lv_iload hx hb dL_law_767 (lv_at hl 4 rfl) ?_
    refine lv_iconst (v := 3) hx hb dL_law_769 (by decide) ?_
    refine lv_iadd hx hb dL_law_770 ?_
    obtain ⟨hi771, Hf⟩ := p_g_some Hf
    refine va_sld hx hb hX hbl hbA hS hi771 dL_law_771 ?_
    have hJ780 : ∀ (S780 : st_T) (u0_780 : Int32), j_L_law_780 L xs n0 n8 rec23 y4_23 S780 u0_780 → ∀ (H : Heap) (locs : List Loc) (ls : Array Slot), st_HP X AA S780 H → va_S AA s.heap H locs → lv_has ls 7 [(0, .ref bq), (1, .ref n0), (2, .ref n8), (3, .ref n17), (4, .int y4_23)] → W p l e room_1 s m #[Value.ref bq] below meth c H locs (55 + 12 * k + 8) (31858 + 4000 * k + 3500) (lw_Z below #[Value.ref bq] s) (F0 m 780 ls [.int u0_780, .int (xs ((y4_23 + 2) : Int32).toNatClampNeg), .int (xs ((y4_23 + 1) : Int32).toNatClampNeg), .ref n0]) := by
      intro S780 u0_780 Hf H locs ls hP hS hl
      unfold j_L_law_780 at Hf
      obtain ⟨hk_n0, Hf⟩ := p_g_some Hf
      obtain ⟨r780, T780, hq780, Hf⟩ := p_c_some Hf
      refine r_cV (n := 3) (As := [.int (xs ((y4_23 + 1) : Int32).toNatClampNeg), .int (xs ((y4_23 + 2) : Int32).toNatClampNeg), .int u0_780]) (rest := []) ⟨hx, hb, hml, hown, hts⟩ (s_X8_cell l X hq780) lkm_L_85 (by decide +kernel) rfl (by decide) dL_law_780 rfl rfl ⟨Nat.le_of_ble_eq_true rfl, Nat.le_of_ble_eq_true rfl⟩ hk_n0 rfl hl.1 (Nat.le_of_ble_eq_true rfl) ⟨by show _ ≤ 601024; omega, by show _ ≤ 7293034; omega⟩ hK hRO hA hP hS (fun H locs hP hS => ?_)
      refine W.eq (g2 := F0 m 783 ls [.int r780]) rfl ?_
      refine lv_aload_n hx hb dL_law_783 rfl (lv_at hl 2 rfl) ?_
      refine lv_aload_n hx hb dL_law_784 rfl (lv_at hl 0 rfl) ?_
      refine lv_iload hx hb dL_law_785 (lv_at hl 4 rfl) ?_
      refine lv_iconst (v := 1) hx hb dL_law_787 (by decide) ?_
      refine lv_iadd hx hb dL_law_788 ?_
      obtain ⟨hi789, Hf⟩ := p_g_some Hf
      refine va_sld hx hb hX hbl hbA hS hi789 dL_law_789 ?_
      refine lv_aload_n hx hb dL_law_790 rfl (lv_at hl 0 rfl) ?_
      refine lv_iload hx hb dL_law_791 (lv_at hl 4 rfl) ?_
      refine lv_iconst (v := 2) hx hb dL_law_793 (by decide) ?_
      refine lv_iadd hx hb dL_law_794 ?_
      obtain ⟨hi795, Hf⟩ := p_g_some Hf
      refine va_sld hx hb hX hbl hbA hS hi795 dL_law_795 ?_
      refine lv_aload_n hx hb dL_law_796 rfl (lv_at hl 0 rfl) ?_
      refine lv_iload hx hb dL_law_797 (lv_at hl 4 rfl) ?_
      refine lv_iconst (v := 3) hx hb dL_law_799 (by decide) ?_
      refine lv_iadd hx hb dL_law_800 ?_
      obtain ⟨hi801, Hf⟩ := p_g_some Hf
      refine va_sld hx hb hX hbl hbA hS hi801 dL_law_801 ?_
      have hJ810 : ∀ (S810 : st_T) (u0_810 : Int32), j_L_law_810 xs n8 rec23 y4_23 r780 S810 u0_810 → ∀ (H : Heap) (locs : List Loc) (ls : Array Slot), st_HP X AA S810 H → va_S AA s.heap H locs → lv_has ls 7 [(0, .ref bq), (1, .ref n0), (2, .ref n8), (3, .ref n17), (4, .int y4_23)] → W p l e room_1 s m #[Value.ref bq] below meth c H locs (55 + 12 * k + 8) (31858 + 4000 * k + 3500) (lw_Z below #[Value.ref bq] s) (F0 m 810 ls [.int u0_810, .int (xs ((y4_23 + 2) : Int32).toNatClampNeg), .int (xs ((y4_23 + 1) : Int32).toNatClampNeg), .ref n8, .int r780]) := by
        intro S810 u0_810 Hf H locs ls hP hS hl
        unfold j_L_law_810 at Hf
        obtain ⟨hk_n8, Hf⟩ := p_g_some Hf
        obtain ⟨r810, T810, hq810, Hf⟩ := p_c_some Hf
        refine r_cV (n := 3) (As := [.int (xs ((y4_23 + 1) : Int32).toNatClampNeg), .int (xs ((y4_23 + 2) : Int32).toNatClampNeg), .int u0_810]) (rest := [.int r780]) ⟨hx, hb, hml, hown, hts⟩ (s_X9_cell l X hq810) lkm_L_89 (by decide +kernel) rfl (by decide) dL_law_810 rfl rfl ⟨Nat.le_of_ble_eq_true rfl, Nat.le_of_ble_eq_true rfl⟩ hk_n8 rfl hl.1 (Nat.le_of_ble_eq_true rfl) ⟨by show _ ≤ 601024; omega, by show _ ≤ 7293034; omega⟩ hK hRO hA hP hS (fun H locs hP hS => ?_)
        refine W.eq (g2 := F0 m 813 ls [.int r810, .int r780]) rfl ?_
        refine lv_icmp_eq hx hb dL_law_813 (tgt := 1034) (by decide) (fun hc => ?_) (fun hc => ?_)
        · have Hf := p_i_t Hf hc
          refine W.widen (k := (55 + 12 * k + 8)) (n := (31858 + 4000 * k + 3500)) (by omega) (by omega) ?_
          exact hJ1034 T810 Hf _ _ _ hP hS (lv_sub hl [0, 1, 2, 3, 4] rfl)
        have Hf := p_i_f Hf hc
        refine lv_iconst (v := 0) hx hb dL_law_816 (by decide) ?_
        exact absurd Hf (by decide)
      refine lv_if_eq hx hb dL_law_802 (tgt := 809) (by decide) (fun hc => ?_) (fun hc => ?_)
      · have Hf := p_i_t Hf hc
        refine lv_iconst (v := 0) hx hb dL_law_809 (by decide) ?_
        refine W.widen (k := (55 + 12 * k + 8)) (n := (31858 + 4000 * k + 3500)) (by omega) (by omega) ?_
        exact hJ810 T780 0 Hf _ _ _ hP hS (lv_sub hl [0, 1, 2, 3, 4] rfl)
      have Hf := p_i_f Hf hc
      refine lv_iconst (v := 1) hx hb dL_law_805 (by decide) ?_
      refine lv_goto hx hb dL_law_806 (tgt := 810) (by decide) ?_
      refine W.widen (k := (55 + 12 * k + 8)) (n := (31858 + 4000 * k + 3500)) (by omega) (by omega) ?_
      exact hJ810 T780 1 Hf _ _ _ hP hS (lv_sub hl [0, 1, 2, 3, 4] rfl)
    refine lv_if_eq hx hb dL_law_772 (tgt := 779) (by decide) (fun hc => ?_) (fun hc => ?_)
    · have Hf := p_i_t Hf hc
      refine lv_iconst (v := 0) hx hb dL_law_779 (by decide) ?_
      refine W.widen (k := (55 + 12 * k + 8)) (n := (31858 + 4000 * k + 3500)) (by omega) (by omega) ?_
      exact hJ780 S23 0 Hf _ _ _ hP hS (lv_sub hl [0, 1, 2, 3, 4] rfl)
    have Hf := p_i_f Hf hc
    refine lv_iconst (v := 1) hx hb dL_law_775 (by decide) ?_
    refine lv_goto hx hb dL_law_776 (tgt := 780) (by decide) ?_
    refine W.widen (k := (55 + 12 * k + 8)) (n := (31858 + 4000 * k + 3500)) (by omega) (by omega) ?_
    exact hJ780 S23 1 Hf _ _ _ hP hS (lv_sub hl [0, 1, 2, 3, 4] rfl)
  have Hf := p_i_f Hf hs12
  by_cases hs13 : ((xs (y4_23 : Int32).toNatClampNeg) &&& 31) = 13
  · have Hf := p_i_t Hf hs13
    refine lv_tableIn hx hb dL_law_40 (by rw [hs13]; decide) (by rw [hs13]; decide) (off := 778) (by rw [hs13]; rfl) (tgt := 818) (by decide) ?_
    refine lv_aload_n hx hb dL_law_818 rfl (lv_at hl 1 rfl) ?_
    refine lv_aload_n hx hb dL_law_819 rfl (lv_at hl 0 rfl) ?_
    refine lv_iload hx hb dL_law_820 (lv_at hl 4 rfl) ?_
    refine lv_iconst (v := 1) hx hb dL_law_822 (by decide) ?_
    refine lv_iadd hx hb dL_law_823 ?_
    obtain ⟨hi824, Hf⟩ := p_g_some Hf
    refine va_sld hx hb hX hbl hbA hS hi824 dL_law_824 ?_
    refine lv_aload_n hx hb dL_law_825 rfl (lv_at hl 0 rfl) ?_
    refine lv_iload hx hb dL_law_826 (lv_at hl 4 rfl) ?_
    refine lv_iconst (v := 2) hx hb dL_law_828 (by decide) ?_
    refine lv_iadd hx hb dL_law_829 ?_
    obtain ⟨hi830, Hf⟩ := p_g_some Hf
    refine va_sld hx hb hX hbl hbA hS hi830 dL_law_830 ?_
    refine lv_aload_n hx hb dL_law_831 rfl (lv_at hl 0 rfl) ?_
    refine lv_iload hx hb dL_law_832 (lv_at hl 4 rfl) ?_
    refine lv_iconst (v := 3) hx hb dL_law_834 (by decide) ?_
    refine lv_iadd hx hb dL_law_835 ?_
    obtain ⟨hi836, Hf⟩ := p_g_some Hf
    refine va_sld hx hb hX hbl hbA hS hi836 dL_law_836 ?_
    obtain ⟨hk_n0, Hf⟩ := p_g_some Hf
    obtain ⟨r837, T837, hq837, Hf⟩ := p_c_some Hf
    refine r_cV (n := 3) (As := [.int (xs ((y4_23 + 1) : Int32).toNatClampNeg), .int (xs ((y4_23 + 2) : Int32).toNatClampNeg), .int (xs ((y4_23 + 3) : Int32).toNatClampNeg)]) (rest := []) ⟨hx, hb, hml, hown, hts⟩ (s_X8_lead l X hq837) lkm_L_90 (by decide +kernel) rfl (by decide) dL_law_837 rfl rfl ⟨Nat.le_of_ble_eq_true rfl, Nat.le_of_ble_eq_true rfl⟩ hk_n0 rfl hl.1 (Nat.le_of_ble_eq_true rfl) ⟨by show _ ≤ 601024; omega, by show _ ≤ 7293034; omega⟩ hK hRO hA hP hS (fun H locs hP hS => ?_)
    refine W.eq (g2 := F0 m 840 ls [.int r837]) rfl ?_
    refine lv_aload_n hx hb dL_law_840 rfl (lv_at hl 2 rfl) ?_
    refine lv_aload_n hx hb dL_law_841 rfl (lv_at hl 0 rfl) ?_
    refine lv_iload hx hb dL_law_842 (lv_at hl 4 rfl) ?_
    refine lv_iconst (v := 1) hx hb dL_law_844 (by decide) ?_
    refine lv_iadd hx hb dL_law_845 ?_
    obtain ⟨hi846, Hf⟩ := p_g_some Hf
    refine va_sld hx hb hX hbl hbA hS hi846 dL_law_846 ?_
    refine lv_aload_n hx hb dL_law_847 rfl (lv_at hl 0 rfl) ?_
    refine lv_iload hx hb dL_law_848 (lv_at hl 4 rfl) ?_
    refine lv_iconst (v := 2) hx hb dL_law_850 (by decide) ?_
    refine lv_iadd hx hb dL_law_851 ?_
    obtain ⟨hi852, Hf⟩ := p_g_some Hf
    refine va_sld hx hb hX hbl hbA hS hi852 dL_law_852 ?_
    refine lv_aload_n hx hb dL_law_853 rfl (lv_at hl 0 rfl) ?_
    refine lv_iload hx hb dL_law_854 (lv_at hl 4 rfl) ?_
    refine lv_iconst (v := 3) hx hb dL_law_856 (by decide) ?_
    refine lv_iadd hx hb dL_law_857 ?_
    obtain ⟨hi858, Hf⟩ := p_g_some Hf
    refine va_sld hx hb hX hbl hbA hS hi858 dL_law_858 ?_
    obtain ⟨hk_n8, Hf⟩ := p_g_some Hf
    obtain ⟨r859, T859, hq859, Hf⟩ := p_c_some Hf
    refine r_cV (n := 3) (As := [.int (xs ((y4_23 + 1) : Int32).toNatClampNeg), .int (xs ((y4_23 + 2) : Int32).toNatClampNeg), .int (xs ((y4_23 + 3) : Int32).toNatClampNeg)]) (rest := [.int r837]) ⟨hx, hb, hml, hown, hts⟩ (s_X9_lead l X hq859) lkm_L_93 (by decide +kernel) rfl (by decide) dL_law_859 rfl rfl ⟨Nat.le_of_ble_eq_true rfl, Nat.le_of_ble_eq_true rfl⟩ hk_n8 rfl hl.1 (Nat.le_of_ble_eq_true rfl) ⟨by show _ ≤ 601024; omega, by show _ ≤ 7293034; omega⟩ hK hRO hA hP hS (fun H locs hP hS => ?_)
    refine W.eq (g2 := F0 m 862 ls [.int r859, .int r837]) rfl ?_
    refine lv_icmp_eq hx hb dL_law_862 (tgt := 1034) (by decide) (fun hc => ?_) (fun hc => ?_)
    · have Hf := p_i_t Hf hc
      refine W.widen (k := (55 + 12 * k + 8)) (n := (31858 + 4000 * k + 3500)) (by omega) (by omega) ?_
      exact hJ1034 T859 Hf _ _ _ hP hS (lv_sub hl [0, 1, 2, 3, 4] rfl)
    have Hf := p_i_f Hf hc
    refine lv_iconst (v := 0) hx hb dL_law_865 (by decide) ?_
    exact absurd Hf (by decide)
  have Hf := p_i_f Hf hs13
  by_cases hs14 : ((xs (y4_23 : Int32).toNatClampNeg) &&& 31) = 14
  · have Hf := p_i_t Hf hs14
    refine lv_tableIn hx hb dL_law_40 (by rw [hs14]; decide) (by rw [hs14]; decide) (off := 827) (by rw [hs14]; rfl) (tgt := 867) (by decide) ?_
    refine lv_aload_n hx hb dL_law_867 rfl (lv_at hl 1 rfl) ?_
    refine lv_aload_n hx hb dL_law_868 rfl (lv_at hl 0 rfl) ?_
    refine lv_iload hx hb dL_law_869 (lv_at hl 4 rfl) ?_
    refine lv_iconst (v := 1) hx hb dL_law_871 (by decide) ?_
    refine lv_iadd hx hb dL_law_872 ?_
    obtain ⟨hi873, Hf⟩ := p_g_some Hf
    refine va_sld hx hb hX hbl hbA hS hi873 dL_law_873 ?_
    refine lv_aload_n hx hb dL_law_874 rfl (lv_at hl 0 rfl) ?_
    refine lv_iload hx hb dL_law_875 (lv_at hl 4 rfl) ?_
    refine lv_iconst (v := 2) hx hb dL_law_877 (by decide) ?_
    refine lv_iadd hx hb dL_law_878 ?_
    obtain ⟨hi879, Hf⟩ := p_g_some Hf
    refine va_sld hx hb hX hbl hbA hS hi879 dL_law_879 ?_
    obtain ⟨hk_n0, Hf⟩ := p_g_some Hf
    obtain ⟨r880, T880, hq880, Hf⟩ := p_c_some Hf
    refine r_cV (n := 2) (As := [.int (xs ((y4_23 + 1) : Int32).toNatClampNeg), .int (xs ((y4_23 + 2) : Int32).toNatClampNeg)]) (rest := []) ⟨hx, hb, hml, hown, hts⟩ (s_X8_next l X hq880) lkm_L_94 (by decide +kernel) rfl (by decide) dL_law_880 rfl rfl ⟨Nat.le_of_ble_eq_true rfl, Nat.le_of_ble_eq_true rfl⟩ hk_n0 rfl hl.1 (Nat.le_of_ble_eq_true rfl) ⟨by show _ ≤ 601024; omega, by show _ ≤ 7293034; omega⟩ hK hRO hA hP hS (fun H locs hP hS => ?_)
    refine W.eq (g2 := F0 m 883 ls [.int r880]) rfl ?_
    refine lv_aload_n hx hb dL_law_883 rfl (lv_at hl 2 rfl) ?_
    refine lv_aload_n hx hb dL_law_884 rfl (lv_at hl 0 rfl) ?_
    refine lv_iload hx hb dL_law_885 (lv_at hl 4 rfl) ?_
    refine lv_iconst (v := 1) hx hb dL_law_887 (by decide) ?_
    refine lv_iadd hx hb dL_law_888 ?_
    obtain ⟨hi889, Hf⟩ := p_g_some Hf
    refine va_sld hx hb hX hbl hbA hS hi889 dL_law_889 ?_
    refine lv_aload_n hx hb dL_law_890 rfl (lv_at hl 0 rfl) ?_
    refine lv_iload hx hb dL_law_891 (lv_at hl 4 rfl) ?_
    refine lv_iconst (v := 2) hx hb dL_law_893 (by decide) ?_
    refine lv_iadd hx hb dL_law_894 ?_
    obtain ⟨hi895, Hf⟩ := p_g_some Hf
    refine va_sld hx hb hX hbl hbA hS hi895 dL_law_895 ?_
    obtain ⟨hk_n8, Hf⟩ := p_g_some Hf
    obtain ⟨r896, T896, hq896, Hf⟩ := p_c_some Hf
    refine r_cV (n := 2) (As := [.int (xs ((y4_23 + 1) : Int32).toNatClampNeg), .int (xs ((y4_23 + 2) : Int32).toNatClampNeg)]) (rest := [.int r880]) ⟨hx, hb, hml, hown, hts⟩ (s_X9_next l X hq896) lkm_L_97 (by decide +kernel) rfl (by decide) dL_law_896 rfl rfl ⟨Nat.le_of_ble_eq_true rfl, Nat.le_of_ble_eq_true rfl⟩ hk_n8 rfl hl.1 (Nat.le_of_ble_eq_true rfl) ⟨by show _ ≤ 601024; omega, by show _ ≤ 7293034; omega⟩ hK hRO hA hP hS (fun H locs hP hS => ?_)
    refine W.eq (g2 := F0 m 899 ls [.int r896, .int r880]) rfl ?_
    refine lv_icmp_eq hx hb dL_law_899 (tgt := 1034) (by decide) (fun hc => ?_) (fun hc => ?_)
    · have Hf := p_i_t Hf hc
      refine W.widen (k := (55 + 12 * k + 8)) (n := (31858 + 4000 * k + 3500)) (by omega) (by omega) ?_
      exact hJ1034 T896 Hf _ _ _ hP hS (lv_sub hl [0, 1, 2, 3, 4] rfl)
    have Hf := p_i_f Hf hc
    refine lv_iconst (v := 0) hx hb dL_law_902 (by decide) ?_
    exact absurd Hf (by decide)
  have Hf := p_i_f Hf hs14
  by_cases hs15 : ((xs (y4_23 : Int32).toNatClampNeg) &&& 31) = 15
  · have Hf := p_i_t Hf hs15
    refine lv_tableIn hx hb dL_law_40 (by rw [hs15]; decide) (by rw [hs15]; decide) (off := 864) (by rw [hs15]; rfl) (tgt := 904) (by decide) ?_
    refine lv_aload_n hx hb dL_law_904 rfl (lv_at hl 1 rfl) ?_
    refine lv_aload_n hx hb dL_law_905 rfl (lv_at hl 0 rfl) ?_
    refine lv_iload hx hb dL_law_906 (lv_at hl 4 rfl) ?_
    refine lv_iconst (v := 1) hx hb dL_law_908 (by decide) ?_
    refine lv_iadd hx hb dL_law_909 ?_
    obtain ⟨hi910, Hf⟩ := p_g_some Hf
    refine va_sld hx hb hX hbl hbA hS hi910 dL_law_910 ?_
    refine lv_aload_n hx hb dL_law_911 rfl (lv_at hl 0 rfl) ?_
    refine lv_iload hx hb dL_law_912 (lv_at hl 4 rfl) ?_
    refine lv_iconst (v := 2) hx hb dL_law_914 (by decide) ?_
    refine lv_iadd hx hb dL_law_915 ?_
    obtain ⟨hi916, Hf⟩ := p_g_some Hf
    refine va_sld hx hb hX hbl hbA hS hi916 dL_law_916 ?_
    obtain ⟨hk_n0, Hf⟩ := p_g_some Hf
    obtain ⟨r917, T917, hq917, Hf⟩ := p_c_some Hf
    refine r_cV (n := 2) (As := [.int (xs ((y4_23 + 1) : Int32).toNatClampNeg), .int (xs ((y4_23 + 2) : Int32).toNatClampNeg)]) (rest := []) ⟨hx, hb, hml, hown, hts⟩ (s_X8_quarrels l X hq917) lkm_L_98 (by decide +kernel) rfl (by decide) dL_law_917 rfl rfl ⟨Nat.le_of_ble_eq_true rfl, Nat.le_of_ble_eq_true rfl⟩ hk_n0 rfl hl.1 (Nat.le_of_ble_eq_true rfl) ⟨by show _ ≤ 601024; omega, by show _ ≤ 7293034; omega⟩ hK hRO hA hP hS (fun H locs hP hS => ?_)
    refine W.eq (g2 := F0 m 920 ls [.int r917]) rfl ?_
    refine lv_aload_n hx hb dL_law_920 rfl (lv_at hl 2 rfl) ?_
    refine lv_aload_n hx hb dL_law_921 rfl (lv_at hl 0 rfl) ?_
    refine lv_iload hx hb dL_law_922 (lv_at hl 4 rfl) ?_
    refine lv_iconst (v := 1) hx hb dL_law_924 (by decide) ?_
    refine lv_iadd hx hb dL_law_925 ?_
    obtain ⟨hi926, Hf⟩ := p_g_some Hf
    refine va_sld hx hb hX hbl hbA hS hi926 dL_law_926 ?_
    refine lv_aload_n hx hb dL_law_927 rfl (lv_at hl 0 rfl) ?_
    refine lv_iload hx hb dL_law_928 (lv_at hl 4 rfl) ?_
    refine lv_iconst (v := 2) hx hb dL_law_930 (by decide) ?_
    refine lv_iadd hx hb dL_law_931 ?_
    obtain ⟨hi932, Hf⟩ := p_g_some Hf
    refine va_sld hx hb hX hbl hbA hS hi932 dL_law_932 ?_
    obtain ⟨hk_n8, Hf⟩ := p_g_some Hf
    obtain ⟨r933, T933, hq933, Hf⟩ := p_c_some Hf
    refine r_cV (n := 2) (As := [.int (xs ((y4_23 + 1) : Int32).toNatClampNeg), .int (xs ((y4_23 + 2) : Int32).toNatClampNeg)]) (rest := [.int r917]) ⟨hx, hb, hml, hown, hts⟩ (s_X9_quarrels l X hq933) lkm_L_101 (by decide +kernel) rfl (by decide) dL_law_933 rfl rfl ⟨Nat.le_of_ble_eq_true rfl, Nat.le_of_ble_eq_true rfl⟩ hk_n8 rfl hl.1 (Nat.le_of_ble_eq_true rfl) ⟨by show _ ≤ 601024; omega, by show _ ≤ 7293034; omega⟩ hK hRO hA hP hS (fun H locs hP hS => ?_)
    refine W.eq (g2 := F0 m 936 ls [.int r933, .int r917]) rfl ?_
    refine lv_icmp_eq hx hb dL_law_936 (tgt := 1034) (by decide) (fun hc => ?_) (fun hc => ?_)
    · have Hf := p_i_t Hf hc
      refine W.widen (k := (55 + 12 * k + 8)) (n := (31858 + 4000 * k + 3500)) (by omega) (by omega) ?_
      exact hJ1034 T933 Hf _ _ _ hP hS (lv_sub hl [0, 1, 2, 3, 4] rfl)
    have Hf := p_i_f Hf hc
    refine lv_iconst (v := 0) hx hb dL_law_939 (by decide) ?_
    exact absurd Hf (by decide)
  have Hf := p_i_f Hf hs15
  by_cases hs16 : ((xs (y4_23 : Int32).toNatClampNeg) &&& 31) = 16
  · have Hf := p_i_t Hf hs16
    refine lv_tableIn hx hb dL_law_40 (by rw [hs16]; decide) (by rw [hs16]; decide) (off := 901) (by rw [hs16]; rfl) (tgt := 941) (by decide) ?_
    refine lv_aload_n hx hb dL_law_941 rfl (lv_at hl 1 rfl) ?_
    refine lv_aload_n hx hb dL_law_942 rfl (lv_at hl 0 rfl) ?_
    refine lv_iload hx hb dL_law_943 (lv_at hl 4 rfl) ?_
    refine lv_iconst (v := 1) hx hb dL_law_945 (by decide) ?_
    refine lv_iadd hx hb dL_law_946 ?_
    obtain ⟨hi947, Hf⟩ := p_g_some Hf
    refine va_sld hx hb hX hbl hbA hS hi947 dL_law_947 ?_
    refine lv_aload_n hx hb dL_law_948 rfl (lv_at hl 0 rfl) ?_
    refine lv_iload hx hb dL_law_949 (lv_at hl 4 rfl) ?_
    refine lv_iconst (v := 2) hx hb dL_law_951 (by decide) ?_
    refine lv_iadd hx hb dL_law_952 ?_
    obtain ⟨hi953, Hf⟩ := p_g_some Hf
    refine va_sld hx hb hX hbl hbA hS hi953 dL_law_953 ?_
    refine lv_aload_n hx hb dL_law_954 rfl (lv_at hl 3 rfl) ?_
    have hJ958 : ∀ (S958 : st_T) (u0_958 : Int32), j_L_law_958 L xs n8 n17 rec23 y4_23 S958 u0_958 → ∀ (H : Heap) (locs : List Loc) (ls : Array Slot), st_HP X AA S958 H → va_S AA s.heap H locs → lv_has ls 7 [(0, .ref bq), (1, .ref n0), (2, .ref n8), (3, .ref n17), (4, .int y4_23)] → W p l e room_1 s m #[Value.ref bq] below meth c H locs (55 + 12 * k + 8) (31858 + 4000 * k + 3500) (lw_Z below #[Value.ref bq] s) (F0 m 958 ls [.int u0_958]) := by
      intro S958 u0_958 Hf H locs ls hP hS hl
      unfold j_L_law_958 at Hf
      refine lv_istore (lv' := [(5, .int u0_958), (0, .ref bq), (1, .ref n0), (2, .ref n8), (3, .ref n17), (4, .int y4_23)]) hx hb dL_law_958 hl (by decide) rfl (fun ls hl => ?_)
      refine lv_aload_n hx hb dL_law_960 rfl (lv_at hl 3 rfl) ?_
      refine lv_aload_n hx hb dL_law_961 rfl (lv_at hl 1 rfl) ?_
      refine lv_iload hx hb dL_law_962 (lv_at hl 5 rfl) ?_
      refine lv_iconst (v := 1) hx hb dL_law_964 (by decide) ?_
      refine lv_iadd hx hb dL_law_965 ?_
      obtain ⟨hi966, Hf⟩ := p_g_some Hf
      refine va_sld hx hb hX hbl hbA hS hi966 dL_law_966 ?_
      refine lv_aload_n hx hb dL_law_967 rfl (lv_at hl 1 rfl) ?_
      refine lv_iload hx hb dL_law_968 (lv_at hl 5 rfl) ?_
      refine lv_iconst (v := 2) hx hb dL_law_970 (by decide) ?_
      refine lv_iadd hx hb dL_law_971 ?_
      obtain ⟨hi972, Hf⟩ := p_g_some Hf
      refine va_sld hx hb hX hbl hbA hS hi972 dL_law_972 ?_
      obtain ⟨hk_n8, Hf⟩ := p_g_some Hf
      obtain ⟨r973, T973, hq973, Hf⟩ := p_c_some Hf
      refine r_cV (n := 2) (As := [.int (xs ((y4_23 + 1) : Int32).toNatClampNeg), .int (xs ((y4_23 + 2) : Int32).toNatClampNeg)]) (rest := []) ⟨hx, hb, hml, hown, hts⟩ (s_X9_day l X hq973) lkm_L_105 (by decide +kernel) rfl (by decide) dL_law_973 rfl rfl ⟨Nat.le_of_ble_eq_true rfl, Nat.le_of_ble_eq_true rfl⟩ hk_n8 rfl hl.1 (Nat.le_of_ble_eq_true rfl) ⟨by show _ ≤ 601024; omega, by show _ ≤ 7293034; omega⟩ hK hRO hA hP hS (fun H locs hP hS => ?_)
      refine W.eq (g2 := F0 m 976 ls [.int r973]) rfl ?_
      refine lv_istore (lv' := [(6, .int r973), (5, .int u0_958), (0, .ref bq), (1, .ref n0), (2, .ref n8), (3, .ref n17), (4, .int y4_23)]) hx hb dL_law_976 hl (by decide) rfl (fun ls hl => ?_)
      refine lv_aload_n hx hb dL_law_978 rfl (lv_at hl 4 rfl) ?_
      obtain ⟨hk_n8, Hf⟩ := p_g_some Hf
      obtain ⟨r979, T979, hq979, Hf⟩ := p_c_some Hf
      refine r_cV (n := 0) (As := []) (rest := []) ⟨hx, hb, hml, hown, hts⟩ (s_X9_thrown l X hq979) lkm_L_65 (by decide +kernel) rfl (by decide) dL_law_979 rfl rfl ⟨Nat.le_of_ble_eq_true rfl, Nat.le_of_ble_eq_true rfl⟩ hk_n8 rfl hl.1 (Nat.le_of_ble_eq_true rfl) ⟨by show _ ≤ 601024; omega, by show _ ≤ 7293034; omega⟩ hK hRO hA hP hS (fun H locs hP hS => ?_)
      refine W.eq (g2 := F0 m 982 ls [.int r979]) rfl ?_
      refine lv_iload hx hb dL_law_982 (lv_at hl 1 rfl) ?_
      refine lv_icmp_eq hx hb dL_law_984 (tgt := 989) (by decide) (fun hc => ?_) (fun hc => ?_)
      · have Hf := p_i_t Hf hc
        refine lv_iload hx hb dL_law_989 (lv_at hl 1 rfl) ?_
        have hJ1006 : ∀ (S1006 : st_T), j_L_law_1006 rec23 y4_23 S1006 → ∀ (H : Heap) (locs : List Loc) (ls : Array Slot), st_HP X AA S1006 H → va_S AA s.heap H locs → lv_has ls 7 [(0, .ref bq), (1, .ref n0), (2, .ref n8), (3, .ref n17), (4, .int y4_23)] → W p l e room_1 s m #[Value.ref bq] below meth c H locs (55 + 12 * k + 8) (31858 + 4000 * k + 3500) (lw_Z below #[Value.ref bq] s) (F0 m 1006 ls []) := by
          intro S1006 Hf H locs ls hP hS hl
          unfold j_L_law_1006 at Hf
          refine lv_goto hx hb dL_law_1006 (tgt := 1034) (by decide) ?_
          refine W.widen (k := (55 + 12 * k + 8)) (n := (31858 + 4000 * k + 3500)) (by omega) (by omega) ?_
          exact hJ1034 S1006 Hf _ _ _ hP hS (lv_sub hl [0, 1, 2, 3, 4] rfl)
        refine lv_if_ne hx hb dL_law_991 (tgt := 1006) (by decide) (fun hc => ?_) (fun hc => ?_)
        · have Hf := p_i_f Hf hc
          refine W.widen (k := (55 + 12 * k + 8)) (n := (31858 + 4000 * k + 3500)) (by omega) (by omega) ?_
          exact hJ1006 T979 Hf _ _ _ hP hS (lv_sub hl [2, 3, 4, 5, 6] rfl)
        have Hf := p_i_t Hf hc
        refine lv_aload_n hx hb dL_law_994 rfl (lv_at hl 5 rfl) ?_
        refine lv_iconst (v := 0) hx hb dL_law_995 (by decide) ?_
        obtain ⟨hk_n17, Hf⟩ := p_g_some Hf
        obtain ⟨hi996, Hf⟩ := p_g_some Hf
        refine r_lald hx hb hK hP hk_n17 hi996 dL_law_996 ?_
        refine lv_iload hx hb dL_law_997 (lv_at hl 0 rfl) ?_
        refine lv_i2l (v := (r973 : Int32).toInt64) hx hb dL_law_999 rfl ?_
        refine W.lcmp hx hb dL_law_1000 ?_
        refine lv_if_eq hx hb dL_law_1001 (tgt := 1006) (by decide) (fun hc => ?_) (fun hc => ?_)
        · have Hf := p_i_t Hf hc
          refine W.widen (k := (55 + 12 * k + 8)) (n := (31858 + 4000 * k + 3500)) (by omega) (by omega) ?_
          exact hJ1006 T979 Hf _ _ _ hP hS (lv_sub hl [2, 3, 4, 5, 6] rfl)
        have Hf := p_i_f Hf hc
        refine lv_iconst (v := 0) hx hb dL_law_1004 (by decide) ?_
        exact absurd Hf (by decide)
      have Hf := p_i_f Hf hc
      refine lv_iconst (v := 0) hx hb dL_law_987 (by decide) ?_
      exact absurd Hf (by decide)
    rcases Hf with ⟨r955, T955, hq955, Hf⟩ | ⟨hk9, SE9, hq955, Hf⟩
    · refine r_cSW (n := 4) (As := [.ref n0, .int (xs ((y4_23 + 1) : Int32).toNatClampNeg), .int (xs ((y4_23 + 2) : Int32).toNatClampNeg), .ref n17]) (rest := []) ⟨hx, hb, hml, hown, hts⟩ (s_L_day l X hq955) (gi_W (lg_ps _ [941, 942, 64, 943] rfl (by decide +kernel))) (by decide +kernel) dL_law_955 rfl rfl ⟨Nat.le_of_ble_eq_true rfl, Nat.le_of_ble_eq_true rfl⟩ rfl hl.1 (Nat.le_of_ble_eq_true rfl) ⟨by show _ ≤ 601024; omega, by show _ ≤ 7293034; omega⟩ hK hRO hA hP hS (fun H locs hP hS => ?_)
      refine W.widen (k := (55 + 12 * k + 8)) (n := (31858 + 4000 * k + 3500)) (by omega) (by omega) ?_
      exact hJ958 T955 r955 Hf _ _ _ hP hS (lv_sub hl [0, 1, 2, 3, 4] rfl)
    refine r_cSW1 (n := 4) (As := [.ref n0, .int (xs ((y4_23 + 1) : Int32).toNatClampNeg), .int (xs ((y4_23 + 2) : Int32).toNatClampNeg), .ref n17]) (rest := []) ⟨hx, hb, hml, hown, hts⟩ (xs_L_day l hlt X hk9 hq955) (gi_W (lg_ps _ [941, 942, 64, 943] rfl (by decide +kernel))) (by decide +kernel) dL_law_955 rfl rfl ⟨Nat.le_of_ble_eq_true rfl, Nat.le_of_ble_eq_true rfl⟩ rfl hl.1 (Nat.le_of_ble_eq_true rfl) ⟨by show _ ≤ 601024; omega, by show _ ≤ 7293034; omega⟩ hK hRO hA hP hS (fun H locs hP hnx hS => ?_)
    refine W.widen (k := (55 + 12 * k + 8)) (n := (31858 + 4000 * k + 3500)) (by omega) (by omega) ?_
    exact hJ958 (st_sx SE9 H.size) 1 (Hf _ hnx) _ _ _ hP hS (lv_sub hl [0, 1, 2, 3, 4] rfl)
  have Hf := p_i_f Hf hs16
  by_cases hs17 : ((xs (y4_23 : Int32).toNatClampNeg) &&& 31) = 17
  · have Hf := p_i_t Hf hs17
    refine lv_tableIn hx hb dL_law_40 (by rw [hs17]; decide) (by rw [hs17]; decide) (off := 969) (by rw [hs17]; rfl) (tgt := 1009) (by decide) ?_
    refine lv_aload_n hx hb dL_law_1009 rfl (lv_at hl 1 rfl) ?_
    refine lv_aload_n hx hb dL_law_1010 rfl (lv_at hl 0 rfl) ?_
    refine lv_iload hx hb dL_law_1011 (lv_at hl 4 rfl) ?_
    refine lv_iconst (v := 1) hx hb dL_law_1013 (by decide) ?_
    refine lv_iadd hx hb dL_law_1014 ?_
    obtain ⟨hi1015, Hf⟩ := p_g_some Hf
    refine va_sld hx hb hX hbl hbA hS hi1015 dL_law_1015 ?_
    obtain ⟨hk_n0, Hf⟩ := p_g_some Hf
    obtain ⟨r1016, T1016, hq1016, Hf⟩ := p_c_some Hf
    refine r_cV (n := 1) (As := [.int (xs ((y4_23 + 1) : Int32).toNatClampNeg)]) (rest := []) ⟨hx, hb, hml, hown, hts⟩ (s_X8_count l X hq1016) lkm_L_106 (by decide +kernel) rfl (by decide) dL_law_1016 rfl rfl ⟨Nat.le_of_ble_eq_true rfl, Nat.le_of_ble_eq_true rfl⟩ hk_n0 rfl hl.1 (Nat.le_of_ble_eq_true rfl) ⟨by show _ ≤ 601024; omega, by show _ ≤ 7293034; omega⟩ hK hRO hA hP hS (fun H locs hP hS => ?_)
    refine W.eq (g2 := F0 m 1019 ls [.int r1016]) rfl ?_
    refine lv_aload_n hx hb dL_law_1019 rfl (lv_at hl 2 rfl) ?_
    refine lv_aload_n hx hb dL_law_1020 rfl (lv_at hl 0 rfl) ?_
    refine lv_iload hx hb dL_law_1021 (lv_at hl 4 rfl) ?_
    refine lv_iconst (v := 1) hx hb dL_law_1023 (by decide) ?_
    refine lv_iadd hx hb dL_law_1024 ?_
    obtain ⟨hi1025, Hf⟩ := p_g_some Hf
    refine va_sld hx hb hX hbl hbA hS hi1025 dL_law_1025 ?_
    obtain ⟨hk_n8, Hf⟩ := p_g_some Hf
    obtain ⟨r1026, T1026, hq1026, Hf⟩ := p_c_some Hf
    refine r_cV (n := 1) (As := [.int (xs ((y4_23 + 1) : Int32).toNatClampNeg)]) (rest := [.int r1016]) ⟨hx, hb, hml, hown, hts⟩ (s_X9_count l X hq1026) lkm_L_109 (by decide +kernel) rfl (by decide) dL_law_1026 rfl rfl ⟨Nat.le_of_ble_eq_true rfl, Nat.le_of_ble_eq_true rfl⟩ hk_n8 rfl hl.1 (Nat.le_of_ble_eq_true rfl) ⟨by show _ ≤ 601024; omega, by show _ ≤ 7293034; omega⟩ hK hRO hA hP hS (fun H locs hP hS => ?_)
    refine W.eq (g2 := F0 m 1029 ls [.int r1026, .int r1016]) rfl ?_
    refine lv_icmp_eq hx hb dL_law_1029 (tgt := 1034) (by decide) (fun hc => ?_) (fun hc => ?_)
    · have Hf := p_i_t Hf hc
      refine W.widen (k := (55 + 12 * k + 8)) (n := (31858 + 4000 * k + 3500)) (by omega) (by omega) ?_
      exact hJ1034 T1026 Hf _ _ _ hP hS (lv_sub hl [0, 1, 2, 3, 4] rfl)
    have Hf := p_i_f Hf hc
    refine lv_iconst (v := 0) hx hb dL_law_1032 (by decide) ?_
    exact absurd Hf (by decide)
  have Hf := p_i_f Hf hs17
  refine lv_tableOut hx hb dL_law_40 (by have n0 := sw_ne 0 hs0 (n := 0) rfl; have n1 := sw_ne 1 hs1 (n := 1) rfl; have n2 := sw_ne 2 hs2 (n := 2) rfl; have n3 := sw_ne 3 hs3 (n := 3) rfl; have n4 := sw_ne 4 hs4 (n := 4) rfl; have n5 := sw_ne 5 hs5 (n := 5) rfl; have n6 := sw_ne 6 hs6 (n := 6) rfl; have n7 := sw_ne 7 hs7 (n := 7) rfl; have n8 := sw_ne 8 hs8 (n := 8) rfl; have n9 := sw_ne 9 hs9 (n := 9) rfl; have n10 := sw_ne 10 hs10 (n := 10) rfl; have n11 := sw_ne 11 hs11 (n := 11) rfl; have n12 := sw_ne 12 hs12 (n := 12) rfl; have n13 := sw_ne 13 hs13 (n := 13) rfl; have n14 := sw_ne 14 hs14 (n := 14) rfl; have n15 := sw_ne 15 hs15 (n := 15) rfl; have n16 := sw_ne 16 hs16 (n := 16) rfl; have n17 := sw_ne 17 hs17 (n := 17) rfl; omega) (tgt := 1034) (by decide) ?_
  refine W.widen (k := (55 + 12 * k + 8)) (n := (31858 + 4000 * k + 3500)) (by omega) (by omega) ?_
  exact hJ1034 S23 Hf _ _ _ hP hS (lv_sub hl [0, 1, 2, 3, 4] rfl)
