/-! feed: bytes -/
section FE
variable {β : Type} {S S' S0 : st_T} {m x v : Nat} {M : mT} {A : aT}
def zb (w : Int64) (y : Int32) : Int32 := ((w >>> (y.toInt64 &&& 63)).toInt32) &&& 255
theorem zb_n (w : Int64) (y : Int32) : ∃ n, n ≤ 255 ∧ zb w y = nI n := by
  unfold zb
  generalize (w >>> (y.toInt64 &&& 63)).toInt32 = z
  have h : (z &&& 255).toBitVec.toNat ≤ 255 := by
    rw [Int32.toBitVec_and, BitVec.toNat_and]
    exact Nat.and_le_right
  refine ⟨(z &&& 255).toBitVec.toNat, h, Int32.toInt_inj.mp ?_⟩
  rw [nI_toInt (by omega)]
  show (z &&& 255).toBitVec.toInt = _
  rw [BitVec.toInt_eq_toNat_of_lt (by omega)]
theorem m255 (i : Nat) : (255#64).getLsbD i = decide (i < 8) := by
  rw [BitVec.getLsbD_ofNat]
  have : (255 : Nat) = 2 ^ 8 - 1 := by decide
  rw [this, Nat.testBit_two_pow_sub_one]
  by_cases h : i < 8
  · simp [h]; omega
  · simp [h]
theorem m255' (i : Nat) : (255#32).getLsbD i = decide (i < 8) := by
  rw [BitVec.getLsbD_ofNat]
  have : (255 : Nat) = 2 ^ 8 - 1 := by decide
  rw [this, Nat.testBit_two_pow_sub_one]
  by_cases h : i < 8
  · simp [h]; omega
  · simp [h]
theorem bv_byte (w : BitVec 64) (s : Nat) (hs : s ≤ 56) : (w >>> s).signExtend 32 &&& 255#32 = (w.sshiftRight s).signExtend 32 &&& 255#32 := by
  apply BitVec.eq_of_getLsbD_eq
  intro i hi
  simp only [BitVec.getLsbD_signExtend, BitVec.getLsbD_and, BitVec.getLsbD_ushiftRight, BitVec.getLsbD_sshiftRight, m255, m255']
  by_cases h : i < 8
  · have h1 : s + i < 64 := by omega
    have h2 : i < 64 := by omega
    simp [h, hi, h1, h2]
  · simp [h]
theorem zb_c (w : Int64) (j : Nat) (hj : j < 8) : (((((w : Int64).toUInt64 >>> ((nI (56 - 8 * j) : Int32).toInt64.toUInt64 &&& Int64.toUInt64 63)).toInt64) &&& 255) : Int64).toInt32 = zb w (nI (56 - 8 * j)) := by
  unfold zb
  have key : j = 0 ∨ j = 1 ∨ j = 2 ∨ j = 3 ∨ j = 4 ∨ j = 5 ∨ j = 6 ∨ j = 7 := by omega
  rcases key with z | z | z | z | z | z | z | z <;> subst z
  · have h1 : ((nI (56 - 8 * 0) : Int32).toInt64.toUInt64 &&& Int64.toUInt64 63) = 56 := by decide
    have h2 : ((nI (56 - 8 * 0) : Int32).toInt64 &&& 63) = 56 := by decide
    rw [h1, h2]
    apply Int32.toBitVec_inj.mp
    have := bv_byte w.toBitVec 56 (by omega)
    simp
    exact this
  · have h1 : ((nI (56 - 8 * 1) : Int32).toInt64.toUInt64 &&& Int64.toUInt64 63) = 48 := by decide
    have h2 : ((nI (56 - 8 * 1) : Int32).toInt64 &&& 63) = 48 := by decide
    rw [h1, h2]
    apply Int32.toBitVec_inj.mp
    have := bv_byte w.toBitVec 48 (by omega)
    simp
    exact this
  · have h1 : ((nI (56 - 8 * 2) : Int32).toInt64.toUInt64 &&& Int64.toUInt64 63) = 40 := by decide
    have h2 : ((nI (56 - 8 * 2) : Int32).toInt64 &&& 63) = 40 := by decide
    rw [h1, h2]
    apply Int32.toBitVec_inj.mp
    have := bv_byte w.toBitVec 40 (by omega)
    simp
    exact this
  · have h1 : ((nI (56 - 8 * 3) : Int32).toInt64.toUInt64 &&& Int64.toUInt64 63) = 32 := by decide
    have h2 : ((nI (56 - 8 * 3) : Int32).toInt64 &&& 63) = 32 := by decide
    rw [h1, h2]
    apply Int32.toBitVec_inj.mp
    have := bv_byte w.toBitVec 32 (by omega)
    simp
    exact this
  · have h1 : ((nI (56 - 8 * 4) : Int32).toInt64.toUInt64 &&& Int64.toUInt64 63) = 24 := by decide
    have h2 : ((nI (56 - 8 * 4) : Int32).toInt64 &&& 63) = 24 := by decide
    rw [h1, h2]
    apply Int32.toBitVec_inj.mp
    have := bv_byte w.toBitVec 24 (by omega)
    simp
    exact this
  · have h1 : ((nI (56 - 8 * 5) : Int32).toInt64.toUInt64 &&& Int64.toUInt64 63) = 16 := by decide
    have h2 : ((nI (56 - 8 * 5) : Int32).toInt64 &&& 63) = 16 := by decide
    rw [h1, h2]
    apply Int32.toBitVec_inj.mp
    have := bv_byte w.toBitVec 16 (by omega)
    simp
    exact this
  · have h1 : ((nI (56 - 8 * 6) : Int32).toInt64.toUInt64 &&& Int64.toUInt64 63) = 8 := by decide
    have h2 : ((nI (56 - 8 * 6) : Int32).toInt64 &&& 63) = 8 := by decide
    rw [h1, h2]
    apply Int32.toBitVec_inj.mp
    have := bv_byte w.toBitVec 8 (by omega)
    simp
    exact this
  · have h1 : ((nI (56 - 8 * 7) : Int32).toInt64.toUInt64 &&& Int64.toUInt64 63) = 0 := by decide
    have h2 : ((nI (56 - 8 * 7) : Int32).toInt64 &&& 63) = 0 := by decide
    rw [h1, h2]
    apply Int32.toBitVec_inj.mp
    have := bv_byte w.toBitVec 0 (by omega)
    simp

/-- a sign comes behind the tape -/
def sg1 (b : Nat) : Prop := b = 10 ∨ (32 ≤ b ∧ b ≤ 126)
def m_f1 (M : mT) (b : Nat) : mT := (M.1, M.2.1, M.2.2.1, M.2.2.2.1, M.2.2.2.2.1, m_tz M + 1, (fun i => if i = m_tz M then b else m_ts M i), M.2.2.2.2.2.2.2)
noncomputable def mf (M : mT) (b : Nat) : mT := if (b = 10 ∨ (32 ≤ b ∧ b ≤ 126)) ∧ m_tz M < 800 then m_f1 M b else M
theorem wM_f1 {b : Nat} (h : wM M) (hb : b = 10 ∨ (32 ≤ b ∧ b ≤ 126)) (hz : m_tz M < 800) : wM (m_f1 M b) := by
  obtain ⟨a1, a2, a3, a4, a5, a6, a7, a8, a9, a10⟩ := h
  refine ⟨a1, a2, a3, a4, a5, a6, a7, by show m_tz M + 1 ≤ 800; omega, fun j => ?_, a10⟩
  show (if j = m_tz M then b else m_ts M j) = 10 ∨ (32 ≤ (if j = m_tz M then b else m_ts M j) ∧ (if j = m_tz M then b else m_ts M j) ≤ 126)
  by_cases e : j = m_tz M
  · rw [if_pos e]; exact hb
  · rw [if_neg e]; exact a9 j
theorem wM_mf {b : Nat} (h : wM M) : wM (mf M b) := by
  unfold mf
  split
  · next q => exact wM_f1 h q.1 q.2
  · exact h
theorem cI_f1 {b : Nat} (h : CI S x A M v) : CI (st_pi (st_wi S (x + 11) (m_tz M) (nI b)) 501 (x + 10) (nI (m_tz M + 1))) x A (m_f1 M b) v := by
  obtain ⟨c1, c2, c3, c4, c5, c6, c7, c8, c9, c10, c11, c12, c13, c14, c15⟩ := h
  refine ⟨CS_pi _ _ _ (CS_wi _ _ _ c1), SA_ag c2 rfl rfl rfl (fun a ha => ri_wi_ne _ _ _ _ _ (by omega)), ?_, LSt_ag c4 rfl rfl rfl rfl rfl (fi_pi_nk _ _ _ _ _ _ (by omega)), fun i hi => ?_, fun i hi => ?_, LSt_ag c7 rfl rfl rfl rfl rfl (fi_pi_nk _ _ _ _ _ _ (by omega)), fun t ht => ?_, ?_, ?_, ?_, ?_, ?_, ?_, c15⟩
  · simp (disch := omega) only [ri_wi_ne, qri_pi]; exact c3
  · exact CDi_ag (A := A) (M := M) (c5 i hi) rfl rfl rfl rfl rfl (fi_pi_nk _ _ _ _ _ _ (by omega)) (fun k _ _ => fi_pi_nk _ _ _ _ _ _ (by omega)) (fun k hk j _ _ => fi_pi_nk _ _ _ _ _ _ (by omega))
  · exact CV_ag (CV_cg (c6 i hi) rfl rfl rfl rfl rfl rfl rfl rfl) (fi_pi_nk _ _ _ _ _ _ (by omega)) (fun k hk j _ _ => fi_pi_nk _ _ _ _ _ _ (by omega))
  · exact TX_ag (c8 t ht) rfl rfl rfl (fi_pi_nk _ _ _ _ _ _ (by omega)) (fun j hj => ri_wi_ne _ _ _ _ _ (by have := AD_b c15 ht hj; omega))
  · exact fi_pi_at _ _ _ _
  · intro j hj
    have hj' : j < m_tz M + 1 := hj
    show st_ri _ (x + 11) j = nI (if j = m_tz M then b else m_ts M j)
    rw [qri_pi]
    by_cases e : j = m_tz M
    · rw [if_pos e, e, ri_wi_at]
    · rw [if_neg e, ri_wi_nj _ _ _ _ _ _ e]; exact c10 j (by omega)
  · simp (disch := omega) only [ri_wi_ne, qri_pi]; exact c11
  · exact (fi_pi_nk _ _ _ _ _ _ (by omega)).trans c12
  · exact (fi_pi_nk _ _ _ _ _ _ (by omega)).trans c13
  · exact (fi_pi_nk _ _ _ _ _ _ (by omega)).trans c14
theorem rI_f1 {b : Nat} (h : RI S m M) : RI (st_pi (st_wi S (m + 1) (m_tz M) (nI b)) 1002 m (nI (m_tz M + 1))) m (m_f1 M b) := by
  obtain ⟨a0, a1, a2, a3, a4, a5, a6, a7, a8, a9, a10, a11, a12⟩ := h
  refine ⟨RS_pi _ _ _ (RS_wi _ _ _ a0), ?_, ?_, ?_, ?_, ?_, ?_, ?_, ?_, ?_, ?_, ?_, ?_⟩
  · simp (disch := omega) only [ri_wi_ne, qri_pi]; exact a1
  · simp (disch := omega) only [fi_pi_nk, qfi_wi]; exact a2
  · intro i hi
    simp (disch := omega) only [ri_wi_ne, qri_pi]
    exact a3 i hi
  · simp (disch := omega) only [ri_wi_ne, qri_pi]; exact a4
  · simp (disch := omega) only [ri_wi_ne, qri_pi]; exact a5
  · exact fi_pi_at _ _ _ _
  · intro j hj
    have hj' : j < m_tz M + 1 := hj
    show st_ri _ (m + 1) j = nI (if j = m_tz M then b else m_ts M j)
    rw [qri_pi]
    by_cases e : j = m_tz M
    · rw [if_pos e, e, ri_wi_at]
    · rw [if_neg e, ri_wi_nj _ _ _ _ _ _ e]; exact a7 j (by omega)
  · simp (disch := omega) only [ri_wi_ne, qri_pi]; exact a8
  · simp (disch := omega) only [fi_pi_nk, qfi_wi]; exact a9
  · simp (disch := omega) only [fi_pi_nk, qfi_wi]; exact a10
  · intro t ht
    refine RT_ri (a11 t ht) ?_ ?_ ?_ ?_ ?_ ?_ <;> simp (disch := omega) only [ri_wi_ne, qri_pi]
  · simp only [qrl_pi, qrl_wi]; exact a12
theorem vn_c {b : Nat} (h : b ≤ 255) : vp_nar .char (((nI b : Int32).toUInt32 % 65536).toInt32) = nI b := by
  have key : ∀ b : Fin 256, vp_nar .char (((nI b : Int32).toUInt32 % 65536).toInt32) = nI b := by decide +kernel
  exact key ⟨b, by omega⟩
/-- the bytes of a long -/
noncomputable def byt (w : Int64) (j : Nat) : Nat := Classical.choose (zb_n w (nI (56 - 8 * j)))
theorem byt_s (w : Int64) (j : Nat) : byt w j ≤ 255 ∧ zb w (nI (56 - 8 * j)) = nI (byt w j) := Classical.choose_spec (zb_n w (nI (56 - 8 * j)))
noncomputable def mfb (M : mT) (w : Int64) : Nat → mT
  | 0 => M
  | j + 1 => mf (mfb M w j) (byt w j)
theorem wM_mfb (h : wM M) (w : Int64) (j : Nat) : wM (mfb M w j) := by
  induction j with
  | zero => exact h
  | succ j ih => exact wM_mf ih
def yj (j : Nat) : Int32 := if j < 8 then nI (56 - 8 * j) else nI 0 + m8
theorem yj_s {j : Nat} (h : j < 8) : nI (56 - 8 * j) + m8 = yj (j + 1) := by
  unfold yj
  by_cases c : j + 1 < 8
  · rw [if_pos c, m8_add (by omega)]
    congr 1
  · rw [if_neg c]
    have : 56 - 8 * j = 0 := by omega
    rw [this]
theorem c_addB {w : Int64} (h : CI S x A M v) (hw : wM M) : ok (f_X4_addBytes S (x + 10) w) (fun _ S' => CI S' x A (mfb M w 8) v ∧ fc x S S') := by
  unfold f_X4_addBytes
  refine ok_cnt (Q := fun _ S' => CI S' x A (mfb M w 8) v ∧ fc x S S') 8 (fun j a => ∃ S1, a = (S1, yj j) ∧ CI S1 x A (mfb M w j) v ∧ fc x S S1) ?_ ?_ c_N 0 _ (by omega) ⟨S, rfl, h, fc_rf⟩ (N_big (by omega))
  · rintro j a rec hj ⟨S1, rfl, f1, f2⟩ hrec
    have hw1 := wM_mfb hw w j
    have hc := CI_s f1
    have hz := CI_tz f1
    have tz := wM_tz hw1
    obtain ⟨b1, b2⟩ := byt_s w j
    have zc := zb_c w j hj
    rw [b2] at zc
    have hy : yj j = nI (56 - 8 * j) := by unfold yj; rw [if_pos hj]
    have hys := yj_s hj
    have vc := vn_c b1
    rw [hy]
    have e9 : mfb M w (j + 1) = mf (mfb M w j) (byt w j) := rfl
    generalize mfb M w j = M1 at *
    generalize byt w j = b at *
    by_cases g : b = 10 ∨ (32 ≤ b ∧ b ≤ 126)
    · by_cases g2 : m_tz M1 < 800
      · have em : mfb M w (j + 1) = m_f1 M1 b := by rw [e9]; unfold mf; rw [if_pos ⟨g, g2⟩]
        have st : b_X4_addBytes_3 (x + 10) w rec (S1, nI (56 - 8 * j)) = rec (st_pi (st_wi S1 (x + 11) (m_tz M1) (nI b)) 501 (x + 10) (nI (m_tz M1 + 1)), yj (j + 1)) := by
          rw [← hys]
          rcases g with g | g
          · simp (disch := first | omega | assumption | (repeat first | assumption | apply RS_pi | apply RS_wi | apply RS_wl | apply CS_pi | apply CS_wi | apply CS_wl | apply CS_wo | apply CS_xo | apply RI_w15 | apply RI_w16 | apply RI_w17 | apply RI_w26 | apply RI_w27 | apply RI_w28 | apply RI_p1000)) only [b_X4_addBytes_3, j_X4_addBytes_36, j_X4_addBytes_68, ↓reduceIte, ↓xg, ↓xi, ↓xl_wi, ↓xl_wl, ↓xl_pi, ↓xlI, ↓xlL, ↓xlN, xl, ↓xn, ↓xc, ↓xon, ↓xos, ↓ln_1, ↓ln_2, ↓ln_3, ↓ln_8, qli_0, qli_1, qli_2, qli_3, qli_4, qli_5, qli_6, qli_7, qli_8, qli_9, qli_10, qli_11, qli_12, qli_13, qli_14, qli_15, qli_16, qli_17, qli_18, qli_19, qli_20, qli_21, qli_22, qli_23, qli_24, qli_25, qli_26, qli_31, qli_32, qli_37, qli_39, qli_40, qli_41, qli_42, qli_43, qli_45, qli_47, qli_48, qli_49, qli_50, qli_56, qli_57, qli_59, qli_60, qli_61, qli_63, qli_64, qli_96, qli_97, qli_99, qli_100, qli_101, qli_122, qli_126, qli_143, qli_144, qli_192, qli_200, qli_201, qli_216, qli_255, qli_256, qli_780, qli_799, qli_800, qli_801, qli_802, qli_880, qli_1000, qli_5760, qli_7040, qli_7920, qli_1000000, in_t, le_t, le_f, lt_t, lt_f, eq_t, eq_f, nI_add, nI_sub', nI_mul, nI_clamp, m1_ne, m1_ne', m1_lt, m1_le, m1_nlt, m1_nle, m1_add, eq_self, not_true_eq_false, not_false_eq_true, ne_eq, Nat.reduceLeDiff, Nat.reduceLT, and_true, true_and, and_self, or_true, true_or, or_false, false_or, false_and, and_false, qK_pi, qK_pr, qK_wi, qK_wl, qK_wo, qK_xi, qK_xo, qfr_pi', qfr_wi', qfr_wl', qfr_wo', qfr_xi', qfr_xo', qfi_pr, qfi_wi, qfi_wl, qfi_wo, qfi_xi, qfi_xo, qln_pi, qln_pr, qln_wi, qln_wl, qln_wo, qln_xi, qln_xo, qri_pi, qri_pr, qri_wl, qri_wo, qri_xo, qrl_pi, qrl_pr, qrl_wi, qrl_wo, qrl_xi, qrl_xo, qro_pi, qro_pr, qro_wi, qro_wl, qro_xi, qnx_pi, qnx_pr, qnx_wi, qnx_wl, qnx_wo, qnx_xi, qnx_xo, qsa_pi, qsa_wi, qsa_wl, qsa_pr, qsa_wo, fi_pi_at, fi_pi_nk, fi_pi_na, ri_wi_at, ri_wi_ne, ri_wi_nj, rl_wl_at, rl_wl_ne, rl_wl_nj, fr_pr_at, fr_pr_nk, fr_pr_na, ↓zc, zc, hc, hz, ↓cn_500, vc, ↓cW]
          · simp (disch := first | omega | assumption | (repeat first | assumption | apply RS_pi | apply RS_wi | apply RS_wl | apply CS_pi | apply CS_wi | apply CS_wl | apply CS_wo | apply CS_xo | apply RI_w15 | apply RI_w16 | apply RI_w17 | apply RI_w26 | apply RI_w27 | apply RI_w28 | apply RI_p1000)) only [b_X4_addBytes_3, j_X4_addBytes_36, j_X4_addBytes_68, ↓reduceIte, ↓xg, ↓xi, ↓xl_wi, ↓xl_wl, ↓xl_pi, ↓xlI, ↓xlL, ↓xlN, xl, ↓xn, ↓xc, ↓xon, ↓xos, ↓ln_1, ↓ln_2, ↓ln_3, ↓ln_8, qli_0, qli_1, qli_2, qli_3, qli_4, qli_5, qli_6, qli_7, qli_8, qli_9, qli_10, qli_11, qli_12, qli_13, qli_14, qli_15, qli_16, qli_17, qli_18, qli_19, qli_20, qli_21, qli_22, qli_23, qli_24, qli_25, qli_26, qli_31, qli_32, qli_37, qli_39, qli_40, qli_41, qli_42, qli_43, qli_45, qli_47, qli_48, qli_49, qli_50, qli_56, qli_57, qli_59, qli_60, qli_61, qli_63, qli_64, qli_96, qli_97, qli_99, qli_100, qli_101, qli_122, qli_126, qli_143, qli_144, qli_192, qli_200, qli_201, qli_216, qli_255, qli_256, qli_780, qli_799, qli_800, qli_801, qli_802, qli_880, qli_1000, qli_5760, qli_7040, qli_7920, qli_1000000, in_t, le_t, le_f, lt_t, lt_f, eq_t, eq_f, nI_add, nI_sub', nI_mul, nI_clamp, m1_ne, m1_ne', m1_lt, m1_le, m1_nlt, m1_nle, m1_add, eq_self, not_true_eq_false, not_false_eq_true, ne_eq, Nat.reduceLeDiff, Nat.reduceLT, and_true, true_and, and_self, or_true, true_or, or_false, false_or, false_and, and_false, qK_pi, qK_pr, qK_wi, qK_wl, qK_wo, qK_xi, qK_xo, qfr_pi', qfr_wi', qfr_wl', qfr_wo', qfr_xi', qfr_xo', qfi_pr, qfi_wi, qfi_wl, qfi_wo, qfi_xi, qfi_xo, qln_pi, qln_pr, qln_wi, qln_wl, qln_wo, qln_xi, qln_xo, qri_pi, qri_pr, qri_wl, qri_wo, qri_xo, qrl_pi, qrl_pr, qrl_wi, qrl_wo, qrl_xi, qrl_xo, qro_pi, qro_pr, qro_wi, qro_wl, qro_xi, qnx_pi, qnx_pr, qnx_wi, qnx_wl, qnx_wo, qnx_xi, qnx_xo, qsa_pi, qsa_wi, qsa_wl, qsa_pr, qsa_wo, fi_pi_at, fi_pi_nk, fi_pi_na, ri_wi_at, ri_wi_ne, ri_wi_nj, rl_wl_at, rl_wl_ne, rl_wl_nj, fr_pr_at, fr_pr_nk, fr_pr_na, ↓zc, zc, hc, hz, ↓cn_500, vc, ↓cW]
        rw [st]
        exact hrec _ ⟨_, rfl, by rw [em]; exact cI_f1 f1, fc_pi (fc_wi f2 (by omega)) (by omega)⟩
      · have em : mfb M w (j + 1) = M1 := by rw [e9]; unfold mf; rw [if_neg (fun q => g2 q.2)]
        have st : b_X4_addBytes_3 (x + 10) w rec (S1, nI (56 - 8 * j)) = rec (S1, yj (j + 1)) := by
          rw [← hys]
          rcases g with g | g
          · simp (disch := first | omega | assumption | (repeat first | assumption | apply RS_pi | apply RS_wi | apply RS_wl | apply CS_pi | apply CS_wi | apply CS_wl | apply CS_wo | apply CS_xo | apply RI_w15 | apply RI_w16 | apply RI_w17 | apply RI_w26 | apply RI_w27 | apply RI_w28 | apply RI_p1000)) only [b_X4_addBytes_3, j_X4_addBytes_36, j_X4_addBytes_68, ↓reduceIte, ↓xg, ↓xi, ↓xl_wi, ↓xl_wl, ↓xl_pi, ↓xlI, ↓xlL, ↓xlN, xl, ↓xn, ↓xc, ↓xon, ↓xos, ↓ln_1, ↓ln_2, ↓ln_3, ↓ln_8, qli_0, qli_1, qli_2, qli_3, qli_4, qli_5, qli_6, qli_7, qli_8, qli_9, qli_10, qli_11, qli_12, qli_13, qli_14, qli_15, qli_16, qli_17, qli_18, qli_19, qli_20, qli_21, qli_22, qli_23, qli_24, qli_25, qli_26, qli_31, qli_32, qli_37, qli_39, qli_40, qli_41, qli_42, qli_43, qli_45, qli_47, qli_48, qli_49, qli_50, qli_56, qli_57, qli_59, qli_60, qli_61, qli_63, qli_64, qli_96, qli_97, qli_99, qli_100, qli_101, qli_122, qli_126, qli_143, qli_144, qli_192, qli_200, qli_201, qli_216, qli_255, qli_256, qli_780, qli_799, qli_800, qli_801, qli_802, qli_880, qli_1000, qli_5760, qli_7040, qli_7920, qli_1000000, in_t, le_t, le_f, lt_t, lt_f, eq_t, eq_f, nI_add, nI_sub', nI_mul, nI_clamp, m1_ne, m1_ne', m1_lt, m1_le, m1_nlt, m1_nle, m1_add, eq_self, not_true_eq_false, not_false_eq_true, ne_eq, Nat.reduceLeDiff, Nat.reduceLT, and_true, true_and, and_self, or_true, true_or, or_false, false_or, false_and, and_false, qK_pi, qK_pr, qK_wi, qK_wl, qK_wo, qK_xi, qK_xo, qfr_pi', qfr_wi', qfr_wl', qfr_wo', qfr_xi', qfr_xo', qfi_pr, qfi_wi, qfi_wl, qfi_wo, qfi_xi, qfi_xo, qln_pi, qln_pr, qln_wi, qln_wl, qln_wo, qln_xi, qln_xo, qri_pi, qri_pr, qri_wl, qri_wo, qri_xo, qrl_pi, qrl_pr, qrl_wi, qrl_wo, qrl_xi, qrl_xo, qro_pi, qro_pr, qro_wi, qro_wl, qro_xi, qnx_pi, qnx_pr, qnx_wi, qnx_wl, qnx_wo, qnx_xi, qnx_xo, qsa_pi, qsa_wi, qsa_wl, qsa_pr, qsa_wo, fi_pi_at, fi_pi_nk, fi_pi_na, ri_wi_at, ri_wi_ne, ri_wi_nj, rl_wl_at, rl_wl_ne, rl_wl_nj, fr_pr_at, fr_pr_nk, fr_pr_na, ↓zc, zc, hc, hz, ↓cn_500, vc, ↓cW]
          · simp (disch := first | omega | assumption | (repeat first | assumption | apply RS_pi | apply RS_wi | apply RS_wl | apply CS_pi | apply CS_wi | apply CS_wl | apply CS_wo | apply CS_xo | apply RI_w15 | apply RI_w16 | apply RI_w17 | apply RI_w26 | apply RI_w27 | apply RI_w28 | apply RI_p1000)) only [b_X4_addBytes_3, j_X4_addBytes_36, j_X4_addBytes_68, ↓reduceIte, ↓xg, ↓xi, ↓xl_wi, ↓xl_wl, ↓xl_pi, ↓xlI, ↓xlL, ↓xlN, xl, ↓xn, ↓xc, ↓xon, ↓xos, ↓ln_1, ↓ln_2, ↓ln_3, ↓ln_8, qli_0, qli_1, qli_2, qli_3, qli_4, qli_5, qli_6, qli_7, qli_8, qli_9, qli_10, qli_11, qli_12, qli_13, qli_14, qli_15, qli_16, qli_17, qli_18, qli_19, qli_20, qli_21, qli_22, qli_23, qli_24, qli_25, qli_26, qli_31, qli_32, qli_37, qli_39, qli_40, qli_41, qli_42, qli_43, qli_45, qli_47, qli_48, qli_49, qli_50, qli_56, qli_57, qli_59, qli_60, qli_61, qli_63, qli_64, qli_96, qli_97, qli_99, qli_100, qli_101, qli_122, qli_126, qli_143, qli_144, qli_192, qli_200, qli_201, qli_216, qli_255, qli_256, qli_780, qli_799, qli_800, qli_801, qli_802, qli_880, qli_1000, qli_5760, qli_7040, qli_7920, qli_1000000, in_t, le_t, le_f, lt_t, lt_f, eq_t, eq_f, nI_add, nI_sub', nI_mul, nI_clamp, m1_ne, m1_ne', m1_lt, m1_le, m1_nlt, m1_nle, m1_add, eq_self, not_true_eq_false, not_false_eq_true, ne_eq, Nat.reduceLeDiff, Nat.reduceLT, and_true, true_and, and_self, or_true, true_or, or_false, false_or, false_and, and_false, qK_pi, qK_pr, qK_wi, qK_wl, qK_wo, qK_xi, qK_xo, qfr_pi', qfr_wi', qfr_wl', qfr_wo', qfr_xi', qfr_xo', qfi_pr, qfi_wi, qfi_wl, qfi_wo, qfi_xi, qfi_xo, qln_pi, qln_pr, qln_wi, qln_wl, qln_wo, qln_xi, qln_xo, qri_pi, qri_pr, qri_wl, qri_wo, qri_xo, qrl_pi, qrl_pr, qrl_wi, qrl_wo, qrl_xi, qrl_xo, qro_pi, qro_pr, qro_wi, qro_wl, qro_xi, qnx_pi, qnx_pr, qnx_wi, qnx_wl, qnx_wo, qnx_xi, qnx_xo, qsa_pi, qsa_wi, qsa_wl, qsa_pr, qsa_wo, fi_pi_at, fi_pi_nk, fi_pi_na, ri_wi_at, ri_wi_ne, ri_wi_nj, rl_wl_at, rl_wl_ne, rl_wl_nj, fr_pr_at, fr_pr_nk, fr_pr_na, ↓zc, zc, hc, hz, ↓cn_500, vc, ↓cW]
        rw [st]
        exact hrec _ ⟨_, rfl, by rw [em]; exact f1, f2⟩
    · have em : mfb M w (j + 1) = M1 := by rw [e9]; unfold mf; rw [if_neg (fun q => g q.1)]
      have st : b_X4_addBytes_3 (x + 10) w rec (S1, nI (56 - 8 * j)) = rec (S1, yj (j + 1)) := by
        rw [← hys]
        by_cases g3 : b < 32
        · simp (disch := first | omega | assumption | (repeat first | assumption | apply RS_pi | apply RS_wi | apply RS_wl | apply CS_pi | apply CS_wi | apply CS_wl | apply CS_wo | apply CS_xo | apply RI_w15 | apply RI_w16 | apply RI_w17 | apply RI_w26 | apply RI_w27 | apply RI_w28 | apply RI_p1000)) only [b_X4_addBytes_3, j_X4_addBytes_36, j_X4_addBytes_68, ↓reduceIte, ↓xg, ↓xi, ↓xl_wi, ↓xl_wl, ↓xl_pi, ↓xlI, ↓xlL, ↓xlN, xl, ↓xn, ↓xc, ↓xon, ↓xos, ↓ln_1, ↓ln_2, ↓ln_3, ↓ln_8, qli_0, qli_1, qli_2, qli_3, qli_4, qli_5, qli_6, qli_7, qli_8, qli_9, qli_10, qli_11, qli_12, qli_13, qli_14, qli_15, qli_16, qli_17, qli_18, qli_19, qli_20, qli_21, qli_22, qli_23, qli_24, qli_25, qli_26, qli_31, qli_32, qli_37, qli_39, qli_40, qli_41, qli_42, qli_43, qli_45, qli_47, qli_48, qli_49, qli_50, qli_56, qli_57, qli_59, qli_60, qli_61, qli_63, qli_64, qli_96, qli_97, qli_99, qli_100, qli_101, qli_122, qli_126, qli_143, qli_144, qli_192, qli_200, qli_201, qli_216, qli_255, qli_256, qli_780, qli_799, qli_800, qli_801, qli_802, qli_880, qli_1000, qli_5760, qli_7040, qli_7920, qli_1000000, in_t, le_t, le_f, lt_t, lt_f, eq_t, eq_f, nI_add, nI_sub', nI_mul, nI_clamp, m1_ne, m1_ne', m1_lt, m1_le, m1_nlt, m1_nle, m1_add, eq_self, not_true_eq_false, not_false_eq_true, ne_eq, Nat.reduceLeDiff, Nat.reduceLT, and_true, true_and, and_self, or_true, true_or, or_false, false_or, false_and, and_false, qK_pi, qK_pr, qK_wi, qK_wl, qK_wo, qK_xi, qK_xo, qfr_pi', qfr_wi', qfr_wl', qfr_wo', qfr_xi', qfr_xo', qfi_pr, qfi_wi, qfi_wl, qfi_wo, qfi_xi, qfi_xo, qln_pi, qln_pr, qln_wi, qln_wl, qln_wo, qln_xi, qln_xo, qri_pi, qri_pr, qri_wl, qri_wo, qri_xo, qrl_pi, qrl_pr, qrl_wi, qrl_wo, qrl_xi, qrl_xo, qro_pi, qro_pr, qro_wi, qro_wl, qro_xi, qnx_pi, qnx_pr, qnx_wi, qnx_wl, qnx_wo, qnx_xi, qnx_xo, qsa_pi, qsa_wi, qsa_wl, qsa_pr, qsa_wo, fi_pi_at, fi_pi_nk, fi_pi_na, ri_wi_at, ri_wi_ne, ri_wi_nj, rl_wl_at, rl_wl_ne, rl_wl_nj, fr_pr_at, fr_pr_nk, fr_pr_na, ↓zc, zc, hc, hz, ↓cn_500, vc, ↓cW]
        · simp (disch := first | omega | assumption | (repeat first | assumption | apply RS_pi | apply RS_wi | apply RS_wl | apply CS_pi | apply CS_wi | apply CS_wl | apply CS_wo | apply CS_xo | apply RI_w15 | apply RI_w16 | apply RI_w17 | apply RI_w26 | apply RI_w27 | apply RI_w28 | apply RI_p1000)) only [b_X4_addBytes_3, j_X4_addBytes_36, j_X4_addBytes_68, ↓reduceIte, ↓xg, ↓xi, ↓xl_wi, ↓xl_wl, ↓xl_pi, ↓xlI, ↓xlL, ↓xlN, xl, ↓xn, ↓xc, ↓xon, ↓xos, ↓ln_1, ↓ln_2, ↓ln_3, ↓ln_8, qli_0, qli_1, qli_2, qli_3, qli_4, qli_5, qli_6, qli_7, qli_8, qli_9, qli_10, qli_11, qli_12, qli_13, qli_14, qli_15, qli_16, qli_17, qli_18, qli_19, qli_20, qli_21, qli_22, qli_23, qli_24, qli_25, qli_26, qli_31, qli_32, qli_37, qli_39, qli_40, qli_41, qli_42, qli_43, qli_45, qli_47, qli_48, qli_49, qli_50, qli_56, qli_57, qli_59, qli_60, qli_61, qli_63, qli_64, qli_96, qli_97, qli_99, qli_100, qli_101, qli_122, qli_126, qli_143, qli_144, qli_192, qli_200, qli_201, qli_216, qli_255, qli_256, qli_780, qli_799, qli_800, qli_801, qli_802, qli_880, qli_1000, qli_5760, qli_7040, qli_7920, qli_1000000, in_t, le_t, le_f, lt_t, lt_f, eq_t, eq_f, nI_add, nI_sub', nI_mul, nI_clamp, m1_ne, m1_ne', m1_lt, m1_le, m1_nlt, m1_nle, m1_add, eq_self, not_true_eq_false, not_false_eq_true, ne_eq, Nat.reduceLeDiff, Nat.reduceLT, and_true, true_and, and_self, or_true, true_or, or_false, false_or, false_and, and_false, qK_pi, qK_pr, qK_wi, qK_wl, qK_wo, qK_xi, qK_xo, qfr_pi', qfr_wi', qfr_wl', qfr_wo', qfr_xi', qfr_xo', qfi_pr, qfi_wi, qfi_wl, qfi_wo, qfi_xi, qfi_xo, qln_pi, qln_pr, qln_wi, qln_wl, qln_wo, qln_xi, qln_xo, qri_pi, qri_pr, qri_wl, qri_wo, qri_xo, qrl_pi, qrl_pr, qrl_wi, qrl_wo, qrl_xi, qrl_xo, qro_pi, qro_pr, qro_wi, qro_wl, qro_xi, qnx_pi, qnx_pr, qnx_wi, qnx_wl, qnx_wo, qnx_xi, qnx_xo, qsa_pi, qsa_wi, qsa_wl, qsa_pr, qsa_wo, fi_pi_at, fi_pi_nk, fi_pi_na, ri_wi_at, ri_wi_ne, ri_wi_nj, rl_wl_at, rl_wl_ne, rl_wl_nj, fr_pr_at, fr_pr_nk, fr_pr_na, ↓zc, zc, hc, hz, ↓cn_500, vc, ↓cW]
      rw [st]
      exact hrec _ ⟨_, rfl, by rw [em]; exact f1, f2⟩
  · rintro a rec ⟨S1, rfl, f1, f2⟩
    have hy : yj 8 = nI 0 + m8 := rfl
    rw [hy]
    have h0 : nI 0 + m8 < nI 0 := by decide
    simp (disch := first | omega | assumption | (repeat first | assumption | apply RS_pi | apply RS_wi | apply RS_wl | apply CS_pi | apply CS_wi | apply CS_wl | apply CS_wo | apply CS_xo | apply RI_w15 | apply RI_w16 | apply RI_w17 | apply RI_w26 | apply RI_w27 | apply RI_w28 | apply RI_p1000)) only [b_X4_addBytes_3, ↓reduceIte, ↓xi, qli_0, h0]
    exact ok_of rfl ⟨f1, f2⟩

theorem r_lay {w : Int64} (h : RI S m M) (hw : wM M) : ok (f_X9_lay S m w) (fun _ S' => RI S' m (mfb M w 8) ∧ fq (rR m) (rF m) S S') := by
  unfold f_X9_lay
  refine ok_cnt (Q := fun _ S' => RI S' m (mfb M w 8) ∧ fq (rR m) (rF m) S S') 8 (fun j a => ∃ S1, a = (S1, yj j) ∧ RI S1 m (mfb M w j) ∧ fq (rR m) (rF m) S S1) ?_ ?_ c_N 0 _ (by omega) ⟨S, rfl, h, fq_rf⟩ (N_big (by omega))
  · rintro j a rec hj ⟨S1, rfl, f1, f2⟩ hrec
    have hw1 := wM_mfb hw w j
    have hs := RI_s f1
    have hz := RI_tz f1
    have tz := wM_tz hw1
    obtain ⟨b1, b2⟩ := byt_s w j
    have zc : (((w >>> ((nI (56 - 8 * j)).toInt64 &&& 63)) : Int64).toInt32) &&& 255 = nI (byt w j) := b2
    have hy : yj j = nI (56 - 8 * j) := by unfold yj; rw [if_pos hj]
    have hys := yj_s hj
    rw [hy]
    have e9 : mfb M w (j + 1) = mf (mfb M w j) (byt w j) := rfl
    generalize mfb M w j = M1 at *
    generalize byt w j = b at *
    by_cases g : b = 10 ∨ (32 ≤ b ∧ b ≤ 126)
    · by_cases g2 : m_tz M1 < 800
      · have em : mfb M w (j + 1) = m_f1 M1 b := by rw [e9]; unfold mf; rw [if_pos ⟨g, g2⟩]
        have st : b_X9_lay_3 m w rec (S1, nI (56 - 8 * j)) = rec (st_pi (st_wi S1 (m + 1) (m_tz M1) (nI b)) 1002 m (nI (m_tz M1 + 1)), yj (j + 1)) := by
          rw [← hys]
          rcases g with g | g
          · simp (disch := first | omega | assumption | (repeat first | assumption | apply RS_pi | apply RS_wi | apply RS_wl | apply CS_pi | apply CS_wi | apply CS_wl | apply CS_wo | apply CS_xo | apply RI_w15 | apply RI_w16 | apply RI_w17 | apply RI_w26 | apply RI_w27 | apply RI_w28 | apply RI_p1000)) only [b_X9_lay_3, j_X9_lay_38, j_X9_lay_69, ↓reduceIte, ↓xg, ↓xi, ↓xl_wi, ↓xl_wl, ↓xl_pi, ↓xlI, ↓xlL, ↓xlN, xl, ↓xn, ↓xc, ↓xon, ↓xos, ↓ln_1, ↓ln_2, ↓ln_3, ↓ln_8, qli_0, qli_1, qli_2, qli_3, qli_4, qli_5, qli_6, qli_7, qli_8, qli_9, qli_10, qli_11, qli_12, qli_13, qli_14, qli_15, qli_16, qli_17, qli_18, qli_19, qli_20, qli_21, qli_22, qli_23, qli_24, qli_25, qli_26, qli_31, qli_32, qli_37, qli_39, qli_40, qli_41, qli_42, qli_43, qli_45, qli_47, qli_48, qli_49, qli_50, qli_56, qli_57, qli_59, qli_60, qli_61, qli_63, qli_64, qli_96, qli_97, qli_99, qli_100, qli_101, qli_122, qli_126, qli_143, qli_144, qli_192, qli_200, qli_201, qli_216, qli_255, qli_256, qli_780, qli_799, qli_800, qli_801, qli_802, qli_880, qli_1000, qli_5760, qli_7040, qli_7920, qli_1000000, in_t, le_t, le_f, lt_t, lt_f, eq_t, eq_f, nI_add, nI_sub', nI_mul, nI_clamp, m1_ne, m1_ne', m1_lt, m1_le, m1_nlt, m1_nle, m1_add, eq_self, not_true_eq_false, not_false_eq_true, ne_eq, Nat.reduceLeDiff, Nat.reduceLT, and_true, true_and, and_self, or_true, true_or, or_false, false_or, false_and, and_false, qK_pi, qK_pr, qK_wi, qK_wl, qK_wo, qK_xi, qK_xo, qfr_pi', qfr_wi', qfr_wl', qfr_wo', qfr_xi', qfr_xo', qfi_pr, qfi_wi, qfi_wl, qfi_wo, qfi_xi, qfi_xo, qln_pi, qln_pr, qln_wi, qln_wl, qln_wo, qln_xi, qln_xo, qri_pi, qri_pr, qri_wl, qri_wo, qri_xo, qrl_pi, qrl_pr, qrl_wi, qrl_wo, qrl_xi, qrl_xo, qro_pi, qro_pr, qro_wi, qro_wl, qro_xi, qnx_pi, qnx_pr, qnx_wi, qnx_wl, qnx_wo, qnx_xi, qnx_xo, qsa_pi, qsa_wi, qsa_wl, qsa_pr, qsa_wo, fi_pi_at, fi_pi_nk, fi_pi_na, ri_wi_at, ri_wi_ne, ri_wi_nj, rl_wl_at, rl_wl_ne, rl_wl_nj, fr_pr_at, fr_pr_nk, fr_pr_na, ↓zc, zc, hs, hz, ↓rn_1001]
          · simp (disch := first | omega | assumption | (repeat first | assumption | apply RS_pi | apply RS_wi | apply RS_wl | apply CS_pi | apply CS_wi | apply CS_wl | apply CS_wo | apply CS_xo | apply RI_w15 | apply RI_w16 | apply RI_w17 | apply RI_w26 | apply RI_w27 | apply RI_w28 | apply RI_p1000)) only [b_X9_lay_3, j_X9_lay_38, j_X9_lay_69, ↓reduceIte, ↓xg, ↓xi, ↓xl_wi, ↓xl_wl, ↓xl_pi, ↓xlI, ↓xlL, ↓xlN, xl, ↓xn, ↓xc, ↓xon, ↓xos, ↓ln_1, ↓ln_2, ↓ln_3, ↓ln_8, qli_0, qli_1, qli_2, qli_3, qli_4, qli_5, qli_6, qli_7, qli_8, qli_9, qli_10, qli_11, qli_12, qli_13, qli_14, qli_15, qli_16, qli_17, qli_18, qli_19, qli_20, qli_21, qli_22, qli_23, qli_24, qli_25, qli_26, qli_31, qli_32, qli_37, qli_39, qli_40, qli_41, qli_42, qli_43, qli_45, qli_47, qli_48, qli_49, qli_50, qli_56, qli_57, qli_59, qli_60, qli_61, qli_63, qli_64, qli_96, qli_97, qli_99, qli_100, qli_101, qli_122, qli_126, qli_143, qli_144, qli_192, qli_200, qli_201, qli_216, qli_255, qli_256, qli_780, qli_799, qli_800, qli_801, qli_802, qli_880, qli_1000, qli_5760, qli_7040, qli_7920, qli_1000000, in_t, le_t, le_f, lt_t, lt_f, eq_t, eq_f, nI_add, nI_sub', nI_mul, nI_clamp, m1_ne, m1_ne', m1_lt, m1_le, m1_nlt, m1_nle, m1_add, eq_self, not_true_eq_false, not_false_eq_true, ne_eq, Nat.reduceLeDiff, Nat.reduceLT, and_true, true_and, and_self, or_true, true_or, or_false, false_or, false_and, and_false, qK_pi, qK_pr, qK_wi, qK_wl, qK_wo, qK_xi, qK_xo, qfr_pi', qfr_wi', qfr_wl', qfr_wo', qfr_xi', qfr_xo', qfi_pr, qfi_wi, qfi_wl, qfi_wo, qfi_xi, qfi_xo, qln_pi, qln_pr, qln_wi, qln_wl, qln_wo, qln_xi, qln_xo, qri_pi, qri_pr, qri_wl, qri_wo, qri_xo, qrl_pi, qrl_pr, qrl_wi, qrl_wo, qrl_xi, qrl_xo, qro_pi, qro_pr, qro_wi, qro_wl, qro_xi, qnx_pi, qnx_pr, qnx_wi, qnx_wl, qnx_wo, qnx_xi, qnx_xo, qsa_pi, qsa_wi, qsa_wl, qsa_pr, qsa_wo, fi_pi_at, fi_pi_nk, fi_pi_na, ri_wi_at, ri_wi_ne, ri_wi_nj, rl_wl_at, rl_wl_ne, rl_wl_nj, fr_pr_at, fr_pr_nk, fr_pr_na, ↓zc, zc, hs, hz, ↓rn_1001]
        rw [st]
        exact hrec _ ⟨_, rfl, by rw [em]; exact rI_f1 f1, fq_pi (fq_wi f2 (by unfold rR; omega)) ⟨rfl, rfl⟩⟩
      · have em : mfb M w (j + 1) = M1 := by rw [e9]; unfold mf; rw [if_neg (fun q => g2 q.2)]
        have st : b_X9_lay_3 m w rec (S1, nI (56 - 8 * j)) = rec (S1, yj (j + 1)) := by
          rw [← hys]
          rcases g with g | g
          · simp (disch := first | omega | assumption | (repeat first | assumption | apply RS_pi | apply RS_wi | apply RS_wl | apply CS_pi | apply CS_wi | apply CS_wl | apply CS_wo | apply CS_xo | apply RI_w15 | apply RI_w16 | apply RI_w17 | apply RI_w26 | apply RI_w27 | apply RI_w28 | apply RI_p1000)) only [b_X9_lay_3, j_X9_lay_38, j_X9_lay_69, ↓reduceIte, ↓xg, ↓xi, ↓xl_wi, ↓xl_wl, ↓xl_pi, ↓xlI, ↓xlL, ↓xlN, xl, ↓xn, ↓xc, ↓xon, ↓xos, ↓ln_1, ↓ln_2, ↓ln_3, ↓ln_8, qli_0, qli_1, qli_2, qli_3, qli_4, qli_5, qli_6, qli_7, qli_8, qli_9, qli_10, qli_11, qli_12, qli_13, qli_14, qli_15, qli_16, qli_17, qli_18, qli_19, qli_20, qli_21, qli_22, qli_23, qli_24, qli_25, qli_26, qli_31, qli_32, qli_37, qli_39, qli_40, qli_41, qli_42, qli_43, qli_45, qli_47, qli_48, qli_49, qli_50, qli_56, qli_57, qli_59, qli_60, qli_61, qli_63, qli_64, qli_96, qli_97, qli_99, qli_100, qli_101, qli_122, qli_126, qli_143, qli_144, qli_192, qli_200, qli_201, qli_216, qli_255, qli_256, qli_780, qli_799, qli_800, qli_801, qli_802, qli_880, qli_1000, qli_5760, qli_7040, qli_7920, qli_1000000, in_t, le_t, le_f, lt_t, lt_f, eq_t, eq_f, nI_add, nI_sub', nI_mul, nI_clamp, m1_ne, m1_ne', m1_lt, m1_le, m1_nlt, m1_nle, m1_add, eq_self, not_true_eq_false, not_false_eq_true, ne_eq, Nat.reduceLeDiff, Nat.reduceLT, and_true, true_and, and_self, or_true, true_or, or_false, false_or, false_and, and_false, qK_pi, qK_pr, qK_wi, qK_wl, qK_wo, qK_xi, qK_xo, qfr_pi', qfr_wi', qfr_wl', qfr_wo', qfr_xi', qfr_xo', qfi_pr, qfi_wi, qfi_wl, qfi_wo, qfi_xi, qfi_xo, qln_pi, qln_pr, qln_wi, qln_wl, qln_wo, qln_xi, qln_xo, qri_pi, qri_pr, qri_wl, qri_wo, qri_xo, qrl_pi, qrl_pr, qrl_wi, qrl_wo, qrl_xi, qrl_xo, qro_pi, qro_pr, qro_wi, qro_wl, qro_xi, qnx_pi, qnx_pr, qnx_wi, qnx_wl, qnx_wo, qnx_xi, qnx_xo, qsa_pi, qsa_wi, qsa_wl, qsa_pr, qsa_wo, fi_pi_at, fi_pi_nk, fi_pi_na, ri_wi_at, ri_wi_ne, ri_wi_nj, rl_wl_at, rl_wl_ne, rl_wl_nj, fr_pr_at, fr_pr_nk, fr_pr_na, ↓zc, zc, hs, hz, ↓rn_1001]
          · simp (disch := first | omega | assumption | (repeat first | assumption | apply RS_pi | apply RS_wi | apply RS_wl | apply CS_pi | apply CS_wi | apply CS_wl | apply CS_wo | apply CS_xo | apply RI_w15 | apply RI_w16 | apply RI_w17 | apply RI_w26 | apply RI_w27 | apply RI_w28 | apply RI_p1000)) only [b_X9_lay_3, j_X9_lay_38, j_X9_lay_69, ↓reduceIte, ↓xg, ↓xi, ↓xl_wi, ↓xl_wl, ↓xl_pi, ↓xlI, ↓xlL, ↓xlN, xl, ↓xn, ↓xc, ↓xon, ↓xos, ↓ln_1, ↓ln_2, ↓ln_3, ↓ln_8, qli_0, qli_1, qli_2, qli_3, qli_4, qli_5, qli_6, qli_7, qli_8, qli_9, qli_10, qli_11, qli_12, qli_13, qli_14, qli_15, qli_16, qli_17, qli_18, qli_19, qli_20, qli_21, qli_22, qli_23, qli_24, qli_25, qli_26, qli_31, qli_32, qli_37, qli_39, qli_40, qli_41, qli_42, qli_43, qli_45, qli_47, qli_48, qli_49, qli_50, qli_56, qli_57, qli_59, qli_60, qli_61, qli_63, qli_64, qli_96, qli_97, qli_99, qli_100, qli_101, qli_122, qli_126, qli_143, qli_144, qli_192, qli_200, qli_201, qli_216, qli_255, qli_256, qli_780, qli_799, qli_800, qli_801, qli_802, qli_880, qli_1000, qli_5760, qli_7040, qli_7920, qli_1000000, in_t, le_t, le_f, lt_t, lt_f, eq_t, eq_f, nI_add, nI_sub', nI_mul, nI_clamp, m1_ne, m1_ne', m1_lt, m1_le, m1_nlt, m1_nle, m1_add, eq_self, not_true_eq_false, not_false_eq_true, ne_eq, Nat.reduceLeDiff, Nat.reduceLT, and_true, true_and, and_self, or_true, true_or, or_false, false_or, false_and, and_false, qK_pi, qK_pr, qK_wi, qK_wl, qK_wo, qK_xi, qK_xo, qfr_pi', qfr_wi', qfr_wl', qfr_wo', qfr_xi', qfr_xo', qfi_pr, qfi_wi, qfi_wl, qfi_wo, qfi_xi, qfi_xo, qln_pi, qln_pr, qln_wi, qln_wl, qln_wo, qln_xi, qln_xo, qri_pi, qri_pr, qri_wl, qri_wo, qri_xo, qrl_pi, qrl_pr, qrl_wi, qrl_wo, qrl_xi, qrl_xo, qro_pi, qro_pr, qro_wi, qro_wl, qro_xi, qnx_pi, qnx_pr, qnx_wi, qnx_wl, qnx_wo, qnx_xi, qnx_xo, qsa_pi, qsa_wi, qsa_wl, qsa_pr, qsa_wo, fi_pi_at, fi_pi_nk, fi_pi_na, ri_wi_at, ri_wi_ne, ri_wi_nj, rl_wl_at, rl_wl_ne, rl_wl_nj, fr_pr_at, fr_pr_nk, fr_pr_na, ↓zc, zc, hs, hz, ↓rn_1001]
        rw [st]
        exact hrec _ ⟨_, rfl, by rw [em]; exact f1, f2⟩
    · have em : mfb M w (j + 1) = M1 := by rw [e9]; unfold mf; rw [if_neg (fun q => g q.1)]
      have st : b_X9_lay_3 m w rec (S1, nI (56 - 8 * j)) = rec (S1, yj (j + 1)) := by
        rw [← hys]
        by_cases g3 : b < 32
        · simp (disch := first | omega | assumption | (repeat first | assumption | apply RS_pi | apply RS_wi | apply RS_wl | apply CS_pi | apply CS_wi | apply CS_wl | apply CS_wo | apply CS_xo | apply RI_w15 | apply RI_w16 | apply RI_w17 | apply RI_w26 | apply RI_w27 | apply RI_w28 | apply RI_p1000)) only [b_X9_lay_3, j_X9_lay_38, j_X9_lay_69, ↓reduceIte, ↓xg, ↓xi, ↓xl_wi, ↓xl_wl, ↓xl_pi, ↓xlI, ↓xlL, ↓xlN, xl, ↓xn, ↓xc, ↓xon, ↓xos, ↓ln_1, ↓ln_2, ↓ln_3, ↓ln_8, qli_0, qli_1, qli_2, qli_3, qli_4, qli_5, qli_6, qli_7, qli_8, qli_9, qli_10, qli_11, qli_12, qli_13, qli_14, qli_15, qli_16, qli_17, qli_18, qli_19, qli_20, qli_21, qli_22, qli_23, qli_24, qli_25, qli_26, qli_31, qli_32, qli_37, qli_39, qli_40, qli_41, qli_42, qli_43, qli_45, qli_47, qli_48, qli_49, qli_50, qli_56, qli_57, qli_59, qli_60, qli_61, qli_63, qli_64, qli_96, qli_97, qli_99, qli_100, qli_101, qli_122, qli_126, qli_143, qli_144, qli_192, qli_200, qli_201, qli_216, qli_255, qli_256, qli_780, qli_799, qli_800, qli_801, qli_802, qli_880, qli_1000, qli_5760, qli_7040, qli_7920, qli_1000000, in_t, le_t, le_f, lt_t, lt_f, eq_t, eq_f, nI_add, nI_sub', nI_mul, nI_clamp, m1_ne, m1_ne', m1_lt, m1_le, m1_nlt, m1_nle, m1_add, eq_self, not_true_eq_false, not_false_eq_true, ne_eq, Nat.reduceLeDiff, Nat.reduceLT, and_true, true_and, and_self, or_true, true_or, or_false, false_or, false_and, and_false, qK_pi, qK_pr, qK_wi, qK_wl, qK_wo, qK_xi, qK_xo, qfr_pi', qfr_wi', qfr_wl', qfr_wo', qfr_xi', qfr_xo', qfi_pr, qfi_wi, qfi_wl, qfi_wo, qfi_xi, qfi_xo, qln_pi, qln_pr, qln_wi, qln_wl, qln_wo, qln_xi, qln_xo, qri_pi, qri_pr, qri_wl, qri_wo, qri_xo, qrl_pi, qrl_pr, qrl_wi, qrl_wo, qrl_xi, qrl_xo, qro_pi, qro_pr, qro_wi, qro_wl, qro_xi, qnx_pi, qnx_pr, qnx_wi, qnx_wl, qnx_wo, qnx_xi, qnx_xo, qsa_pi, qsa_wi, qsa_wl, qsa_pr, qsa_wo, fi_pi_at, fi_pi_nk, fi_pi_na, ri_wi_at, ri_wi_ne, ri_wi_nj, rl_wl_at, rl_wl_ne, rl_wl_nj, fr_pr_at, fr_pr_nk, fr_pr_na, ↓zc, zc, hs, hz, ↓rn_1001]
        · simp (disch := first | omega | assumption | (repeat first | assumption | apply RS_pi | apply RS_wi | apply RS_wl | apply CS_pi | apply CS_wi | apply CS_wl | apply CS_wo | apply CS_xo | apply RI_w15 | apply RI_w16 | apply RI_w17 | apply RI_w26 | apply RI_w27 | apply RI_w28 | apply RI_p1000)) only [b_X9_lay_3, j_X9_lay_38, j_X9_lay_69, ↓reduceIte, ↓xg, ↓xi, ↓xl_wi, ↓xl_wl, ↓xl_pi, ↓xlI, ↓xlL, ↓xlN, xl, ↓xn, ↓xc, ↓xon, ↓xos, ↓ln_1, ↓ln_2, ↓ln_3, ↓ln_8, qli_0, qli_1, qli_2, qli_3, qli_4, qli_5, qli_6, qli_7, qli_8, qli_9, qli_10, qli_11, qli_12, qli_13, qli_14, qli_15, qli_16, qli_17, qli_18, qli_19, qli_20, qli_21, qli_22, qli_23, qli_24, qli_25, qli_26, qli_31, qli_32, qli_37, qli_39, qli_40, qli_41, qli_42, qli_43, qli_45, qli_47, qli_48, qli_49, qli_50, qli_56, qli_57, qli_59, qli_60, qli_61, qli_63, qli_64, qli_96, qli_97, qli_99, qli_100, qli_101, qli_122, qli_126, qli_143, qli_144, qli_192, qli_200, qli_201, qli_216, qli_255, qli_256, qli_780, qli_799, qli_800, qli_801, qli_802, qli_880, qli_1000, qli_5760, qli_7040, qli_7920, qli_1000000, in_t, le_t, le_f, lt_t, lt_f, eq_t, eq_f, nI_add, nI_sub', nI_mul, nI_clamp, m1_ne, m1_ne', m1_lt, m1_le, m1_nlt, m1_nle, m1_add, eq_self, not_true_eq_false, not_false_eq_true, ne_eq, Nat.reduceLeDiff, Nat.reduceLT, and_true, true_and, and_self, or_true, true_or, or_false, false_or, false_and, and_false, qK_pi, qK_pr, qK_wi, qK_wl, qK_wo, qK_xi, qK_xo, qfr_pi', qfr_wi', qfr_wl', qfr_wo', qfr_xi', qfr_xo', qfi_pr, qfi_wi, qfi_wl, qfi_wo, qfi_xi, qfi_xo, qln_pi, qln_pr, qln_wi, qln_wl, qln_wo, qln_xi, qln_xo, qri_pi, qri_pr, qri_wl, qri_wo, qri_xo, qrl_pi, qrl_pr, qrl_wi, qrl_wo, qrl_xi, qrl_xo, qro_pi, qro_pr, qro_wi, qro_wl, qro_xi, qnx_pi, qnx_pr, qnx_wi, qnx_wl, qnx_wo, qnx_xi, qnx_xo, qsa_pi, qsa_wi, qsa_wl, qsa_pr, qsa_wo, fi_pi_at, fi_pi_nk, fi_pi_na, ri_wi_at, ri_wi_ne, ri_wi_nj, rl_wl_at, rl_wl_ne, rl_wl_nj, fr_pr_at, fr_pr_nk, fr_pr_na, ↓zc, zc, hs, hz, ↓rn_1001]
      rw [st]
      exact hrec _ ⟨_, rfl, by rw [em]; exact f1, f2⟩
  · rintro a rec ⟨S1, rfl, f1, f2⟩
    have hy : yj 8 = nI 0 + m8 := rfl
    rw [hy]
    have h0 : nI 0 + m8 < nI 0 := by decide
    simp (disch := first | omega | assumption | (repeat first | assumption | apply RS_pi | apply RS_wi | apply RS_wl | apply CS_pi | apply CS_wi | apply CS_wl | apply CS_wo | apply CS_xo | apply RI_w15 | apply RI_w16 | apply RI_w17 | apply RI_w26 | apply RI_w27 | apply RI_w28 | apply RI_p1000)) only [b_X9_lay_3, ↓reduceIte, ↓xi, qli_0, h0]
    exact ok_of rfl ⟨f1, f2⟩
theorem sp_feed (h : INV S x A M v) (a b c : Int64) : STEP (fun S => f_X8_feed S x a b c) (fun S => f_X9_feed S (x + 24) a b c) S x v := by
  have hw := h.2.2.1
  obtain ⟨_, S1, f1, g1, k1⟩ := c_addB (w := a) h.2.1 hw
  have hw1 := wM_mfb hw a 8
  obtain ⟨_, S2, f2, g2, k2⟩ := c_addB (w := b) g1 hw1
  have hw2 := wM_mfb hw1 b 8
  obtain ⟨_, S3, f3, g3, k3⟩ := c_addB (w := c) g2 hw2
  have hw3 := wM_mfb hw2 c 8
  have hc0 := CI_s h.2.1
  have hc1 := CI_s g1
  have hc2 := CI_s g2
  have hc3 := CI_s g3
  have hz := CI_tz g3
  have e1 : f_X8_feed S x a b c = some (nI (m_tz (mfb (mfb (mfb M a 8) b 8) c 8)), S3) := by
    unfold f_X8_feed
    simp (disch := first | omega | assumption | (repeat first | assumption | apply RS_pi | apply RS_wi | apply RS_wl | apply CS_pi | apply CS_wi | apply CS_wl | apply CS_wo | apply CS_xo | apply RI_w15 | apply RI_w16 | apply RI_w17 | apply RI_w26 | apply RI_w27 | apply RI_w28 | apply RI_p1000)) only [↓reduceIte, ↓xg, ↓xi, ↓xl_wi, ↓xl_wl, ↓xl_pi, ↓xlI, ↓xlL, ↓xlN, xl, ↓xn, ↓xc, ↓xon, ↓xos, ↓ln_1, ↓ln_2, ↓ln_3, ↓ln_8, qli_0, qli_1, qli_2, qli_3, qli_4, qli_5, qli_6, qli_7, qli_8, qli_9, qli_10, qli_11, qli_12, qli_13, qli_14, qli_15, qli_16, qli_17, qli_18, qli_19, qli_20, qli_21, qli_22, qli_23, qli_24, qli_25, qli_26, qli_31, qli_32, qli_37, qli_39, qli_40, qli_41, qli_42, qli_43, qli_45, qli_47, qli_48, qli_49, qli_50, qli_56, qli_57, qli_59, qli_60, qli_61, qli_63, qli_64, qli_96, qli_97, qli_99, qli_100, qli_101, qli_122, qli_126, qli_143, qli_144, qli_192, qli_200, qli_201, qli_216, qli_255, qli_256, qli_780, qli_799, qli_800, qli_801, qli_802, qli_880, qli_1000, qli_5760, qli_7040, qli_7920, qli_1000000, in_t, le_t, le_f, lt_t, lt_f, eq_t, eq_f, nI_add, nI_sub', nI_mul, nI_clamp, m1_ne, m1_ne', m1_lt, m1_le, m1_nlt, m1_nle, m1_add, eq_self, not_true_eq_false, not_false_eq_true, ne_eq, Nat.reduceLeDiff, Nat.reduceLT, and_true, true_and, and_self, or_true, true_or, or_false, false_or, false_and, and_false, qK_pi, qK_pr, qK_wi, qK_wl, qK_wo, qK_xi, qK_xo, qfr_pi', qfr_wi', qfr_wl', qfr_wo', qfr_xi', qfr_xo', qfi_pr, qfi_wi, qfi_wl, qfi_wo, qfi_xi, qfi_xo, qln_pi, qln_pr, qln_wi, qln_wl, qln_wo, qln_xi, qln_xo, qri_pi, qri_pr, qri_wl, qri_wo, qri_xo, qrl_pi, qrl_pr, qrl_wi, qrl_wo, qrl_xi, qrl_xo, qro_pi, qro_pr, qro_wi, qro_wl, qro_xi, qnx_pi, qnx_pr, qnx_wi, qnx_wl, qnx_wo, qnx_xi, qnx_xo, qsa_pi, qsa_wi, qsa_wl, qsa_pr, qsa_wo, fi_pi_at, fi_pi_nk, fi_pi_na, ri_wi_at, ri_wi_ne, ri_wi_nj, rl_wl_at, rl_wl_ne, rl_wl_nj, fr_pr_at, fr_pr_nk, fr_pr_na, hc0, ↓cn_904, ↓c_s f1, hc1, ↓c_s f2, hc2, ↓c_s f3, hc3, hz]
  have kk := fc_tr k1 (fc_tr k2 k3)
  have hr0 := RI_fc h.1 kk
  have hr : RI (st_pi S3 1000 (x + 24) 0) (x + 24) M := RI_p1000 hr0
  obtain ⟨_, T1, p1, q1, r1⟩ := r_lay (w := a) hr hw
  obtain ⟨_, T2, p2, q2, r2⟩ := r_lay (w := b) q1 hw1
  obtain ⟨_, T3, p3, q3, r3⟩ := r_lay (w := c) q2 hw2
  have hs0 := RI_s hr0
  have hs1 := RI_s q1
  have hs2 := RI_s q2
  have hs3 := RI_s q3
  have hz3 := RI_tz q3
  have e2 : f_X9_feed S3 (x + 24) a b c = some (nI (m_tz (mfb (mfb (mfb M a 8) b 8) c 8)), T3) := by
    unfold f_X9_feed
    simp (disch := first | omega | assumption | (repeat first | assumption | apply RS_pi | apply RS_wi | apply RS_wl | apply CS_pi | apply CS_wi | apply CS_wl | apply CS_wo | apply CS_xo | apply RI_w15 | apply RI_w16 | apply RI_w17 | apply RI_w26 | apply RI_w27 | apply RI_w28 | apply RI_p1000)) only [↓reduceIte, ↓xg, ↓xi, ↓xl_wi, ↓xl_wl, ↓xl_pi, ↓xlI, ↓xlL, ↓xlN, xl, ↓xn, ↓xc, ↓xon, ↓xos, ↓ln_1, ↓ln_2, ↓ln_3, ↓ln_8, qli_0, qli_1, qli_2, qli_3, qli_4, qli_5, qli_6, qli_7, qli_8, qli_9, qli_10, qli_11, qli_12, qli_13, qli_14, qli_15, qli_16, qli_17, qli_18, qli_19, qli_20, qli_21, qli_22, qli_23, qli_24, qli_25, qli_26, qli_31, qli_32, qli_37, qli_39, qli_40, qli_41, qli_42, qli_43, qli_45, qli_47, qli_48, qli_49, qli_50, qli_56, qli_57, qli_59, qli_60, qli_61, qli_63, qli_64, qli_96, qli_97, qli_99, qli_100, qli_101, qli_122, qli_126, qli_143, qli_144, qli_192, qli_200, qli_201, qli_216, qli_255, qli_256, qli_780, qli_799, qli_800, qli_801, qli_802, qli_880, qli_1000, qli_5760, qli_7040, qli_7920, qli_1000000, in_t, le_t, le_f, lt_t, lt_f, eq_t, eq_f, nI_add, nI_sub', nI_mul, nI_clamp, m1_ne, m1_ne', m1_lt, m1_le, m1_nlt, m1_nle, m1_add, eq_self, not_true_eq_false, not_false_eq_true, ne_eq, Nat.reduceLeDiff, Nat.reduceLT, and_true, true_and, and_self, or_true, true_or, or_false, false_or, false_and, and_false, qK_pi, qK_pr, qK_wi, qK_wl, qK_wo, qK_xi, qK_xo, qfr_pi', qfr_wi', qfr_wl', qfr_wo', qfr_xi', qfr_xo', qfi_pr, qfi_wi, qfi_wl, qfi_wo, qfi_xi, qfi_xo, qln_pi, qln_pr, qln_wi, qln_wl, qln_wo, qln_xi, qln_xo, qri_pi, qri_pr, qri_wl, qri_wo, qri_xo, qrl_pi, qrl_pr, qrl_wi, qrl_wo, qrl_xi, qrl_xo, qro_pi, qro_pr, qro_wi, qro_wl, qro_xi, qnx_pi, qnx_pr, qnx_wi, qnx_wl, qnx_wo, qnx_xi, qnx_xo, qsa_pi, qsa_wi, qsa_wl, qsa_pr, qsa_wo, fi_pi_at, fi_pi_nk, fi_pi_na, ri_wi_at, ri_wi_ne, ri_wi_nj, rl_wl_at, rl_wl_ne, rl_wl_nj, fr_pr_at, fr_pr_nk, fr_pr_na, hs0, ↓c_s p1, hs1, ↓c_s p2, hs2, ↓c_s p3, hs3, hz3]
  exact STEP_of h e1 e2 g3 kk (fq_tr (fq_pi fq_rf ⟨rfl, rfl⟩) (fq_tr r1 (fq_tr r2 r3))) (fun _ => q3) hw3 (by omega)
end FE
