/-! text: the reference's scanner -/
section RK
variable {β : Type} {S S' S0 T : st_T} {m x v n z : Nat} {M : mT} {A : aT} {L : List (Nat × Nat × Nat)} {w p : Nat} {ts : Nat → Nat}
def n37 (l : List Nat) : Nat := l.foldl (fun u c => 37 * u + (c - 96)) 0
def r37 (l : List Nat) : Nat := l.foldr (fun c u => 37 * u + (c - 96)) 0
theorem n37_r (l : List Nat) : n37 l = r37 l.reverse := by
  unfold n37 r37
  rw [List.foldl_eq_foldr_reverse]
theorem r37_inj : ∀ (a b : List Nat), (∀ c ∈ a, 97 ≤ c ∧ c ≤ 122) → (∀ c ∈ b, 97 ≤ c ∧ c ≤ 122) → r37 a = r37 b → a = b := by
  intro a
  induction a with
  | nil =>
    intro b _ hb e
    cases b with
    | nil => rfl
    | cons c r =>
      have := hb c (List.mem_cons_self ..)
      have e' : 0 = 37 * r37 r + (c - 96) := e
      omega
  | cons d q ih =>
    intro b ha hb e
    cases b with
    | nil =>
      have := ha d (List.mem_cons_self ..)
      have e' : 37 * r37 q + (d - 96) = 0 := e
      omega
    | cons c r =>
      have h1 := hb c (List.mem_cons_self ..)
      have h2 := ha d (List.mem_cons_self ..)
      have e' : 37 * r37 q + (d - 96) = 37 * r37 r + (c - 96) := e
      have e1 : d = c := by omega
      have e2 : r37 q = r37 r := by omega
      rw [e1, ih r (fun u hu => ha u (List.mem_cons_of_mem _ hu)) (fun u hu => hb u (List.mem_cons_of_mem _ hu)) e2]
theorem n37_inj {a b : List Nat} (ha : ∀ c ∈ a, 97 ≤ c ∧ c ≤ 122) (hb : ∀ c ∈ b, 97 ≤ c ∧ c ≤ 122) (e : n37 a = n37 b) : a = b := by
  rw [n37_r, n37_r] at e
  have := r37_inj a.reverse b.reverse (fun c hc => ha c (List.mem_reverse.mp hc)) (fun c hc => hb c (List.mem_reverse.mp hc)) e
  exact List.reverse_inj.mp this
theorem n37_succ (a k : Nat) : n37 (sl ts a (k + 1)) = 37 * n37 (sl ts a k) + (ts (a + k) - 96) := by
  rw [sl_succ]
  unfold n37
  rw [List.foldl_append]
  rfl
theorem n37_lt {a : Nat} : ∀ k, (∀ j, j < k → ts (a + j) ≤ 122) → n37 (sl ts a k) < 37 ^ k := by
  intro k
  induction k with
  | zero => intro _; show 0 < 1; omega
  | succ k ih =>
    intro h
    have := ih (fun j hj => h j (by omega))
    have := h k (by omega)
    rw [n37_succ, Nat.pow_succ]
    omega
def kw (w : Nat) : Nat := if w = 0 then 11 else if w = 1 then 13 else if w = 2 then 12 else if w = 3 then 10 else w + 10
def wdv (w : Nat) : Int64 := ([172647, 665856, 1176170, 1891, 1186224, 1327079004, 716895, 30595897, 1178088, 329128, 628896, 2286271, 1633, 5538] : List Int64).getD w 0
theorem kw_rg {w : Nat} (h : w < 14) : 10 ≤ kw w ∧ kw w ≤ 23 := by
  unfold kw
  split
  · omega
  split
  · omega
  split
  · omega
  split
  · omega
  · omega
theorem wdv_n : ∀ w, w < 14 → wdv w = lN (n37 (st_tx (kw w - 10))) := by
  have key : ∀ w : Fin 14, wdv w = lN (n37 (st_tx (kw w - 10))) := by decide +kernel
  exact fun w hw => key ⟨w, hw⟩
theorem tx_ab : ∀ i, i < 14 → (∀ c ∈ st_tx i, 97 ≤ c ∧ c ≤ 122) ∧ n37 (st_tx i) < 2 ^ 61 ∧ wkf (st_tx i) 14 = i + 10 ∧ (st_tx i).length ≤ 8 := by
  have key : ∀ i : Fin 14, (∀ c ∈ st_tx i, 97 ≤ c ∧ c ≤ 122) ∧ n37 (st_tx i) < 2 ^ 61 ∧ wkf (st_tx i) 14 = i + 10 ∧ (st_tx i).length ≤ 8 := by decide +kernel
  exact fun i hi => key ⟨i, hi⟩
theorem lN_inj {a b : Nat} (ha : a < 2 ^ 62) (hb : b < 2 ^ 62) (h : lN a = lN b) : a = b := by
  have h1 := lN_I ha
  have h2 := lN_I hb
  rw [h] at h1
  omega
theorem wkf_some (l : List Nat) : ∀ f, f ≤ 14 → wkf l f ≠ 0 → l = st_tx (wkf l f - 10) := by
  intro f
  induction f with
  | zero => intro _ h; exact absurd rfl h
  | succ f ih =>
    intro hf h
    unfold wkf at h ⊢
    by_cases c : l = st_tx (13 - f)
    · rw [if_pos c]
      have e : 23 - f - 10 = 13 - f := by omega
      rw [e]
      exact c
    · rw [if_neg c] at h ⊢
      exact ih (by omega) h
theorem wk_iff {l : List Nat} {w : Nat} (hw : w < 14) (hl : l.length ≤ 8) (hc : ∀ c ∈ l, 97 ≤ c ∧ c ≤ 122) (hb : n37 l < 2 ^ 62) : lN (n37 l) = wdv w ↔ wk l = kw w := by
  have hk := kw_rg hw
  obtain ⟨t1, t2, t3, t4⟩ := tx_ab (kw w - 10) (by omega)
  have e0 : wk l = wkf l 14 := by unfold wk; rw [if_neg (by omega)]
  rw [wdv_n w hw, e0]
  constructor
  · intro h
    have e := n37_inj hc t1 (lN_inj hb (by omega) h)
    rw [e, t3]
    omega
  · intro h
    have e := wkf_some l 14 (by omega) (by omega)
    rw [h] at e
    rw [← e]
/-- how the reference writes a token -/
def rsT (s : Nat) (u : Int64) (q : Nat × Nat × Nat) : Prop := s ≤ 4 ∧ (s = 0 ↔ q.1 = 1) ∧ (s = 2 ↔ q.1 = 2) ∧ (q.1 = 2 → u = lN q.2.1) ∧ (∀ w, w < 14 → ((s = 1 ∧ u = wdv w) ↔ q.1 = kw w)) ∧ (∀ c, c ∈ [40, 41, 43, 45, 59, 60, 61] → ((s = 3 ∧ u = lN c) ↔ q.1 = ks c))
theorem ks_sg {c : Nat} (h : c ∈ [40, 41, 43, 45, 59, 60, 61]) : 3 ≤ ks c ∧ ks c ≤ 9 ∧ c ≤ 61 := by
  have key : ∀ c ∈ [40, 41, 43, 45, 59, 60, 61], 3 ≤ ks c ∧ ks c ≤ 9 ∧ c ≤ 61 := by decide
  exact key c h
theorem rsT_bad {q : Nat × Nat × Nat} {u : Int64} (h : q.1 = 0) : rsT 4 u q := by
  refine ⟨by omega, by omega, by omega, by omega, fun w hw => ?_, fun c hc => ?_⟩
  · have := kw_rg hw
    constructor
    · rintro ⟨z, _⟩; omega
    · intro z; omega
  · have := ks_sg hc
    constructor
    · rintro ⟨z, _⟩; omega
    · intro z; omega
theorem rsT_end {q : Nat × Nat × Nat} {u : Int64} (h : q.1 = 1) : rsT 0 u q := by
  refine ⟨by omega, by omega, by omega, by omega, fun w hw => ?_, fun c hc => ?_⟩
  · have := kw_rg hw
    constructor
    · rintro ⟨z, _⟩; omega
    · intro z; omega
  · have := ks_sg hc
    constructor
    · rintro ⟨z, _⟩; omega
    · intro z; omega
theorem rsT_num {q : Nat × Nat × Nat} {u : Int64} (h : q.1 = 2) (hu : u = lN q.2.1) : rsT 2 u q := by
  refine ⟨by omega, by omega, by omega, fun _ => hu, fun w hw => ?_, fun c hc => ?_⟩
  · have := kw_rg hw
    constructor
    · rintro ⟨z, _⟩; omega
    · intro z; omega
  · have := ks_sg hc
    constructor
    · rintro ⟨z, _⟩; omega
    · intro z; omega
theorem rsT_word {l : List Nat} {a b : Nat} (hl : l.length ≤ 8) (hc : ∀ c ∈ l, 97 ≤ c ∧ c ≤ 122) (hb : n37 l < 2 ^ 62) : rsT 1 (lN (n37 l)) (wk l, a, b) := by
  have hr := wk_rg l
  refine ⟨by omega, by show 1 = 0 ↔ wk l = 1; omega, by show 1 = 2 ↔ wk l = 2; omega, fun z => ?_, fun w hw => ?_, fun c hc => ?_⟩
  · have : wk l = 2 := z
    omega
  · rw [← wk_iff hw hl hc hb]
    exact ⟨fun z => z.2, fun z => ⟨rfl, z⟩⟩
  · have := ks_sg hc
    constructor
    · rintro ⟨z, _⟩; omega
    · intro z
      have : wk l = ks c := z
      omega
theorem ks_inj : ∀ c d, c ≤ 126 → d ∈ [40, 41, 43, 45, 59, 60, 61] → ks c = ks d → c = d := by
  have key : ∀ c : Fin 127, ∀ d ∈ [40, 41, 43, 45, 59, 60, 61], ks c = ks d → (c : Nat) = d := by decide +kernel
  exact fun c d hc hd e => key ⟨c, by omega⟩ d hd e
theorem rsT_sign {c a b : Nat} (hc : c ≤ 126) (hk : ks c ≠ 0) : rsT 3 (lN c) (ks c, a, b) := by
  have hr := ks_rg c
  refine ⟨by omega, by show 3 = 0 ↔ ks c = 1; omega, by show 3 = 2 ↔ ks c = 2; omega, fun z => ?_, fun w hw => ?_, fun d hd => ?_⟩
  · have : ks c = 2 := z
    omega
  · have := kw_rg hw
    constructor
    · rintro ⟨z, _⟩; omega
    · intro z
      have : ks c = kw w := z
      omega
  · have := ks_sg hd
    constructor
    · rintro ⟨_, z⟩
      rw [lN_inj (by omega) (by omega) z]
    · intro z
      exact ⟨rfl, by rw [ks_inj c d hc hd z]⟩
theorem r_sign {c : Nat} (hc : c ≤ 126) : f_X9_isSignOf S (nI c) = some (nI (if ks c = 0 then 0 else 1), S) := by
  have key : c = 40 ∨ c = 41 ∨ c = 43 ∨ c = 45 ∨ c = 59 ∨ c = 60 ∨ c = 61 ∨ (c ≠ 40 ∧ c ≠ 41 ∧ c ≠ 43 ∧ c ≠ 45 ∧ c ≠ 59 ∧ c ≠ 60 ∧ c ≠ 61) := by omega
  unfold f_X9_isSignOf j_X9_isSignOf_42
  rcases key with q | q | q | q | q | q | q | ⟨q1, q2, q3, q4, q5, q6, q7⟩
  · subst q; rfl
  · subst q; rfl
  · subst q; rfl
  · subst q; rfl
  · subst q; rfl
  · subst q; rfl
  · subst q; rfl
  · have k0 : ks c = 0 := by
      unfold ks
      rw [if_neg (by omega), if_neg (by omega), if_neg (by omega), if_neg (by omega), if_neg (by omega), if_neg (by omega), if_neg (by omega)]
    rw [if_pos k0]
    simp (disch := first | omega | assumption | (repeat first | assumption | apply RS_pi | apply RS_wi | apply RS_wl | apply CS_pi | apply CS_wi | apply CS_wl | apply CS_wo | apply CS_xo | apply RI_w15 | apply RI_w16 | apply RI_w17 | apply RI_w26 | apply RI_w27 | apply RI_w28 | apply RI_p1000)) only [↓reduceIte, ↓xg, ↓xi, ↓xl_wi, ↓xl_wl, ↓xl_pi, ↓xlI, ↓xlL, ↓xlN, xl, ↓xn, ↓xc, ↓xon, ↓xos, ↓ln_1, ↓ln_2, ↓ln_3, ↓ln_8, qli_0, qli_1, qli_2, qli_3, qli_4, qli_5, qli_6, qli_7, qli_8, qli_9, qli_10, qli_11, qli_12, qli_13, qli_14, qli_15, qli_16, qli_17, qli_18, qli_19, qli_20, qli_21, qli_22, qli_23, qli_24, qli_25, qli_26, qli_31, qli_32, qli_37, qli_39, qli_40, qli_41, qli_42, qli_43, qli_45, qli_47, qli_48, qli_49, qli_50, qli_56, qli_57, qli_59, qli_60, qli_61, qli_63, qli_64, qli_96, qli_97, qli_99, qli_100, qli_101, qli_122, qli_126, qli_143, qli_144, qli_192, qli_200, qli_201, qli_216, qli_255, qli_256, qli_780, qli_799, qli_800, qli_801, qli_802, qli_880, qli_1000, qli_5760, qli_7040, qli_7920, qli_1000000, in_t, le_t, le_f, lt_t, lt_f, eq_t, eq_f, nI_add, nI_sub', nI_mul, nI_clamp, m1_ne, m1_ne', m1_lt, m1_le, m1_nlt, m1_nle, m1_add, eq_self, not_true_eq_false, not_false_eq_true, ne_eq, Nat.reduceLeDiff, Nat.reduceLT, and_true, true_and, and_self, or_true, true_or, or_false, false_or, false_and, and_false, qK_pi, qK_pr, qK_wi, qK_wl, qK_wo, qK_xi, qK_xo, qfr_pi', qfr_wi', qfr_wl', qfr_wo', qfr_xi', qfr_xo', qfi_pr, qfi_wi, qfi_wl, qfi_wo, qfi_xi, qfi_xo, qln_pi, qln_pr, qln_wi, qln_wl, qln_wo, qln_xi, qln_xo, qri_pi, qri_pr, qri_wl, qri_wo, qri_xo, qrl_pi, qrl_pr, qrl_wi, qrl_wo, qrl_xi, qrl_xo, qro_pi, qro_pr, qro_wi, qro_wl, qro_xi, qnx_pi, qnx_pr, qnx_wi, qnx_wl, qnx_wo, qnx_xi, qnx_xo, qsa_pi, qsa_wi, qsa_wl, qsa_pr, qsa_wo, fi_pi_at, fi_pi_nk, fi_pi_na, ri_wi_at, ri_wi_ne, ri_wi_nj, rl_wl_at, rl_wl_ne, rl_wl_nj, fr_pr_at, fr_pr_nk, fr_pr_na]
/-- tokens in the reference's rows -/
def RTok (T : st_T) (m : Nat) (L : List (Nat × Nat × Nat)) : Prop := ∀ i, i < L.length → ∃ s, st_ri T (m + 2) i = nI s ∧ st_ri T (m + 3) i = nI (L.getD i (0, 0, 0)).2.2 ∧ rsT s (st_rl T (m + 4) i) (L.getD i (0, 0, 0))
def tR (m a : Nat) : Prop := a = m + 2 ∨ a = m + 3 ∨ a = m + 4
def tF (m k a : Nat) : Prop := a = m ∧ (k = 1002 ∨ k = 1003 ∨ k = 1007 ∨ k = 1008)
theorem RTok_add {s k u p : Nat} {y : Int64} (ht : RTok T m L) (hs : rsT s y (k, u, p)) : RTok (st_wl (st_wi (st_wi T (m + 3) L.length (nI p)) (m + 2) L.length (nI s)) (m + 4) L.length y) m (L ++ [(k, u, p)]) := by
  intro i hi
  rw [List.length_append] at hi
  have hi' : i < L.length + 1 := hi
  by_cases c : i = L.length
  · rw [c, getD_app_at]
    refine ⟨s, ?_, ?_, ?_⟩
    · simp (disch := omega) only [qri_wl, ri_wi_ne, ri_wi_at]
    · simp (disch := omega) only [qri_wl, ri_wi_ne, ri_wi_at]
    · rw [rl_wl_at]; exact hs
  · rw [getD_app (by omega)]
    obtain ⟨s', q1, q2, q3⟩ := ht i (by omega)
    refine ⟨s', ?_, ?_, ?_⟩
    · simp (disch := omega) only [qri_wl, ri_wi_ne, ri_wi_nj]; exact q1
    · simp (disch := omega) only [qri_wl, ri_wi_ne, ri_wi_nj]; exact q2
    · rw [rl_wl_nj _ _ _ _ _ _ c]
      exact q3
/-! the runs -/
theorem r_word {a e k : Nat} {rec17 : st_T × Int32 × Int32 → Option (Unit × st_T)} (hs : RS T m) (hz : z ≤ 800) (h3 : st_fi T 1003 m = nI z) (ht : ∀ j, j < z → st_ri T (m + 1) j = nI (ts j)) (hae : a < e) (he : e ≤ z) (hin : ∀ i, a ≤ i → i < e → 97 ≤ ts i ∧ ts i ≤ 122) (hend : e < z → ¬ (97 ≤ ts e ∧ ts e ≤ 122)) (hb : ∀ i, ts i ≤ 126) (hk : k ≤ 800) : c_w (b_X9_cutAll_70 m rec17 (nI k) (nI a)) c_N (T, nI a, lN 0) = rec17 (st_wl (st_wi T (m + 2) k (nI (if e - a ≤ 8 then 1 else 4))) (m + 4) k (lN (n37 (sl ts a (if e - a ≤ 8 then e - a else 8)))), nI (k + 1), nI e) := by
  have key := w_cf (body := b_X9_cutAll_70 m rec17 (nI k) (nI a)) (v := rec17 (st_wl (st_wi T (m + 2) k (nI (if e - a ≤ 8 then 1 else 4))) (m + 4) k (lN (n37 (sl ts a (if e - a ≤ 8 then e - a else 8)))), nI (k + 1), nI e)) e a (fun i => (T, nI i, lN (n37 (sl ts a (if i - a ≤ 8 then i - a else 8))))) (fun i q1 q2 rec => by
    have y := hin i q1 q2
    have ri := ht i (by omega)
    clear hin hend ht
    have l37 : (37 : Int64) = lN 37 := rfl
    have er : f_X9_rank T (nI (ts i)) = some (nI (ts i - 96), T) := by
      unfold f_X9_rank f_X9_isLetter
      simp (disch := first | omega | assumption | (repeat first | assumption | apply RS_pi | apply RS_wi | apply RS_wl | apply CS_pi | apply CS_wi | apply CS_wl | apply CS_wo | apply CS_xo | apply RI_w15 | apply RI_w16 | apply RI_w17 | apply RI_w26 | apply RI_w27 | apply RI_w28 | apply RI_p1000)) only [↓reduceIte, ↓xg, ↓xi, ↓xl_wi, ↓xl_wl, ↓xl_pi, ↓xlI, ↓xlL, ↓xlN, xl, ↓xn, ↓xc, ↓xon, ↓xos, ↓ln_1, ↓ln_2, ↓ln_3, ↓ln_8, qli_0, qli_1, qli_2, qli_3, qli_4, qli_5, qli_6, qli_7, qli_8, qli_9, qli_10, qli_11, qli_12, qli_13, qli_14, qli_15, qli_16, qli_17, qli_18, qli_19, qli_20, qli_21, qli_22, qli_23, qli_24, qli_25, qli_26, qli_31, qli_32, qli_37, qli_39, qli_40, qli_41, qli_42, qli_43, qli_45, qli_47, qli_48, qli_49, qli_50, qli_56, qli_57, qli_59, qli_60, qli_61, qli_63, qli_64, qli_96, qli_97, qli_99, qli_100, qli_101, qli_122, qli_126, qli_143, qli_144, qli_192, qli_200, qli_201, qli_216, qli_255, qli_256, qli_780, qli_799, qli_800, qli_801, qli_802, qli_880, qli_1000, qli_5760, qli_7040, qli_7920, qli_1000000, in_t, le_t, le_f, lt_t, lt_f, eq_t, eq_f, nI_add, nI_sub', nI_mul, nI_clamp, m1_ne, m1_ne', m1_lt, m1_le, m1_nlt, m1_nle, m1_add, eq_self, not_true_eq_false, not_false_eq_true, ne_eq, Nat.reduceLeDiff, Nat.reduceLT, and_true, true_and, and_self, or_true, true_or, or_false, false_or, false_and, and_false, qK_pi, qK_pr, qK_wi, qK_wl, qK_wo, qK_xi, qK_xo, qfr_pi', qfr_wi', qfr_wl', qfr_wo', qfr_xi', qfr_xo', qfi_pr, qfi_wi, qfi_wl, qfi_wo, qfi_xi, qfi_xo, qln_pi, qln_pr, qln_wi, qln_wl, qln_wo, qln_xi, qln_xo, qri_pi, qri_pr, qri_wl, qri_wo, qri_xo, qrl_pi, qrl_pr, qrl_wi, qrl_wo, qrl_xi, qrl_xo, qro_pi, qro_pr, qro_wi, qro_wl, qro_xi, qnx_pi, qnx_pr, qnx_wi, qnx_wl, qnx_wo, qnx_xi, qnx_xo, qsa_pi, qsa_wi, qsa_wl, qsa_pr, qsa_wo, fi_pi_at, fi_pi_nk, fi_pi_na, ri_wi_at, ri_wi_ne, ri_wi_nj, rl_wl_at, rl_wl_ne, rl_wl_nj, fr_pr_at, fr_pr_nk, fr_pr_na, xc]
    have l1 : (nI (ts i - 96)).toInt64 = lN (ts i - 96) := nI_l (by omega)
    by_cases c : i - a < 8
    · rw [if_pos (by omega), if_pos (by omega)]
      have e1 : i + 1 - a = (i - a) + 1 := by omega
      have e2 : a + (i - a) = i := by omega
      rw [e1, n37_succ, e2]
      generalize n37 (sl ts a (i - a)) = u
      unfold b_X9_cutAll_70 j_X9_cutAll_121 f_X9_isLetter
      clear e1 e2 hb
      simp (disch := first | omega | assumption | (repeat first | assumption | apply RS_pi | apply RS_wi | apply RS_wl | apply CS_pi | apply CS_wi | apply CS_wl | apply CS_wo | apply CS_xo | apply RI_w15 | apply RI_w16 | apply RI_w17 | apply RI_w26 | apply RI_w27 | apply RI_w28 | apply RI_p1000)) only [↓reduceIte, ↓xg, ↓xi, ↓xl_wi, ↓xl_wl, ↓xl_pi, ↓xlI, ↓xlL, ↓xlN, xl, ↓xn, ↓xc, ↓xon, ↓xos, ↓ln_1, ↓ln_2, ↓ln_3, ↓ln_8, qli_0, qli_1, qli_2, qli_3, qli_4, qli_5, qli_6, qli_7, qli_8, qli_9, qli_10, qli_11, qli_12, qli_13, qli_14, qli_15, qli_16, qli_17, qli_18, qli_19, qli_20, qli_21, qli_22, qli_23, qli_24, qli_25, qli_26, qli_31, qli_32, qli_37, qli_39, qli_40, qli_41, qli_42, qli_43, qli_45, qli_47, qli_48, qli_49, qli_50, qli_56, qli_57, qli_59, qli_60, qli_61, qli_63, qli_64, qli_96, qli_97, qli_99, qli_100, qli_101, qli_122, qli_126, qli_143, qli_144, qli_192, qli_200, qli_201, qli_216, qli_255, qli_256, qli_780, qli_799, qli_800, qli_801, qli_802, qli_880, qli_1000, qli_5760, qli_7040, qli_7920, qli_1000000, in_t, le_t, le_f, lt_t, lt_f, eq_t, eq_f, nI_add, nI_sub', nI_mul, nI_clamp, m1_ne, m1_ne', m1_lt, m1_le, m1_nlt, m1_nle, m1_add, eq_self, not_true_eq_false, not_false_eq_true, ne_eq, Nat.reduceLeDiff, Nat.reduceLT, and_true, true_and, and_self, or_true, true_or, or_false, false_or, false_and, and_false, qK_pi, qK_pr, qK_wi, qK_wl, qK_wo, qK_xi, qK_xo, qfr_pi', qfr_wi', qfr_wl', qfr_wo', qfr_xi', qfr_xo', qfi_pr, qfi_wi, qfi_wl, qfi_wo, qfi_xi, qfi_xo, qln_pi, qln_pr, qln_wi, qln_wl, qln_wo, qln_xi, qln_xo, qri_pi, qri_pr, qri_wl, qri_wo, qri_xo, qrl_pi, qrl_pr, qrl_wi, qrl_wo, qrl_xi, qrl_xo, qro_pi, qro_pr, qro_wi, qro_wl, qro_xi, qnx_pi, qnx_pr, qnx_wi, qnx_wl, qnx_wo, qnx_xi, qnx_xo, qsa_pi, qsa_wi, qsa_wl, qsa_pr, qsa_wo, fi_pi_at, fi_pi_nk, fi_pi_na, ri_wi_at, ri_wi_ne, ri_wi_nj, rl_wl_at, rl_wl_ne, rl_wl_nj, fr_pr_at, fr_pr_nk, fr_pr_na, hs, h3, ↓rn_1001, ri, xc, er, l1, l37, lN_mul, lN_add]
    · have e1 : (if i - a ≤ 8 then i - a else 8) = 8 := by split <;> omega
      have e2 : (if i + 1 - a ≤ 8 then i + 1 - a else 8) = 8 := by split <;> omega
      rw [e1, e2]
      generalize lN (n37 (sl ts a 8)) = u
      unfold b_X9_cutAll_70 j_X9_cutAll_121 f_X9_isLetter
      clear e1 e2 hb er l1
      simp (disch := first | omega | assumption | (repeat first | assumption | apply RS_pi | apply RS_wi | apply RS_wl | apply CS_pi | apply CS_wi | apply CS_wl | apply CS_wo | apply CS_xo | apply RI_w15 | apply RI_w16 | apply RI_w17 | apply RI_w26 | apply RI_w27 | apply RI_w28 | apply RI_p1000)) only [↓reduceIte, ↓xg, ↓xi, ↓xl_wi, ↓xl_wl, ↓xl_pi, ↓xlI, ↓xlL, ↓xlN, xl, ↓xn, ↓xc, ↓xon, ↓xos, ↓ln_1, ↓ln_2, ↓ln_3, ↓ln_8, qli_0, qli_1, qli_2, qli_3, qli_4, qli_5, qli_6, qli_7, qli_8, qli_9, qli_10, qli_11, qli_12, qli_13, qli_14, qli_15, qli_16, qli_17, qli_18, qli_19, qli_20, qli_21, qli_22, qli_23, qli_24, qli_25, qli_26, qli_31, qli_32, qli_37, qli_39, qli_40, qli_41, qli_42, qli_43, qli_45, qli_47, qli_48, qli_49, qli_50, qli_56, qli_57, qli_59, qli_60, qli_61, qli_63, qli_64, qli_96, qli_97, qli_99, qli_100, qli_101, qli_122, qli_126, qli_143, qli_144, qli_192, qli_200, qli_201, qli_216, qli_255, qli_256, qli_780, qli_799, qli_800, qli_801, qli_802, qli_880, qli_1000, qli_5760, qli_7040, qli_7920, qli_1000000, in_t, le_t, le_f, lt_t, lt_f, eq_t, eq_f, nI_add, nI_sub', nI_mul, nI_clamp, m1_ne, m1_ne', m1_lt, m1_le, m1_nlt, m1_nle, m1_add, eq_self, not_true_eq_false, not_false_eq_true, ne_eq, Nat.reduceLeDiff, Nat.reduceLT, and_true, true_and, and_self, or_true, true_or, or_false, false_or, false_and, and_false, qK_pi, qK_pr, qK_wi, qK_wl, qK_wo, qK_xi, qK_xo, qfr_pi', qfr_wi', qfr_wl', qfr_wo', qfr_xi', qfr_xo', qfi_pr, qfi_wi, qfi_wl, qfi_wo, qfi_xi, qfi_xo, qln_pi, qln_pr, qln_wi, qln_wl, qln_wo, qln_xi, qln_xo, qri_pi, qri_pr, qri_wl, qri_wo, qri_xo, qrl_pi, qrl_pr, qrl_wi, qrl_wo, qrl_xi, qrl_xo, qro_pi, qro_pr, qro_wi, qro_wl, qro_xi, qnx_pi, qnx_pr, qnx_wi, qnx_wl, qnx_wo, qnx_xi, qnx_xo, qsa_pi, qsa_wi, qsa_wl, qsa_pr, qsa_wo, fi_pi_at, fi_pi_nk, fi_pi_na, ri_wi_at, ri_wi_ne, ri_wi_nj, rl_wl_at, rl_wl_ne, rl_wl_nj, fr_pr_at, fr_pr_nk, fr_pr_na, hs, h3, ↓rn_1001, ri, xc]) (fun rec => by
    generalize lN (n37 (sl ts a (if e - a ≤ 8 then e - a else 8))) = u
    have fin : j_X9_cutAll_129 m rec17 (nI k) (nI a) (nI e) u T = rec17 (st_wl (st_wi T (m + 2) k (nI (if e - a ≤ 8 then 1 else 4))) (m + 4) k u, nI (k + 1), nI e) := by
      clear hin hend ht hb
      unfold j_X9_cutAll_129 j_X9_cutAll_148 j_X9_cutAll_265
      by_cases c : e - a ≤ 8
      · rw [if_pos c]
        simp (disch := first | omega | assumption | (repeat first | assumption | apply RS_pi | apply RS_wi | apply RS_wl | apply CS_pi | apply CS_wi | apply CS_wl | apply CS_wo | apply CS_xo | apply RI_w15 | apply RI_w16 | apply RI_w17 | apply RI_w26 | apply RI_w27 | apply RI_w28 | apply RI_p1000)) only [↓reduceIte, ↓xg, ↓xi, ↓xl_wi, ↓xl_wl, ↓xl_pi, ↓xlI, ↓xlL, ↓xlN, xl, ↓xn, ↓xc, ↓xon, ↓xos, ↓ln_1, ↓ln_2, ↓ln_3, ↓ln_8, qli_0, qli_1, qli_2, qli_3, qli_4, qli_5, qli_6, qli_7, qli_8, qli_9, qli_10, qli_11, qli_12, qli_13, qli_14, qli_15, qli_16, qli_17, qli_18, qli_19, qli_20, qli_21, qli_22, qli_23, qli_24, qli_25, qli_26, qli_31, qli_32, qli_37, qli_39, qli_40, qli_41, qli_42, qli_43, qli_45, qli_47, qli_48, qli_49, qli_50, qli_56, qli_57, qli_59, qli_60, qli_61, qli_63, qli_64, qli_96, qli_97, qli_99, qli_100, qli_101, qli_122, qli_126, qli_143, qli_144, qli_192, qli_200, qli_201, qli_216, qli_255, qli_256, qli_780, qli_799, qli_800, qli_801, qli_802, qli_880, qli_1000, qli_5760, qli_7040, qli_7920, qli_1000000, in_t, le_t, le_f, lt_t, lt_f, eq_t, eq_f, nI_add, nI_sub', nI_mul, nI_clamp, m1_ne, m1_ne', m1_lt, m1_le, m1_nlt, m1_nle, m1_add, eq_self, not_true_eq_false, not_false_eq_true, ne_eq, Nat.reduceLeDiff, Nat.reduceLT, and_true, true_and, and_self, or_true, true_or, or_false, false_or, false_and, and_false, qK_pi, qK_pr, qK_wi, qK_wl, qK_wo, qK_xi, qK_xo, qfr_pi', qfr_wi', qfr_wl', qfr_wo', qfr_xi', qfr_xo', qfi_pr, qfi_wi, qfi_wl, qfi_wo, qfi_xi, qfi_xo, qln_pi, qln_pr, qln_wi, qln_wl, qln_wo, qln_xi, qln_xo, qri_pi, qri_pr, qri_wl, qri_wo, qri_xo, qrl_pi, qrl_pr, qrl_wi, qrl_wo, qrl_xi, qrl_xo, qro_pi, qro_pr, qro_wi, qro_wl, qro_xi, qnx_pi, qnx_pr, qnx_wi, qnx_wl, qnx_wo, qnx_xi, qnx_xo, qsa_pi, qsa_wi, qsa_wl, qsa_pr, qsa_wo, fi_pi_at, fi_pi_nk, fi_pi_na, ri_wi_at, ri_wi_ne, ri_wi_nj, rl_wl_at, rl_wl_ne, rl_wl_nj, fr_pr_at, fr_pr_nk, fr_pr_na, hs, ↓rn_1004, ↓rn_1006]
      · rw [if_neg c]
        simp (disch := first | omega | assumption | (repeat first | assumption | apply RS_pi | apply RS_wi | apply RS_wl | apply CS_pi | apply CS_wi | apply CS_wl | apply CS_wo | apply CS_xo | apply RI_w15 | apply RI_w16 | apply RI_w17 | apply RI_w26 | apply RI_w27 | apply RI_w28 | apply RI_p1000)) only [↓reduceIte, ↓xg, ↓xi, ↓xl_wi, ↓xl_wl, ↓xl_pi, ↓xlI, ↓xlL, ↓xlN, xl, ↓xn, ↓xc, ↓xon, ↓xos, ↓ln_1, ↓ln_2, ↓ln_3, ↓ln_8, qli_0, qli_1, qli_2, qli_3, qli_4, qli_5, qli_6, qli_7, qli_8, qli_9, qli_10, qli_11, qli_12, qli_13, qli_14, qli_15, qli_16, qli_17, qli_18, qli_19, qli_20, qli_21, qli_22, qli_23, qli_24, qli_25, qli_26, qli_31, qli_32, qli_37, qli_39, qli_40, qli_41, qli_42, qli_43, qli_45, qli_47, qli_48, qli_49, qli_50, qli_56, qli_57, qli_59, qli_60, qli_61, qli_63, qli_64, qli_96, qli_97, qli_99, qli_100, qli_101, qli_122, qli_126, qli_143, qli_144, qli_192, qli_200, qli_201, qli_216, qli_255, qli_256, qli_780, qli_799, qli_800, qli_801, qli_802, qli_880, qli_1000, qli_5760, qli_7040, qli_7920, qli_1000000, in_t, le_t, le_f, lt_t, lt_f, eq_t, eq_f, nI_add, nI_sub', nI_mul, nI_clamp, m1_ne, m1_ne', m1_lt, m1_le, m1_nlt, m1_nle, m1_add, eq_self, not_true_eq_false, not_false_eq_true, ne_eq, Nat.reduceLeDiff, Nat.reduceLT, and_true, true_and, and_self, or_true, true_or, or_false, false_or, false_and, and_false, qK_pi, qK_pr, qK_wi, qK_wl, qK_wo, qK_xi, qK_xo, qfr_pi', qfr_wi', qfr_wl', qfr_wo', qfr_xi', qfr_xo', qfi_pr, qfi_wi, qfi_wl, qfi_wo, qfi_xi, qfi_xo, qln_pi, qln_pr, qln_wi, qln_wl, qln_wo, qln_xi, qln_xo, qri_pi, qri_pr, qri_wl, qri_wo, qri_xo, qrl_pi, qrl_pr, qrl_wi, qrl_wo, qrl_xi, qrl_xo, qro_pi, qro_pr, qro_wi, qro_wl, qro_xi, qnx_pi, qnx_pr, qnx_wi, qnx_wl, qnx_wo, qnx_xi, qnx_xo, qsa_pi, qsa_wi, qsa_wl, qsa_pr, qsa_wo, fi_pi_at, fi_pi_nk, fi_pi_na, ri_wi_at, ri_wi_ne, ri_wi_nj, rl_wl_at, rl_wl_ne, rl_wl_nj, fr_pr_at, fr_pr_nk, fr_pr_na, hs, ↓rn_1004, ↓rn_1006]
    rw [← fin]
    unfold b_X9_cutAll_70 f_X9_isLetter
    generalize j_X9_cutAll_129 = J
    by_cases c : e < z
    · have ri := ht e c
      have y := hend c
      have y2 := hb e
      clear hin hend ht hb fin
      by_cases c2 : ts e < 97
      · simp (disch := first | omega | assumption | (repeat first | assumption | apply RS_pi | apply RS_wi | apply RS_wl | apply CS_pi | apply CS_wi | apply CS_wl | apply CS_wo | apply CS_xo | apply RI_w15 | apply RI_w16 | apply RI_w17 | apply RI_w26 | apply RI_w27 | apply RI_w28 | apply RI_p1000)) only [↓reduceIte, ↓xg, ↓xi, ↓xl_wi, ↓xl_wl, ↓xl_pi, ↓xlI, ↓xlL, ↓xlN, xl, ↓xn, ↓xc, ↓xon, ↓xos, ↓ln_1, ↓ln_2, ↓ln_3, ↓ln_8, qli_0, qli_1, qli_2, qli_3, qli_4, qli_5, qli_6, qli_7, qli_8, qli_9, qli_10, qli_11, qli_12, qli_13, qli_14, qli_15, qli_16, qli_17, qli_18, qli_19, qli_20, qli_21, qli_22, qli_23, qli_24, qli_25, qli_26, qli_31, qli_32, qli_37, qli_39, qli_40, qli_41, qli_42, qli_43, qli_45, qli_47, qli_48, qli_49, qli_50, qli_56, qli_57, qli_59, qli_60, qli_61, qli_63, qli_64, qli_96, qli_97, qli_99, qli_100, qli_101, qli_122, qli_126, qli_143, qli_144, qli_192, qli_200, qli_201, qli_216, qli_255, qli_256, qli_780, qli_799, qli_800, qli_801, qli_802, qli_880, qli_1000, qli_5760, qli_7040, qli_7920, qli_1000000, in_t, le_t, le_f, lt_t, lt_f, eq_t, eq_f, nI_add, nI_sub', nI_mul, nI_clamp, m1_ne, m1_ne', m1_lt, m1_le, m1_nlt, m1_nle, m1_add, eq_self, not_true_eq_false, not_false_eq_true, ne_eq, Nat.reduceLeDiff, Nat.reduceLT, and_true, true_and, and_self, or_true, true_or, or_false, false_or, false_and, and_false, qK_pi, qK_pr, qK_wi, qK_wl, qK_wo, qK_xi, qK_xo, qfr_pi', qfr_wi', qfr_wl', qfr_wo', qfr_xi', qfr_xo', qfi_pr, qfi_wi, qfi_wl, qfi_wo, qfi_xi, qfi_xo, qln_pi, qln_pr, qln_wi, qln_wl, qln_wo, qln_xi, qln_xo, qri_pi, qri_pr, qri_wl, qri_wo, qri_xo, qrl_pi, qrl_pr, qrl_wi, qrl_wo, qrl_xi, qrl_xo, qro_pi, qro_pr, qro_wi, qro_wl, qro_xi, qnx_pi, qnx_pr, qnx_wi, qnx_wl, qnx_wo, qnx_xi, qnx_xo, qsa_pi, qsa_wi, qsa_wl, qsa_pr, qsa_wo, fi_pi_at, fi_pi_nk, fi_pi_na, ri_wi_at, ri_wi_ne, ri_wi_nj, rl_wl_at, rl_wl_ne, rl_wl_nj, fr_pr_at, fr_pr_nk, fr_pr_na, hs, h3, ↓rn_1001, ri, xc]
      · have c3 : 122 < ts e := by omega
        simp (disch := first | omega | assumption | (repeat first | assumption | apply RS_pi | apply RS_wi | apply RS_wl | apply CS_pi | apply CS_wi | apply CS_wl | apply CS_wo | apply CS_xo | apply RI_w15 | apply RI_w16 | apply RI_w17 | apply RI_w26 | apply RI_w27 | apply RI_w28 | apply RI_p1000)) only [↓reduceIte, ↓xg, ↓xi, ↓xl_wi, ↓xl_wl, ↓xl_pi, ↓xlI, ↓xlL, ↓xlN, xl, ↓xn, ↓xc, ↓xon, ↓xos, ↓ln_1, ↓ln_2, ↓ln_3, ↓ln_8, qli_0, qli_1, qli_2, qli_3, qli_4, qli_5, qli_6, qli_7, qli_8, qli_9, qli_10, qli_11, qli_12, qli_13, qli_14, qli_15, qli_16, qli_17, qli_18, qli_19, qli_20, qli_21, qli_22, qli_23, qli_24, qli_25, qli_26, qli_31, qli_32, qli_37, qli_39, qli_40, qli_41, qli_42, qli_43, qli_45, qli_47, qli_48, qli_49, qli_50, qli_56, qli_57, qli_59, qli_60, qli_61, qli_63, qli_64, qli_96, qli_97, qli_99, qli_100, qli_101, qli_122, qli_126, qli_143, qli_144, qli_192, qli_200, qli_201, qli_216, qli_255, qli_256, qli_780, qli_799, qli_800, qli_801, qli_802, qli_880, qli_1000, qli_5760, qli_7040, qli_7920, qli_1000000, in_t, le_t, le_f, lt_t, lt_f, eq_t, eq_f, nI_add, nI_sub', nI_mul, nI_clamp, m1_ne, m1_ne', m1_lt, m1_le, m1_nlt, m1_nle, m1_add, eq_self, not_true_eq_false, not_false_eq_true, ne_eq, Nat.reduceLeDiff, Nat.reduceLT, and_true, true_and, and_self, or_true, true_or, or_false, false_or, false_and, and_false, qK_pi, qK_pr, qK_wi, qK_wl, qK_wo, qK_xi, qK_xo, qfr_pi', qfr_wi', qfr_wl', qfr_wo', qfr_xi', qfr_xo', qfi_pr, qfi_wi, qfi_wl, qfi_wo, qfi_xi, qfi_xo, qln_pi, qln_pr, qln_wi, qln_wl, qln_wo, qln_xi, qln_xo, qri_pi, qri_pr, qri_wl, qri_wo, qri_xo, qrl_pi, qrl_pr, qrl_wi, qrl_wo, qrl_xi, qrl_xo, qro_pi, qro_pr, qro_wi, qro_wl, qro_xi, qnx_pi, qnx_pr, qnx_wi, qnx_wl, qnx_wo, qnx_xi, qnx_xo, qsa_pi, qsa_wi, qsa_wl, qsa_pr, qsa_wo, fi_pi_at, fi_pi_nk, fi_pi_na, ri_wi_at, ri_wi_ne, ri_wi_nj, rl_wl_at, rl_wl_ne, rl_wl_nj, fr_pr_at, fr_pr_nk, fr_pr_na, hs, h3, ↓rn_1001, ri, xc]
    · clear hin hend ht hb fin
      simp (disch := first | omega | assumption | (repeat first | assumption | apply RS_pi | apply RS_wi | apply RS_wl | apply CS_pi | apply CS_wi | apply CS_wl | apply CS_wo | apply CS_xo | apply RI_w15 | apply RI_w16 | apply RI_w17 | apply RI_w26 | apply RI_w27 | apply RI_w28 | apply RI_p1000)) only [↓reduceIte, ↓xg, ↓xi, ↓xl_wi, ↓xl_wl, ↓xl_pi, ↓xlI, ↓xlL, ↓xlN, xl, ↓xn, ↓xc, ↓xon, ↓xos, ↓ln_1, ↓ln_2, ↓ln_3, ↓ln_8, qli_0, qli_1, qli_2, qli_3, qli_4, qli_5, qli_6, qli_7, qli_8, qli_9, qli_10, qli_11, qli_12, qli_13, qli_14, qli_15, qli_16, qli_17, qli_18, qli_19, qli_20, qli_21, qli_22, qli_23, qli_24, qli_25, qli_26, qli_31, qli_32, qli_37, qli_39, qli_40, qli_41, qli_42, qli_43, qli_45, qli_47, qli_48, qli_49, qli_50, qli_56, qli_57, qli_59, qli_60, qli_61, qli_63, qli_64, qli_96, qli_97, qli_99, qli_100, qli_101, qli_122, qli_126, qli_143, qli_144, qli_192, qli_200, qli_201, qli_216, qli_255, qli_256, qli_780, qli_799, qli_800, qli_801, qli_802, qli_880, qli_1000, qli_5760, qli_7040, qli_7920, qli_1000000, in_t, le_t, le_f, lt_t, lt_f, eq_t, eq_f, nI_add, nI_sub', nI_mul, nI_clamp, m1_ne, m1_ne', m1_lt, m1_le, m1_nlt, m1_nle, m1_add, eq_self, not_true_eq_false, not_false_eq_true, ne_eq, Nat.reduceLeDiff, Nat.reduceLT, and_true, true_and, and_self, or_true, true_or, or_false, false_or, false_and, and_false, qK_pi, qK_pr, qK_wi, qK_wl, qK_wo, qK_xi, qK_xo, qfr_pi', qfr_wi', qfr_wl', qfr_wo', qfr_xi', qfr_xo', qfi_pr, qfi_wi, qfi_wl, qfi_wo, qfi_xi, qfi_xo, qln_pi, qln_pr, qln_wi, qln_wl, qln_wo, qln_xi, qln_xo, qri_pi, qri_pr, qri_wl, qri_wo, qri_xo, qrl_pi, qrl_pr, qrl_wi, qrl_wo, qrl_xi, qrl_xo, qro_pi, qro_pr, qro_wi, qro_wl, qro_xi, qnx_pi, qnx_pr, qnx_wi, qnx_wl, qnx_wo, qnx_xi, qnx_xo, qsa_pi, qsa_wi, qsa_wl, qsa_pr, qsa_wo, fi_pi_at, fi_pi_nk, fi_pi_na, ri_wi_at, ri_wi_ne, ri_wi_nj, rl_wl_at, rl_wl_ne, rl_wl_nj, fr_pr_at, fr_pr_nk, fr_pr_na, hs, h3]) c_N (by omega) (N_big (by omega))
  have e0 : (if a - a ≤ 8 then a - a else 8) = 0 := by rw [if_pos (by omega)]; omega
  have e1 : n37 (sl ts a 0) = 0 := rfl
  have k2 : c_w (b_X9_cutAll_70 m rec17 (nI k) (nI a)) c_N (T, nI a, lN (n37 (sl ts a (if a - a ≤ 8 then a - a else 8)))) = rec17 (st_wl (st_wi T (m + 2) k (nI (if e - a ≤ 8 then 1 else 4))) (m + 4) k (lN (n37 (sl ts a (if e - a ≤ 8 then e - a else 8)))), nI (k + 1), nI e) := key
  rw [e0, e1] at k2
  exact k2
theorem r_digits {a e k : Nat} {rec17 : st_T × Int32 × Int32 → Option (Unit × st_T)} (hs : RS T m) (hz : z ≤ 800) (h3 : st_fi T 1003 m = nI z) (ht : ∀ j, j < z → st_ri T (m + 1) j = nI (ts j)) (hae : a < e) (he : e ≤ z) (hin : ∀ i, a ≤ i → i < e → 48 ≤ ts i ∧ ts i ≤ 57) (hend : e < z → ¬ (48 ≤ ts e ∧ ts e ≤ 57)) (hb : ∀ i, ts i ≤ 126) (hk : k ≤ 800) : c_w (b_X9_cutAll_159 m rec17 (nI k) (nI a)) c_N (T, nI a, lN 0) = rec17 (st_wl (st_wi T (m + 2) k (nI (if e - a ≤ 4 then 2 else 4))) (m + 4) k (lN (nv (sl ts a (if e - a ≤ 4 then e - a else 4)))), nI (k + 1), nI e) := by
  have key := w_cf (body := b_X9_cutAll_159 m rec17 (nI k) (nI a)) (v := rec17 (st_wl (st_wi T (m + 2) k (nI (if e - a ≤ 4 then 2 else 4))) (m + 4) k (lN (nv (sl ts a (if e - a ≤ 4 then e - a else 4)))), nI (k + 1), nI e)) e a (fun i => (T, nI i, lN (nv (sl ts a (if i - a ≤ 4 then i - a else 4))))) (fun i q1 q2 rec => by
    have y := hin i q1 q2
    have ri := ht i (by omega)
    clear hin hend ht
    have l10 : (10 : Int64) = lN 10 := rfl
    have l48 : (48 : Int64) = lN 48 := rfl
    have l1 : (nI (ts i)).toInt64 = lN (ts i) := nI_l (by omega)
    by_cases c : i - a < 4
    · rw [if_pos (by omega), if_pos (by omega)]
      have e1 : i + 1 - a = (i - a) + 1 := by omega
      have e2 : a + (i - a) = i := by omega
      rw [e1, nv_succ, e2]
      generalize nv (sl ts a (i - a)) = u
      have e3 : lN (10 * u + ts i) - lN 48 = lN (10 * u + (ts i - 48)) := by
        rw [lN_sub (by omega)]
        congr 1
        omega
      unfold b_X9_cutAll_159 j_X9_cutAll_210 f_X9_isDigit
      clear e1 e2 hb
      simp (disch := first | omega | assumption | (repeat first | assumption | apply RS_pi | apply RS_wi | apply RS_wl | apply CS_pi | apply CS_wi | apply CS_wl | apply CS_wo | apply CS_xo | apply RI_w15 | apply RI_w16 | apply RI_w17 | apply RI_w26 | apply RI_w27 | apply RI_w28 | apply RI_p1000)) only [↓reduceIte, ↓xg, ↓xi, ↓xl_wi, ↓xl_wl, ↓xl_pi, ↓xlI, ↓xlL, ↓xlN, xl, ↓xn, ↓xc, ↓xon, ↓xos, ↓ln_1, ↓ln_2, ↓ln_3, ↓ln_8, qli_0, qli_1, qli_2, qli_3, qli_4, qli_5, qli_6, qli_7, qli_8, qli_9, qli_10, qli_11, qli_12, qli_13, qli_14, qli_15, qli_16, qli_17, qli_18, qli_19, qli_20, qli_21, qli_22, qli_23, qli_24, qli_25, qli_26, qli_31, qli_32, qli_37, qli_39, qli_40, qli_41, qli_42, qli_43, qli_45, qli_47, qli_48, qli_49, qli_50, qli_56, qli_57, qli_59, qli_60, qli_61, qli_63, qli_64, qli_96, qli_97, qli_99, qli_100, qli_101, qli_122, qli_126, qli_143, qli_144, qli_192, qli_200, qli_201, qli_216, qli_255, qli_256, qli_780, qli_799, qli_800, qli_801, qli_802, qli_880, qli_1000, qli_5760, qli_7040, qli_7920, qli_1000000, in_t, le_t, le_f, lt_t, lt_f, eq_t, eq_f, nI_add, nI_sub', nI_mul, nI_clamp, m1_ne, m1_ne', m1_lt, m1_le, m1_nlt, m1_nle, m1_add, eq_self, not_true_eq_false, not_false_eq_true, ne_eq, Nat.reduceLeDiff, Nat.reduceLT, and_true, true_and, and_self, or_true, true_or, or_false, false_or, false_and, and_false, qK_pi, qK_pr, qK_wi, qK_wl, qK_wo, qK_xi, qK_xo, qfr_pi', qfr_wi', qfr_wl', qfr_wo', qfr_xi', qfr_xo', qfi_pr, qfi_wi, qfi_wl, qfi_wo, qfi_xi, qfi_xo, qln_pi, qln_pr, qln_wi, qln_wl, qln_wo, qln_xi, qln_xo, qri_pi, qri_pr, qri_wl, qri_wo, qri_xo, qrl_pi, qrl_pr, qrl_wi, qrl_wo, qrl_xi, qrl_xo, qro_pi, qro_pr, qro_wi, qro_wl, qro_xi, qnx_pi, qnx_pr, qnx_wi, qnx_wl, qnx_wo, qnx_xi, qnx_xo, qsa_pi, qsa_wi, qsa_wl, qsa_pr, qsa_wo, fi_pi_at, fi_pi_nk, fi_pi_na, ri_wi_at, ri_wi_ne, ri_wi_nj, rl_wl_at, rl_wl_ne, rl_wl_nj, fr_pr_at, fr_pr_nk, fr_pr_na, hs, h3, ↓rn_1001, ri, xc, l1, l10, l48, lN_mul, lN_add, e3]
    · have e1 : (if i - a ≤ 4 then i - a else 4) = 4 := by split <;> omega
      have e2 : (if i + 1 - a ≤ 4 then i + 1 - a else 4) = 4 := by split <;> omega
      rw [e1, e2]
      generalize lN (nv (sl ts a 4)) = u
      unfold b_X9_cutAll_159 j_X9_cutAll_210 f_X9_isDigit
      clear e1 e2 hb l1
      simp (disch := first | omega | assumption | (repeat first | assumption | apply RS_pi | apply RS_wi | apply RS_wl | apply CS_pi | apply CS_wi | apply CS_wl | apply CS_wo | apply CS_xo | apply RI_w15 | apply RI_w16 | apply RI_w17 | apply RI_w26 | apply RI_w27 | apply RI_w28 | apply RI_p1000)) only [↓reduceIte, ↓xg, ↓xi, ↓xl_wi, ↓xl_wl, ↓xl_pi, ↓xlI, ↓xlL, ↓xlN, xl, ↓xn, ↓xc, ↓xon, ↓xos, ↓ln_1, ↓ln_2, ↓ln_3, ↓ln_8, qli_0, qli_1, qli_2, qli_3, qli_4, qli_5, qli_6, qli_7, qli_8, qli_9, qli_10, qli_11, qli_12, qli_13, qli_14, qli_15, qli_16, qli_17, qli_18, qli_19, qli_20, qli_21, qli_22, qli_23, qli_24, qli_25, qli_26, qli_31, qli_32, qli_37, qli_39, qli_40, qli_41, qli_42, qli_43, qli_45, qli_47, qli_48, qli_49, qli_50, qli_56, qli_57, qli_59, qli_60, qli_61, qli_63, qli_64, qli_96, qli_97, qli_99, qli_100, qli_101, qli_122, qli_126, qli_143, qli_144, qli_192, qli_200, qli_201, qli_216, qli_255, qli_256, qli_780, qli_799, qli_800, qli_801, qli_802, qli_880, qli_1000, qli_5760, qli_7040, qli_7920, qli_1000000, in_t, le_t, le_f, lt_t, lt_f, eq_t, eq_f, nI_add, nI_sub', nI_mul, nI_clamp, m1_ne, m1_ne', m1_lt, m1_le, m1_nlt, m1_nle, m1_add, eq_self, not_true_eq_false, not_false_eq_true, ne_eq, Nat.reduceLeDiff, Nat.reduceLT, and_true, true_and, and_self, or_true, true_or, or_false, false_or, false_and, and_false, qK_pi, qK_pr, qK_wi, qK_wl, qK_wo, qK_xi, qK_xo, qfr_pi', qfr_wi', qfr_wl', qfr_wo', qfr_xi', qfr_xo', qfi_pr, qfi_wi, qfi_wl, qfi_wo, qfi_xi, qfi_xo, qln_pi, qln_pr, qln_wi, qln_wl, qln_wo, qln_xi, qln_xo, qri_pi, qri_pr, qri_wl, qri_wo, qri_xo, qrl_pi, qrl_pr, qrl_wi, qrl_wo, qrl_xi, qrl_xo, qro_pi, qro_pr, qro_wi, qro_wl, qro_xi, qnx_pi, qnx_pr, qnx_wi, qnx_wl, qnx_wo, qnx_xi, qnx_xo, qsa_pi, qsa_wi, qsa_wl, qsa_pr, qsa_wo, fi_pi_at, fi_pi_nk, fi_pi_na, ri_wi_at, ri_wi_ne, ri_wi_nj, rl_wl_at, rl_wl_ne, rl_wl_nj, fr_pr_at, fr_pr_nk, fr_pr_na, hs, h3, ↓rn_1001, ri, xc]) (fun rec => by
    generalize lN (nv (sl ts a (if e - a ≤ 4 then e - a else 4))) = u
    have fin : j_X9_cutAll_218 m rec17 (nI k) (nI a) (nI e) u T = rec17 (st_wl (st_wi T (m + 2) k (nI (if e - a ≤ 4 then 2 else 4))) (m + 4) k u, nI (k + 1), nI e) := by
      clear hin hend ht hb
      unfold j_X9_cutAll_218 j_X9_cutAll_236 j_X9_cutAll_265
      by_cases c : e - a ≤ 4
      · rw [if_pos c]
        simp (disch := first | omega | assumption | (repeat first | assumption | apply RS_pi | apply RS_wi | apply RS_wl | apply CS_pi | apply CS_wi | apply CS_wl | apply CS_wo | apply CS_xo | apply RI_w15 | apply RI_w16 | apply RI_w17 | apply RI_w26 | apply RI_w27 | apply RI_w28 | apply RI_p1000)) only [↓reduceIte, ↓xg, ↓xi, ↓xl_wi, ↓xl_wl, ↓xl_pi, ↓xlI, ↓xlL, ↓xlN, xl, ↓xn, ↓xc, ↓xon, ↓xos, ↓ln_1, ↓ln_2, ↓ln_3, ↓ln_8, qli_0, qli_1, qli_2, qli_3, qli_4, qli_5, qli_6, qli_7, qli_8, qli_9, qli_10, qli_11, qli_12, qli_13, qli_14, qli_15, qli_16, qli_17, qli_18, qli_19, qli_20, qli_21, qli_22, qli_23, qli_24, qli_25, qli_26, qli_31, qli_32, qli_37, qli_39, qli_40, qli_41, qli_42, qli_43, qli_45, qli_47, qli_48, qli_49, qli_50, qli_56, qli_57, qli_59, qli_60, qli_61, qli_63, qli_64, qli_96, qli_97, qli_99, qli_100, qli_101, qli_122, qli_126, qli_143, qli_144, qli_192, qli_200, qli_201, qli_216, qli_255, qli_256, qli_780, qli_799, qli_800, qli_801, qli_802, qli_880, qli_1000, qli_5760, qli_7040, qli_7920, qli_1000000, in_t, le_t, le_f, lt_t, lt_f, eq_t, eq_f, nI_add, nI_sub', nI_mul, nI_clamp, m1_ne, m1_ne', m1_lt, m1_le, m1_nlt, m1_nle, m1_add, eq_self, not_true_eq_false, not_false_eq_true, ne_eq, Nat.reduceLeDiff, Nat.reduceLT, and_true, true_and, and_self, or_true, true_or, or_false, false_or, false_and, and_false, qK_pi, qK_pr, qK_wi, qK_wl, qK_wo, qK_xi, qK_xo, qfr_pi', qfr_wi', qfr_wl', qfr_wo', qfr_xi', qfr_xo', qfi_pr, qfi_wi, qfi_wl, qfi_wo, qfi_xi, qfi_xo, qln_pi, qln_pr, qln_wi, qln_wl, qln_wo, qln_xi, qln_xo, qri_pi, qri_pr, qri_wl, qri_wo, qri_xo, qrl_pi, qrl_pr, qrl_wi, qrl_wo, qrl_xi, qrl_xo, qro_pi, qro_pr, qro_wi, qro_wl, qro_xi, qnx_pi, qnx_pr, qnx_wi, qnx_wl, qnx_wo, qnx_xi, qnx_xo, qsa_pi, qsa_wi, qsa_wl, qsa_pr, qsa_wo, fi_pi_at, fi_pi_nk, fi_pi_na, ri_wi_at, ri_wi_ne, ri_wi_nj, rl_wl_at, rl_wl_ne, rl_wl_nj, fr_pr_at, fr_pr_nk, fr_pr_na, hs, ↓rn_1004, ↓rn_1006]
      · rw [if_neg c]
        simp (disch := first | omega | assumption | (repeat first | assumption | apply RS_pi | apply RS_wi | apply RS_wl | apply CS_pi | apply CS_wi | apply CS_wl | apply CS_wo | apply CS_xo | apply RI_w15 | apply RI_w16 | apply RI_w17 | apply RI_w26 | apply RI_w27 | apply RI_w28 | apply RI_p1000)) only [↓reduceIte, ↓xg, ↓xi, ↓xl_wi, ↓xl_wl, ↓xl_pi, ↓xlI, ↓xlL, ↓xlN, xl, ↓xn, ↓xc, ↓xon, ↓xos, ↓ln_1, ↓ln_2, ↓ln_3, ↓ln_8, qli_0, qli_1, qli_2, qli_3, qli_4, qli_5, qli_6, qli_7, qli_8, qli_9, qli_10, qli_11, qli_12, qli_13, qli_14, qli_15, qli_16, qli_17, qli_18, qli_19, qli_20, qli_21, qli_22, qli_23, qli_24, qli_25, qli_26, qli_31, qli_32, qli_37, qli_39, qli_40, qli_41, qli_42, qli_43, qli_45, qli_47, qli_48, qli_49, qli_50, qli_56, qli_57, qli_59, qli_60, qli_61, qli_63, qli_64, qli_96, qli_97, qli_99, qli_100, qli_101, qli_122, qli_126, qli_143, qli_144, qli_192, qli_200, qli_201, qli_216, qli_255, qli_256, qli_780, qli_799, qli_800, qli_801, qli_802, qli_880, qli_1000, qli_5760, qli_7040, qli_7920, qli_1000000, in_t, le_t, le_f, lt_t, lt_f, eq_t, eq_f, nI_add, nI_sub', nI_mul, nI_clamp, m1_ne, m1_ne', m1_lt, m1_le, m1_nlt, m1_nle, m1_add, eq_self, not_true_eq_false, not_false_eq_true, ne_eq, Nat.reduceLeDiff, Nat.reduceLT, and_true, true_and, and_self, or_true, true_or, or_false, false_or, false_and, and_false, qK_pi, qK_pr, qK_wi, qK_wl, qK_wo, qK_xi, qK_xo, qfr_pi', qfr_wi', qfr_wl', qfr_wo', qfr_xi', qfr_xo', qfi_pr, qfi_wi, qfi_wl, qfi_wo, qfi_xi, qfi_xo, qln_pi, qln_pr, qln_wi, qln_wl, qln_wo, qln_xi, qln_xo, qri_pi, qri_pr, qri_wl, qri_wo, qri_xo, qrl_pi, qrl_pr, qrl_wi, qrl_wo, qrl_xi, qrl_xo, qro_pi, qro_pr, qro_wi, qro_wl, qro_xi, qnx_pi, qnx_pr, qnx_wi, qnx_wl, qnx_wo, qnx_xi, qnx_xo, qsa_pi, qsa_wi, qsa_wl, qsa_pr, qsa_wo, fi_pi_at, fi_pi_nk, fi_pi_na, ri_wi_at, ri_wi_ne, ri_wi_nj, rl_wl_at, rl_wl_ne, rl_wl_nj, fr_pr_at, fr_pr_nk, fr_pr_na, hs, ↓rn_1004, ↓rn_1006]
    rw [← fin]
    unfold b_X9_cutAll_159 f_X9_isDigit
    generalize j_X9_cutAll_218 = J
    by_cases c : e < z
    · have ri := ht e c
      have y := hend c
      have y2 := hb e
      clear hin hend ht hb fin
      by_cases c2 : ts e < 48
      · simp (disch := first | omega | assumption | (repeat first | assumption | apply RS_pi | apply RS_wi | apply RS_wl | apply CS_pi | apply CS_wi | apply CS_wl | apply CS_wo | apply CS_xo | apply RI_w15 | apply RI_w16 | apply RI_w17 | apply RI_w26 | apply RI_w27 | apply RI_w28 | apply RI_p1000)) only [↓reduceIte, ↓xg, ↓xi, ↓xl_wi, ↓xl_wl, ↓xl_pi, ↓xlI, ↓xlL, ↓xlN, xl, ↓xn, ↓xc, ↓xon, ↓xos, ↓ln_1, ↓ln_2, ↓ln_3, ↓ln_8, qli_0, qli_1, qli_2, qli_3, qli_4, qli_5, qli_6, qli_7, qli_8, qli_9, qli_10, qli_11, qli_12, qli_13, qli_14, qli_15, qli_16, qli_17, qli_18, qli_19, qli_20, qli_21, qli_22, qli_23, qli_24, qli_25, qli_26, qli_31, qli_32, qli_37, qli_39, qli_40, qli_41, qli_42, qli_43, qli_45, qli_47, qli_48, qli_49, qli_50, qli_56, qli_57, qli_59, qli_60, qli_61, qli_63, qli_64, qli_96, qli_97, qli_99, qli_100, qli_101, qli_122, qli_126, qli_143, qli_144, qli_192, qli_200, qli_201, qli_216, qli_255, qli_256, qli_780, qli_799, qli_800, qli_801, qli_802, qli_880, qli_1000, qli_5760, qli_7040, qli_7920, qli_1000000, in_t, le_t, le_f, lt_t, lt_f, eq_t, eq_f, nI_add, nI_sub', nI_mul, nI_clamp, m1_ne, m1_ne', m1_lt, m1_le, m1_nlt, m1_nle, m1_add, eq_self, not_true_eq_false, not_false_eq_true, ne_eq, Nat.reduceLeDiff, Nat.reduceLT, and_true, true_and, and_self, or_true, true_or, or_false, false_or, false_and, and_false, qK_pi, qK_pr, qK_wi, qK_wl, qK_wo, qK_xi, qK_xo, qfr_pi', qfr_wi', qfr_wl', qfr_wo', qfr_xi', qfr_xo', qfi_pr, qfi_wi, qfi_wl, qfi_wo, qfi_xi, qfi_xo, qln_pi, qln_pr, qln_wi, qln_wl, qln_wo, qln_xi, qln_xo, qri_pi, qri_pr, qri_wl, qri_wo, qri_xo, qrl_pi, qrl_pr, qrl_wi, qrl_wo, qrl_xi, qrl_xo, qro_pi, qro_pr, qro_wi, qro_wl, qro_xi, qnx_pi, qnx_pr, qnx_wi, qnx_wl, qnx_wo, qnx_xi, qnx_xo, qsa_pi, qsa_wi, qsa_wl, qsa_pr, qsa_wo, fi_pi_at, fi_pi_nk, fi_pi_na, ri_wi_at, ri_wi_ne, ri_wi_nj, rl_wl_at, rl_wl_ne, rl_wl_nj, fr_pr_at, fr_pr_nk, fr_pr_na, hs, h3, ↓rn_1001, ri, xc]
      · have c3 : 57 < ts e := by omega
        simp (disch := first | omega | assumption | (repeat first | assumption | apply RS_pi | apply RS_wi | apply RS_wl | apply CS_pi | apply CS_wi | apply CS_wl | apply CS_wo | apply CS_xo | apply RI_w15 | apply RI_w16 | apply RI_w17 | apply RI_w26 | apply RI_w27 | apply RI_w28 | apply RI_p1000)) only [↓reduceIte, ↓xg, ↓xi, ↓xl_wi, ↓xl_wl, ↓xl_pi, ↓xlI, ↓xlL, ↓xlN, xl, ↓xn, ↓xc, ↓xon, ↓xos, ↓ln_1, ↓ln_2, ↓ln_3, ↓ln_8, qli_0, qli_1, qli_2, qli_3, qli_4, qli_5, qli_6, qli_7, qli_8, qli_9, qli_10, qli_11, qli_12, qli_13, qli_14, qli_15, qli_16, qli_17, qli_18, qli_19, qli_20, qli_21, qli_22, qli_23, qli_24, qli_25, qli_26, qli_31, qli_32, qli_37, qli_39, qli_40, qli_41, qli_42, qli_43, qli_45, qli_47, qli_48, qli_49, qli_50, qli_56, qli_57, qli_59, qli_60, qli_61, qli_63, qli_64, qli_96, qli_97, qli_99, qli_100, qli_101, qli_122, qli_126, qli_143, qli_144, qli_192, qli_200, qli_201, qli_216, qli_255, qli_256, qli_780, qli_799, qli_800, qli_801, qli_802, qli_880, qli_1000, qli_5760, qli_7040, qli_7920, qli_1000000, in_t, le_t, le_f, lt_t, lt_f, eq_t, eq_f, nI_add, nI_sub', nI_mul, nI_clamp, m1_ne, m1_ne', m1_lt, m1_le, m1_nlt, m1_nle, m1_add, eq_self, not_true_eq_false, not_false_eq_true, ne_eq, Nat.reduceLeDiff, Nat.reduceLT, and_true, true_and, and_self, or_true, true_or, or_false, false_or, false_and, and_false, qK_pi, qK_pr, qK_wi, qK_wl, qK_wo, qK_xi, qK_xo, qfr_pi', qfr_wi', qfr_wl', qfr_wo', qfr_xi', qfr_xo', qfi_pr, qfi_wi, qfi_wl, qfi_wo, qfi_xi, qfi_xo, qln_pi, qln_pr, qln_wi, qln_wl, qln_wo, qln_xi, qln_xo, qri_pi, qri_pr, qri_wl, qri_wo, qri_xo, qrl_pi, qrl_pr, qrl_wi, qrl_wo, qrl_xi, qrl_xo, qro_pi, qro_pr, qro_wi, qro_wl, qro_xi, qnx_pi, qnx_pr, qnx_wi, qnx_wl, qnx_wo, qnx_xi, qnx_xo, qsa_pi, qsa_wi, qsa_wl, qsa_pr, qsa_wo, fi_pi_at, fi_pi_nk, fi_pi_na, ri_wi_at, ri_wi_ne, ri_wi_nj, rl_wl_at, rl_wl_ne, rl_wl_nj, fr_pr_at, fr_pr_nk, fr_pr_na, hs, h3, ↓rn_1001, ri, xc]
    · clear hin hend ht hb fin
      simp (disch := first | omega | assumption | (repeat first | assumption | apply RS_pi | apply RS_wi | apply RS_wl | apply CS_pi | apply CS_wi | apply CS_wl | apply CS_wo | apply CS_xo | apply RI_w15 | apply RI_w16 | apply RI_w17 | apply RI_w26 | apply RI_w27 | apply RI_w28 | apply RI_p1000)) only [↓reduceIte, ↓xg, ↓xi, ↓xl_wi, ↓xl_wl, ↓xl_pi, ↓xlI, ↓xlL, ↓xlN, xl, ↓xn, ↓xc, ↓xon, ↓xos, ↓ln_1, ↓ln_2, ↓ln_3, ↓ln_8, qli_0, qli_1, qli_2, qli_3, qli_4, qli_5, qli_6, qli_7, qli_8, qli_9, qli_10, qli_11, qli_12, qli_13, qli_14, qli_15, qli_16, qli_17, qli_18, qli_19, qli_20, qli_21, qli_22, qli_23, qli_24, qli_25, qli_26, qli_31, qli_32, qli_37, qli_39, qli_40, qli_41, qli_42, qli_43, qli_45, qli_47, qli_48, qli_49, qli_50, qli_56, qli_57, qli_59, qli_60, qli_61, qli_63, qli_64, qli_96, qli_97, qli_99, qli_100, qli_101, qli_122, qli_126, qli_143, qli_144, qli_192, qli_200, qli_201, qli_216, qli_255, qli_256, qli_780, qli_799, qli_800, qli_801, qli_802, qli_880, qli_1000, qli_5760, qli_7040, qli_7920, qli_1000000, in_t, le_t, le_f, lt_t, lt_f, eq_t, eq_f, nI_add, nI_sub', nI_mul, nI_clamp, m1_ne, m1_ne', m1_lt, m1_le, m1_nlt, m1_nle, m1_add, eq_self, not_true_eq_false, not_false_eq_true, ne_eq, Nat.reduceLeDiff, Nat.reduceLT, and_true, true_and, and_self, or_true, true_or, or_false, false_or, false_and, and_false, qK_pi, qK_pr, qK_wi, qK_wl, qK_wo, qK_xi, qK_xo, qfr_pi', qfr_wi', qfr_wl', qfr_wo', qfr_xi', qfr_xo', qfi_pr, qfi_wi, qfi_wl, qfi_wo, qfi_xi, qfi_xo, qln_pi, qln_pr, qln_wi, qln_wl, qln_wo, qln_xi, qln_xo, qri_pi, qri_pr, qri_wl, qri_wo, qri_xo, qrl_pi, qrl_pr, qrl_wi, qrl_wo, qrl_xi, qrl_xo, qro_pi, qro_pr, qro_wi, qro_wl, qro_xi, qnx_pi, qnx_pr, qnx_wi, qnx_wl, qnx_wo, qnx_xi, qnx_xo, qsa_pi, qsa_wi, qsa_wl, qsa_pr, qsa_wo, fi_pi_at, fi_pi_nk, fi_pi_na, ri_wi_at, ri_wi_ne, ri_wi_nj, rl_wl_at, rl_wl_ne, rl_wl_nj, fr_pr_at, fr_pr_nk, fr_pr_na, hs, h3]) c_N (by omega) (N_big (by omega))
  have e0 : (if a - a ≤ 4 then a - a else 4) = 0 := by rw [if_pos (by omega)]; omega
  have e1 : nv (sl ts a 0) = 0 := rfl
  have k2 : c_w (b_X9_cutAll_159 m rec17 (nI k) (nI a)) c_N (T, nI a, lN (nv (sl ts a (if a - a ≤ 4 then a - a else 4)))) = rec17 (st_wl (st_wi T (m + 2) k (nI (if e - a ≤ 4 then 2 else 4))) (m + 4) k (lN (nv (sl ts a (if e - a ≤ 4 then e - a else 4)))), nI (k + 1), nI e) := key
  rw [e0, e1] at k2
  exact k2
end RK
