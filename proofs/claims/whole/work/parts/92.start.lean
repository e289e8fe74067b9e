/-! the start -/
section ST0
variable {β : Type} {B S T U : st_T} {m x N n : Nat} {sa : Nat → Nat}
def R0 (B : st_T) (m : Nat) (T : st_T) : Prop := RS T m ∧ (∀ w, st_ri T (m + 18) w = nI 0) ∧ (∀ w, st_ri T (m + 24) w = nI 0) ∧ (∀ s, s < 5 → st_ri T (m + 29) s = nI 1) ∧ st_fi T 1027 m = nI 0 ∧ st_fi T 1002 m = nI 0 ∧ st_fi T 1010 m = nI 0 ∧ st_fi T 1011 m = m1 ∧ (∀ i, i < 14 → st_rl T (m + 5) i = ([172647, 665856, 1176170, 1891, 1186224, 1327079004, 716895, 30595897, 1178088, 329128, 628896, 2286271, 1633, 5538] : List Int64).getD i 0) ∧ st_nx T = m + 30 ∧ st_sa T = st_sa B ∧ og B T (fun b => b < m)
set_option maxRecDepth 20000 in
theorem r_init1 (hb : HB B m 1 (u1 (fun _ => 0) 0 11) (fun _ => 0) (uN (fun _ _ => none) 0 none) (uN (fun _ _ => 0) 0 0) (fun _ _ => 0) (fun _ _ => 0) T) : ok (f_X9_init T (m + 0)) (fun _ T => R0 B m T) := by
  unfold f_X9_init
  repeat
    first
      | refine L_nx hb ?_
      | refine L_no hb (by decide) (fun T hb => ?_)
      | refine L_na hb (by decide) (fun T hb => ?_)
      | refine L_ps hb (fun T hb => ?_)
      | refine L_pr hb (fun T hb => ?_)
      | refine L_pi hb (fun T hb => ?_)
      | refine L_wi hb (fun T hb => ?_)
      | refine L_wl hb (fun T hb => ?_)
      | refine L_gk hb (by decide) (by decide) ?_
      | refine L_gi hb (by decide) (by decide) (by decide) ?_
      | refine L_n hb (by decide) (by decide) rfl ?_
      | refine L_c ?_
      | refine L_s ?_
      | refine ok_gt (by decide) ?_
  refine ⟨⟨(hb.2.2.2 0 (by decide)).1, (hb.2.2.2 1 (by decide)).1, ((hb.2.2.2 1 (by decide)).2.2 (by decide)).1, ((hb.2.2.2 0 (by decide)).2.1 (by decide)).1 1001, (hb.2.2.2 2 (by decide)).1, ((hb.2.2.2 2 (by decide)).2.2 (by decide)).1, ((hb.2.2.2 0 (by decide)).2.1 (by decide)).1 1004, (hb.2.2.2 3 (by decide)).1, ((hb.2.2.2 3 (by decide)).2.2 (by decide)).1, ((hb.2.2.2 0 (by decide)).2.1 (by decide)).1 1005, (hb.2.2.2 4 (by decide)).1, ((hb.2.2.2 4 (by decide)).2.2 (by decide)).1, ((hb.2.2.2 0 (by decide)).2.1 (by decide)).1 1006, (hb.2.2.2 5 (by decide)).1, ((hb.2.2.2 5 (by decide)).2.2 (by decide)).1, ((hb.2.2.2 0 (by decide)).2.1 (by decide)).1 1009, (hb.2.2.2 6 (by decide)).1, ((hb.2.2.2 6 (by decide)).2.2 (by decide)).1, ((hb.2.2.2 0 (by decide)).2.1 (by decide)).1 1012, (hb.2.2.2 7 (by decide)).1, ((hb.2.2.2 7 (by decide)).2.2 (by decide)).1, ((hb.2.2.2 0 (by decide)).2.1 (by decide)).1 1013, (hb.2.2.2 8 (by decide)).1, ((hb.2.2.2 8 (by decide)).2.2 (by decide)).1, ((hb.2.2.2 0 (by decide)).2.1 (by decide)).1 1014, (hb.2.2.2 9 (by decide)).1, ((hb.2.2.2 9 (by decide)).2.2 (by decide)).1, ((hb.2.2.2 0 (by decide)).2.1 (by decide)).1 1015, (hb.2.2.2 10 (by decide)).1, ((hb.2.2.2 10 (by decide)).2.2 (by decide)).1, ((hb.2.2.2 0 (by decide)).2.1 (by decide)).1 1016, (hb.2.2.2 11 (by decide)).1, ((hb.2.2.2 11 (by decide)).2.2 (by decide)).1, ((hb.2.2.2 0 (by decide)).2.1 (by decide)).1 1017, (hb.2.2.2 12 (by decide)).1, ((hb.2.2.2 12 (by decide)).2.2 (by decide)).1, ((hb.2.2.2 0 (by decide)).2.1 (by decide)).1 1020, (hb.2.2.2 13 (by decide)).1, ((hb.2.2.2 13 (by decide)).2.2 (by decide)).1, ((hb.2.2.2 0 (by decide)).2.1 (by decide)).1 1021, (hb.2.2.2 14 (by decide)).1, ((hb.2.2.2 14 (by decide)).2.2 (by decide)).1, ((hb.2.2.2 0 (by decide)).2.1 (by decide)).1 1022, (hb.2.2.2 15 (by decide)).1, ((hb.2.2.2 15 (by decide)).2.2 (by decide)).1, ((hb.2.2.2 0 (by decide)).2.1 (by decide)).1 1023, (hb.2.2.2 16 (by decide)).1, ((hb.2.2.2 16 (by decide)).2.2 (by decide)).1, ((hb.2.2.2 0 (by decide)).2.1 (by decide)).1 1024, (hb.2.2.2 17 (by decide)).1, ((hb.2.2.2 17 (by decide)).2.2 (by decide)).1, ((hb.2.2.2 0 (by decide)).2.1 (by decide)).1 1025, (hb.2.2.2 18 (by decide)).1, ((hb.2.2.2 18 (by decide)).2.2 (by decide)).1, ((hb.2.2.2 0 (by decide)).2.1 (by decide)).1 1026, (hb.2.2.2 19 (by decide)).1, ((hb.2.2.2 19 (by decide)).2.2 (by decide)).1, ((hb.2.2.2 0 (by decide)).2.1 (by decide)).1 1028, (hb.2.2.2 20 (by decide)).1, ((hb.2.2.2 20 (by decide)).2.2 (by decide)).1, ((hb.2.2.2 0 (by decide)).2.1 (by decide)).1 1029, (hb.2.2.2 21 (by decide)).1, ((hb.2.2.2 21 (by decide)).2.2 (by decide)).1, ((hb.2.2.2 0 (by decide)).2.1 (by decide)).1 1030, (hb.2.2.2 22 (by decide)).1, ((hb.2.2.2 22 (by decide)).2.2 (by decide)).1, ((hb.2.2.2 0 (by decide)).2.1 (by decide)).1 1031, (hb.2.2.2 23 (by decide)).1, ((hb.2.2.2 23 (by decide)).2.2 (by decide)).1, ((hb.2.2.2 0 (by decide)).2.1 (by decide)).1 1032, (hb.2.2.2 24 (by decide)).1, ((hb.2.2.2 24 (by decide)).2.2 (by decide)).1, ((hb.2.2.2 0 (by decide)).2.1 (by decide)).1 1033, (hb.2.2.2 25 (by decide)).1, ((hb.2.2.2 25 (by decide)).2.2 (by decide)).1, ((hb.2.2.2 0 (by decide)).2.1 (by decide)).1 1034, (hb.2.2.2 26 (by decide)).1, ((hb.2.2.2 26 (by decide)).2.2 (by decide)).1, ((hb.2.2.2 0 (by decide)).2.1 (by decide)).1 1035, (hb.2.2.2 27 (by decide)).1, ((hb.2.2.2 27 (by decide)).2.2 (by decide)).1, ((hb.2.2.2 0 (by decide)).2.1 (by decide)).1 1036, (hb.2.2.2 28 (by decide)).1, ((hb.2.2.2 28 (by decide)).2.2 (by decide)).1, ((hb.2.2.2 0 (by decide)).2.1 (by decide)).1 1037, (hb.2.2.2 29 (by decide)).1, ((hb.2.2.2 29 (by decide)).2.2 (by decide)).1, ((hb.2.2.2 0 (by decide)).2.1 (by decide)).1 1038⟩, ?_, ?_, ?_, ?_, ?_, ?_, ?_, ?_, hb.1, hb.2.1, hb.2.2.1⟩
  · intro w
    exact ((hb.2.2.2 18 (by decide)).2.2 (by decide)).2.1 w
  · intro w
    exact ((hb.2.2.2 24 (by decide)).2.2 (by decide)).2.1 w
  · intro s hs
    rw [((hb.2.2.2 29 (by decide)).2.2 (by decide)).2.1 s]
    have key : s = 0 ∨ s = 1 ∨ s = 2 ∨ s = 3 ∨ s = 4 := by omega
    rcases key with z | z | z | z | z <;> subst z <;> rfl
  · exact ((hb.2.2.2 0 (by decide)).2.1 (by decide)).2 1027
  · exact ((hb.2.2.2 0 (by decide)).2.1 (by decide)).2 1002
  · exact ((hb.2.2.2 0 (by decide)).2.1 (by decide)).2 1010
  · exact ((hb.2.2.2 0 (by decide)).2.1 (by decide)).2 1011
  · intro i hi
    rw [((hb.2.2.2 5 (by decide)).2.2 (by decide)).2.2 i]
    have key : i = 0 ∨ i = 1 ∨ i = 2 ∨ i = 3 ∨ i = 4 ∨ i = 5 ∨ i = 6 ∨ i = 7 ∨ i = 8 ∨ i = 9 ∨ i = 10 ∨ i = 11 ∨ i = 12 ∨ i = 13 := by omega
    rcases key with z | z | z | z | z | z | z | z | z | z | z | z | z | z <;> subst z <;> rfl
def M0 : mT := (fun _ => 0, 0, fun _ _ => 0, fun _ => 0, fun _ _ _ => 0, 0, fun _ => 32, fun _ => 1, 0, 0, fun _ => ([], [], 0))
theorem wM_0 : wM M0 := by
  refine ⟨fun w => ⟨by show 0 ≤ 200; omega, Or.inr rfl⟩, by show 0 ≤ 40; omega, fun i => ⟨by show 0 ≤ 9; omega, by show 0 ≤ 7; omega, by show 0 ≤ 6; omega, by show 0 ≤ 2; omega, by show 0 ≤ 1000000000; omega⟩, fun i => by show 0 ≤ 24; omega, fun i _ => rfl, fun i k hk => absurd hk (Nat.not_lt_zero _), fun i k hk => absurd hk (Nat.not_lt_zero _), by show 0 ≤ 800; omega, fun j => Or.inr ⟨by show 32 ≤ 32; omega, by show 32 ≤ 126; omega⟩, fun s => ⟨by show 1 ≤ 1; omega, by show 1 ≤ 1000000; omega⟩, by show 0 ≤ 0; omega, by show 0 ≤ 8; omega, fun t ht => absurd ht (Nat.not_lt_zero _), fun i k hk => absurd hk (Nat.not_lt_zero _)⟩
theorem RI_0 (h : R0 B m T) : RI T m M0 := by
  obtain ⟨h1, h2, h3, h4, h5, h6, h7, h8, h9, -⟩ := h
  exact ⟨h1, fun w _ => h2 w, h5, fun i hi => absurd hi (Nat.not_lt_zero _), fun i _ => h3 i, fun i k w hi => absurd hi (Nat.not_lt_zero _), h6, fun j hj => absurd hj (Nat.not_lt_zero _), h4, h8, h7, fun t ht => absurd ht (Nat.not_lt_zero _), h9⟩
theorem find_sa (hi : ∀ i j, i < 15 → j < 15 → sa i = sa j → i = j) {i : Nat} (h : i < 15) : (List.range 15).find? (fun j => sa j == sa i) = some i := by
  cases e : (List.range 15).find? (fun j => sa j == sa i) with
  | none =>
    have := List.find?_eq_none.mp e i (List.mem_range.mpr h)
    exact absurd (beq_self_eq_true _) this
  | some j =>
    have p1 := List.find?_some e
    have p2 := List.mem_range.mp (List.mem_of_find?_eq_some e)
    have p3 : sa j = sa i := eq_of_beq p1
    rw [hi j i p2 h p3]
theorem SA_0 (f1 : ∀ i j, i < 15 → j < 15 → sa i = sa j → i = j) (f2 : ∀ i, i < 15 → sa i ≠ sa 100) (f3 : ∀ i, i < 15 → sa i < n) (f4 : sa 100 < n) : SA (st_0 n sa) n := by
  refine ⟨fun i hi => ⟨?_, ?_, f3 i hi, fun j hj => ?_⟩, ?_, ?_, f4⟩
  · show (if sa i = sa 100 then 30 else if ((List.range 15).find? (fun j => sa j == sa i)).isSome then 31 else 0) = 31
    rw [if_neg (f2 i hi), find_sa f1 hi]
    rfl
  · show (if sa i = sa 100 then 0 else match (List.range 15).find? (fun j => sa j == sa i) with
      | some i => (st_tx i).length
      | none => 0) = (st_tx i).length
    rw [if_neg (f2 i hi), find_sa f1 hi]
  · show (match (List.range 15).find? (fun j => sa j == sa i) with
      | some i => nI ((st_tx i).getD j 0)
      | none => 0) = nI ((st_tx i).getD j 0)
    rw [find_sa f1 hi]
  · show (if sa 100 = sa 100 then 30 else _) = 30
    rw [if_pos rfl]
  · show (if sa 100 = sa 100 then 0 else _) = 0
    rw [if_pos rfl]
def A0 (s : Nat) : aT := (s, fun _ => 0, fun _ => 0, fun _ => 0, fun _ _ => 0, s, fun _ => 0, fun _ _ => 0)
theorem INV_0 {T4 T12 : st_T} (hsa : SA B x) (h4 : C0 B x T4) (h12 : R0 T4 (x + 24) T12) : INV (st_na T12 21 1) x (A0 (st_sa B 100)) M0 0 := by
  obtain ⟨c1, c2, ⟨c3, c4⟩, ⟨c5, c6⟩, c7, c8, c9, c10, c11, c12, c13, c14⟩ := h4
  have hr := RI_0 h12
  obtain ⟨r1, -, -, -, -, -, -, -, -, r10, r11, r12⟩ := h12
  have nx12 : st_nx T12 = x + 54 := r10
  have o1 : og T4 (st_na T12 21 1) (fun b => b < x + 24) := og_na r12 (by omega)
  have o2 : og T12 (st_na T12 21 1) (fun b => b < x + 54) := og_na og_rf (by omega)
  have s1 : st_sa (st_na T12 21 1) = st_sa T4 := r11
  have oB : og B (st_na T12 21 1) (fun b => b < x) := og_tr c14 (og_mono o1 (fun b hb => by omega))
  have sB : st_sa (st_na T12 21 1) = st_sa B := s1.trans c13
  have kS := oB (st_sa B 100) hsa.2.2.2
  have ls : ∀ l, l = 3 ∨ l = 4 → st_K T4 (x + l) = 1 → st_fr T4 1 (x + l) = some (st_sa B 100) → st_fi T4 2 (x + l) = nI 0 → LSt (st_na T12 21 1) (x + l) (st_sa B 100) 0 (fun _ => 0) := by
    intro l hl q1 q2 q3
    have g := o1 (x + l) (by omega)
    refine ⟨by rw [g.1]; exact q1, by rw [g.2.2.2.2.2.2]; exact q2, by rw [g.2.2.2.2.2.1]; exact q3, Or.inl ⟨rfl, by rw [sB], by rw [kS.1]; exact hsa.2.1, by rw [kS.2.1]; exact hsa.2.2.1⟩, fun i hi => absurd hi (Nat.not_lt_zero _)⟩
  refine ⟨?_, ⟨CS_og c1 o1 (fun i hi => by omega), SA_og hsa oB sB (fun a ha => ha), fun w _ => ?_, ls 3 (by omega) c1.2.2.2.1 c3 c4, fun i hi => absurd hi (Nat.not_lt_zero _), fun i hi => absurd hi (Nat.not_lt_zero _), ls 4 (by omega) c1.2.2.2.2.1 c5 c6, fun t ht => absurd ht (Nat.not_lt_zero _), ?_, fun j hj => absurd hj (Nat.not_lt_zero _), fun s hs => ?_, ?_, ?_, ?_, ?_⟩, wM_0, ?_, ?_⟩
  · have rs : RS (st_na T12 21 1) (x + 24) := by
      have hK : ∀ i, i < 30 → st_K (st_na T12 21 1) (x + 24 + i) = st_K T12 (x + 24 + i) := fun i hi => (o2 _ (by omega)).1
      have hL : ∀ i, i < 30 → st_ln (st_na T12 21 1) (x + 24 + i) = st_ln T12 (x + 24 + i) := fun i hi => (o2 _ (by omega)).2.1
      have hF : ∀ k, st_fr (st_na T12 21 1) k (x + 24) = st_fr T12 k (x + 24) := (o2 (x + 24) (by omega)).2.2.2.2.2.2
      have hK0 : st_K (st_na T12 21 1) (x + 24) = st_K T12 (x + 24) := hK 0 (by omega)
      unfold RS at r1 ⊢
      simp (disch := omega) only [hK0, hK, hL, hF]
      exact r1
    exact RI_ag hr rs (fun i hi => by
      have hi' : i < 30 := by
        simp only [List.mem_cons, List.not_mem_nil, or_false] at hi
        omega
      exact ⟨(o2 _ (by omega)).2.2.1, (o2 _ (by omega)).2.2.2.1⟩) (fun k _ => (o2 _ (by omega)).2.2.2.2.2.1 k)
  · rw [(o1 (x + 2) (by omega)).2.2.1]; exact c2 w
  · rw [(o1 (x + 10) (by omega)).2.2.2.2.2.1]; exact c7
  · rw [(o1 (x + 23) (by omega)).2.2.1]; exact c8 s hs
  · rw [(o1 x (by omega)).2.2.2.2.2.1]; exact c9
  · rw [(o1 x (by omega)).2.2.2.2.2.1]; exact c10
  · rw [(o1 (x + 5) (by omega)).2.2.2.2.2.1]; exact c11
  · have hs0 := hsa.2.2.2
    refine ⟨by rw [nx_na]; omega, fun i hi => absurd hi (Nat.not_lt_zero _), Or.inl hs0, Or.inl hs0, fun i j hi => absurd hi (Nat.not_lt_zero _), fun i j hi => absurd hi (Nat.not_lt_zero _), fun i j hi => absurd hi (Nat.not_lt_zero _), fun i hi => absurd hi (Nat.not_lt_zero _), fun _ => hs0, fun i k hi => absurd hi (Nat.not_lt_zero _), fun i k j l hi => absurd hi (Nat.not_lt_zero _), fun t ht => absurd ht (Nat.not_lt_zero _), fun t j ht => absurd ht (Nat.not_lt_zero _)⟩
  · rw [K_na, if_pos nx12.symm]
  · rw [ln_na, if_pos nx12.symm]
end ST0
