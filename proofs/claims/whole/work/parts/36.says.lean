/-! says, both -/
section
variable {μ μ' ν ν' : tw_M} {x y z u v A l x1 x5 x6 : Int32} {s k p h j t w n P H S N C T i a b m F : Nat} {o2 o3 o4 o6 o7 o8 o9 : Option tw_V}
theorem m_digits (d : ux_dg F n) (hb : b + 13 < 363) : ∀ (e : Nat) (ν : tw_M), e ≤ n → ∃ ν' q8 q9, tw_run 132 194 [some (tw_R 6 0), some (tw_I x1), o2, o3, o4, some (tw_I x5), some (tw_I x6), some (tw_I (nI b)), some (tw_I (nI (F / 10 ^ (n - e)))), some (tw_I (nI e + (-1)))] [] ν = tw_run 132 245 [some (tw_R 6 0), some (tw_I x1), o2, o3, o4, some (tw_I x5), some (tw_I x6), some (tw_I (nI b)), q8, q9] [] ν' ∧
    ux_fr (fun k _ j => k = 36 ∧ ((b + 5 ≤ j ∧ j < b + 5 + e) ∨ (b + 9 ≤ j ∧ j < b + 9 + e))) ν ν' ∧ ∀ i, i < e → tw_gi ν' 36 0 (b + 5 + i) = nI (F / 10 ^ (n - 1 - i) % 10) - 1 ∧ tw_gi ν' 36 0 (b + 9 + i) = -1 := by
  obtain ⟨d1, d2, d3, d4⟩ := d
  intro e
  induction e with
  | zero =>
    intro ν he
    exact ⟨ν, _, _, by rw [tb_132_194, if_pos (by decide)], ux_fr.rf, fun i hi => absurd hi (Nat.not_lt_zero _)⟩
  | succ e ih =>
    intro ν he
    obtain ⟨c, hc⟩ : ∃ c : Int32, c = nI (F / 10 ^ (n - (e + 1)) % 10) - 1 := ⟨_, rfl⟩
    have a5 : nI b + 5 + nI e = nI (b + 5 + e) := by
      show nI b + nI 5 + nI e = _
      rw [nI_add, nI_add]
    have a9 : nI b + 9 + nI e = nI (b + 9 + e) := by
      show nI b + nI 9 + nI e = _
      rw [nI_add, nI_add]
    obtain ⟨ν', q8, q9, h1, h2, h3⟩ := ih (tw_si (tw_si ν 36 0 (b + 5 + e) c) 36 0 (b + 9 + e) (-1)) (by omega)
    refine ⟨ν', q8, q9, ?_, ?_, fun i hi => ?_⟩
    · rw [pk_m1, tb_132_194, if_neg (nI_pos (by omega)), tb_132_199, a5, if_pos (show tw_in (nI (b + 5 + e)) (tw_al 36) from tn_in (show b + 5 + e < 363 by omega) (by decide)), nI_clamp (by omega), ux_mod10 d3, ← hc, tb_132_218, a9, if_pos (show tw_in (nI (b + 9 + e)) (tw_al 36) from tn_in (show b + 9 + e < 363 by omega) (by decide)), nI_clamp (by omega), tb_132_232, ux_div10 d3, show n - (e + 1) + 1 = n - e by omega]
      exact h1
    · refine ((ux_fr.rf.si ?_).si ?_).tr (h2.mo (fun k m j q => by omega))
      all_goals omega
    · by_cases z : i = e
      · subst z
        rw [h2.1 36 0 (b + 5 + i) (by omega), h2.1 36 0 (b + 9 + i) (by omega), tw_gi_ne (j' := b + 5 + i) (by omega), tw_gi_eq, tw_gi_eq, show n - 1 - i = n - (i + 1) by omega]
        exact ⟨hc, rfl⟩
      · exact h3 i (by omega)
theorem m_stood (hp : p < N) (hN : N ≤ 4) (hw : tw_gi μ 19 0 p = nI w) (b11 : 11 ≤ b) (hb : b + 13 < 363) : ∀ (d q : Nat) (ν : tw_M) (o8 : Option tw_V), q + d = N → tw_gi ν 6 0 17 = nI N → (∀ e, e < N → tw_gi ν 36 0 (3 + e) = tw_gi μ 19 0 e) → tw_gi ν 36 0 (b + 13) = tw_bb (ux_st μ w) q → ∃ ν' q8 q9,
    tw_run 132 259 [some (tw_R 6 0), some (tw_I (nI p)), o2, o3, o4, some (tw_I x5), some (tw_I x6), some (tw_I (nI b)), o8, some (tw_I (nI q))] [] ν = tw_run 132 315 [some (tw_R 6 0), some (tw_I (nI p)), o2, o3, o4, some (tw_I x5), some (tw_I x6), some (tw_I (nI b)), q8, q9] [] ν' ∧
    ux_fr (fun k _ j => k = 36 ∧ j = b + 13) ν ν' ∧ tw_gi ν' 36 0 (b + 13) = tw_bb (ux_st μ w) N := by
  have i3 : (3 : Int32) + nI p = nI (3 + p) := nI_add 3 p
  have i13 : nI b + 13 = nI (b + 13) := nI_add b 13
  have j3 : tw_in (nI (3 + p)) (tw_al 36) := tn_in (show 3 + p < 363 by omega) (by decide)
  have n3 : (nI (3 + p)).toNatClampNeg = 3 + p := nI_clamp (by omega)
  have j13 : tw_in (nI (b + 13)) (tw_al 36) := tn_in (show b + 13 < 363 by omega) (by decide)
  have n13 : (nI (b + 13)).toNatClampNeg = b + 13 := nI_clamp (by omega)
  intro d
  induction d with
  | zero =>
    intro q ν o8 hq f8 hs hv
    have : q = N := by omega
    subst this
    exact ⟨ν, _, _, by rw [tb_132_259, f8, if_pos (nI_le (Nat.le_refl _) (by omega))], ux_fr.rf, hv⟩
  | succ d ih =>
    intro q ν o8 hq f8 hs hv
    have qN : q < N := by omega
    have iq : (3 : Int32) + nI q = nI (3 + q) := nI_add 3 q
    have jq : tw_in (nI (3 + q)) (tw_al 36) := tn_in (show 3 + q < 363 by omega) (by decide)
    have nq : (nI (3 + q)).toNatClampNeg = 3 + q := nI_clamp (by omega)
    have hv2 : tw_gi (tw_si ν 36 0 (b + 13) (tw_bb (ux_st μ w) (q + 1))) 36 0 (b + 13) = tw_bb (ux_st μ w) (q + 1) := tw_gi_eq
    obtain ⟨ν', q8, q9, h1, h2, h3⟩ := ih (q + 1) (tw_si ν 36 0 (b + 13) (tw_bb (ux_st μ w) (q + 1))) (tw_k o8) (by omega) f8 (fun e he => by rw [tw_gi_ne (by omega)]; exact hs e he) hv2
    refine ⟨ν', q8, q9, ?_, (ux_fr.rf.si ⟨rfl, rfl⟩).tr h2, h3⟩
    rw [tw_bb] at h1
    rw [tb_132_259, f8, if_neg (nI_ge qN (by omega)), tb_132_268, i13, if_pos j13, n13, hv, tb_132_279, iq, if_pos jq, nq, hs q qN, tb_132_288, i3, if_pos j3, n3, hs p hp, hw, tb_132_296]
    by_cases z : tw_gi μ 19 0 q = nI w
    · rw [if_pos (show ux_st μ w q = true from decide_eq_true z)] at h1
      rw [if_pos z, tb_132_299, tb_132_307, if_pos j13, n13, tb_132_309, nI_1]
      exact h1
    · rw [if_neg (show ¬ ux_st μ w q = true from fun e => z (of_decide_eq_true e))] at h1
      rw [if_neg z, tb_132_306, tb_132_307, if_pos j13, n13, tb_132_309, nI_1]
      exact h1
theorem m_sayno : tw_run 132 38 [some (tw_R 6 0), some (tw_I x), some (tw_I y), some (tw_I z), o4, o6, o7, o8, o9, o2] [] ν = some (some (tw_I (-1)), ν) := by
  rw [tb_132_38, tb_132_39, tb_132_47]
  by_cases q : z ≤ 0
  · rw [if_pos q, tb_132_83, if_pos rfl, tb_132_88]
  · rw [if_neg q, tb_132_52, if_pos rfl, tb_132_83, if_pos rfl, tb_132_88]
theorem m_valid (f7 : tw_gi ν 6 0 16 = nI S) (hS : S ≤ 5) (d : ux_dg F n) : (ux_va S F n → tw_run 132 47 [some (tw_R 6 0), some (tw_I x), some (tw_I y), some (tw_I (nI F)), some (tw_I 1), some (tw_I (nI 0)), some (tw_I (nI F)), o7, o8, o9] [] ν = tw_run 132 83 [some (tw_R 6 0), some (tw_I x), some (tw_I y), some (tw_I (nI F)), some (tw_I 1), some (tw_I (nI n)), some (tw_I (nI 0)), o7, o8, o9] [] ν) ∧
    (¬ ux_va S F n → tw_run 132 47 [some (tw_R 6 0), some (tw_I x), some (tw_I y), some (tw_I (nI F)), some (tw_I 1), some (tw_I (nI 0)), some (tw_I (nI F)), o7, o8, o9] [] ν = some (some (tw_I (-1)), ν)) := by
  obtain ⟨d1, d2, d3, d4⟩ := d
  have loop : ∀ (e j : Nat), j + e = n → (∀ i, i < j → tw_in (nI (F / 10 ^ i % 10) - 1) S) → (ux_va S F n → tw_run 132 47 [some (tw_R 6 0), some (tw_I x), some (tw_I y), some (tw_I (nI F)), some (tw_I 1), some (tw_I (nI j)), some (tw_I (nI (F / 10 ^ j))), o7, o8, o9] [] ν = tw_run 132 83 [some (tw_R 6 0), some (tw_I x), some (tw_I y), some (tw_I (nI F)), some (tw_I 1), some (tw_I (nI n)), some (tw_I (nI 0)), o7, o8, o9] [] ν) ∧
      (¬ ux_va S F n → tw_run 132 47 [some (tw_R 6 0), some (tw_I x), some (tw_I y), some (tw_I (nI F)), some (tw_I 1), some (tw_I (nI j)), some (tw_I (nI (F / 10 ^ j))), o7, o8, o9] [] ν = some (some (tw_I (-1)), ν)) := by
    intro e
    induction e with
    | zero =>
      intro j hj hv
      have hj2 : j = n := by omega
      subst hj2
      have z : F / 10 ^ j = 0 := (d4 j d2).mpr (Nat.le_refl _)
      refine ⟨fun _ => ?_, fun q => absurd hv q⟩
      rw [tb_132_47, z, if_pos (by decide)]
    | succ e ih =>
      intro j hj hv
      have z : ¬ F / 10 ^ j = 0 := fun q => absurd ((d4 j (by omega)).mp q) (by omega)
      have le : F / 10 ^ j ≤ F := Nat.div_le_self _ _
      have zp : 0 < F / 10 ^ j := Nat.pos_of_ne_zero z
      have zl : F / 10 ^ j < 2 ^ 31 := Nat.lt_of_le_of_lt le (by omega)
      have n1 : ¬ (1 : Int32) = 0 := by decide
      by_cases q : tw_in (nI (F / 10 ^ j % 10) - 1) S
      · obtain ⟨t1, t2⟩ := ih (j + 1) (by omega) (fun i hi => by
          by_cases e : i = j
          · rw [e]; exact q
          · exact hv i (by omega))
        rw [tb_132_47, if_neg (nI_nle zp zl), tb_132_52, if_neg n1, tb_132_57, ux_mod10 d3, m_isSound f7 (by omega), tn_ib1 q]
        simp only [Option.bind_some, Option.toList_some, Option.toList_none, List.cons_append, List.nil_append, List.append_nil, tb_132_68]
        rw [ux_div10 d3, nI_1]
        exact ⟨t1, t2⟩
      · refine ⟨fun all => absurd (all j (by omega)) q, fun _ => ?_⟩
        rw [tb_132_47, if_neg (nI_nle zp zl), tb_132_52, if_neg n1, tb_132_57, ux_mod10 d3, m_isSound f7 (by omega), tw_ib_f q]
        simp only [Option.bind_some, Option.toList_some, Option.toList_none, List.cons_append, List.nil_append, List.append_nil, tb_132_68]
        rw [tb_132_47]
        by_cases q2 : nI (F / 10 ^ j) / 10 ≤ 0
        · rw [if_pos q2, tb_132_83, if_pos rfl, tb_132_88]
        · rw [if_neg q2, tb_132_52, if_pos rfl, tb_132_83, if_pos rfl, tb_132_88]
  have l0 := loop n 0 (by omega) (fun i hi => absurd hi (Nat.not_lt_zero _))
  rw [Nat.pow_zero, Nat.div_one] at l0
  exact l0
theorem tn_r9 : ∀ j, j < 9 → ¬ nI (j + 1) < 1 ∧ ¬ 9 < nI (j + 1) := by decide
theorem tn_rn {K : Nat} (hK : K < 2 ^ 30) (h : ¬ ∃ j, j < K ∧ v = nI (j + 1)) : v < 1 ∨ (¬ v < 1 ∧ nI K < v) := by
  by_cases h0 : v < 1
  · exact Or.inl h0
  · refine Or.inr ⟨h0, ?_⟩
    rw [tn_nlt]
    refine fun q => h ?_
    have h1 : ¬ v < 0 := by
      rw [Int32.lt_iff_toInt_lt] at h0 ⊢
      have : (1 : Int32).toInt = 1 := rfl
      have : (0 : Int32).toInt = 0 := rfl
      omega
    obtain ⟨j, hj, e⟩ := nI_of2 (M := nI K) (n := K) (nI_toInt (by omega)) h1 q
    rcases j with _ | j
    · rw [e] at h0
      exact absurd (show nI 0 < 1 by decide) h0
    · exact ⟨j, by omega, e⟩
theorem op_says (R0 : tw_Rl μ ν) : tw_Jn 59 132 [tw_I x, tw_I y, tw_I z] μ ν := by
  obtain ⟨P, H, S, N, C, h, T, R, Tt, Ei, Tr⟩ := id R0
  have R' := R.th
  obtain ⟨c1, c2, c3, c4, e5, e6, e7, e8, f5, f6, f7, f8⟩ := rn_c R'
  obtain ⟨g1, g2, g3, g4, g5, g6, g7⟩ := rn_0 R'
  have hP : P < 2 ^ 31 := by omega
  have hN : N < 2 ^ 31 := by omega
  have no : (tw_call 59 [tw_R 5 0, tw_I x, tw_I y, tw_I z] μ = some (some (tw_I (-1)), μ)) → (tw_call 132 [tw_R 6 0, tw_I x, tw_I y, tw_I z] ν = some (some (tw_I (-1)), tw_th ν)) → tw_Jn 59 132 [tw_I x, tw_I y, tw_I z] μ ν := fun a b => tw_J_of R0 a b
  by_cases hx : tw_in x N
  · have hxb := tw_ib_t hx
    by_cases hy : ∃ l, l < 9 ∧ y = nI (l + 1)
    · obtain ⟨l, hl, rfl⟩ := hy
      obtain ⟨y1, y2⟩ := tn_r9 l hl
      by_cases hz : ∃ F, F < 9999 ∧ z = nI (F + 1)
      · obtain ⟨F0, hF0, rfl⟩ := hz
        obtain ⟨F, hF⟩ : ∃ F, F = F0 + 1 := ⟨_, rfl⟩
        rw [← hF] at no ⊢
        have z1 : ¬ nI F < (1 : Int32) := nI_nlt (b := 1) (by omega) (by omega)
        have z2 : ¬ (9999 : Int32) < nI F := nI_nlt (a := 9999) (by omega) (by omega)
        obtain ⟨n, dg⟩ := ux_dg_of (F := F) (by omega) (by omega)
        obtain ⟨s1, s2⟩ := s_areSounds e7 c3 dg
        obtain ⟨m1, m2⟩ := m_valid (x := x) (y := nI (l + 1)) (o7 := none) (o8 := none) (o9 := none) f7 c3 dg
        have head : ∀ X, (tw_run 132 47 [some (tw_R 6 0), some (tw_I x), some (tw_I (nI (l + 1))), some (tw_I (nI F)), some (tw_I 1), some (tw_I (nI 0)), some (tw_I (nI F)), none, none, none] [] (tw_th ν) = X) → tw_call 132 [tw_R 6 0, tw_I x, tw_I (nI (l + 1)), tw_I (nI F)] ν = X := by
          rintro X rfl
          rw [te_132, tb_132_0, tw_thf, m_isPerson f8 hN]
          simp only [Option.bind_some, Option.toList_some, Option.toList_none, List.cons_append, List.nil_append, List.append_nil, tb_132_10]
          rw [if_neg hxb, tb_132_13, m_in0, if_neg y1, if_neg y2]
          simp only [Option.bind_some, Option.toList_some, Option.toList_none, List.cons_append, List.nil_append, List.append_nil, tb_132_20]
          rw [if_neg (by decide), tb_132_23, m_in0, if_neg z1, if_neg z2]
          simp only [Option.bind_some, Option.toList_some, Option.toList_none, List.cons_append, List.nil_append, List.append_nil, tb_132_31]
          rw [if_neg (by decide), tb_132_34, tb_132_39]
          rfl
        have headc : ∀ (X : Option (Option tw_V × tw_M)) (r : Int32), tw_call 52 [tw_R 5 0, tw_I (nI F)] μ = some (some (tw_I r), μ) → (if r = 0 then tw_run 59 30 [some (tw_R 5 0), some (tw_I x), some (tw_I (nI (l + 1))), some (tw_I (nI F))] [] μ else tw_run 59 32 [some (tw_R 5 0), some (tw_I x), some (tw_I (nI (l + 1))), some (tw_I (nI F))] [] μ) = X → tw_call 59 [tw_R 5 0, tw_I x, tw_I (nI (l + 1)), tw_I (nI F)] μ = X := by
          rintro X r hr rfl
          rw [te_59, tb_59_0, s_isPerson (c := 0) e8 hN]
          simp only [Option.bind_some, Option.toList_some, Option.toList_none, List.cons_append, List.nil_append, List.append_nil, tb_59_8]
          rw [if_neg hxb, tb_59_11, if_neg y1, tb_59_16, if_neg y2, tb_59_22, hr]
          simp only [Option.bind_some, Option.toList_some, Option.toList_none, List.cons_append, List.nil_append, List.append_nil, tb_59_27]
        by_cases hv : ux_va S F n
        · have m1' := m1 hv
          by_cases hC : C = 8
          · refine tw_J_of R0 (r := tw_I (-3)) (headc _ 1 (s1 hv) ?_) (head _ ?_)
            · rw [if_neg (by decide), tb_59_32, g3, hC, if_neg (by decide), tb_59_44]
            · rw [m1', tb_132_83, if_neg (by decide), tb_132_90, g7, hC, if_pos (by decide), tb_132_101]
          · have C8 : C < 8 := by omega
            obtain ⟨p, hp, rfl⟩ := tn_of_in hx hN
            obtain ⟨p4, q2, q3, q4, q5, q6, q7, q8⟩ := rn_p R' hp
            obtain ⟨w, hw, ew⟩ := q2
            have dg' := dg
            obtain ⟨d1, d2, d3, d4⟩ := dg'
            -- the class
            obtain ⟨B, hB⟩ : ∃ B, B = tw_bb (ux_st μ w) 4 := ⟨_, rfl⟩
            obtain ⟨μ2, hμ2⟩ : ∃ μ2, μ2 = tw_si (tw_si (tw_si (tw_si (tw_si (tw_si μ 3 0 3 (nI (C + 1))) 2 C 3 (nI p)) 2 C 4 (nI w)) 2 C 5 (nI h)) 2 C 6 (nI (l + 1))) 2 C 7 B := ⟨_, rfl⟩
            obtain ⟨μ3, a1, a2, a3, a4⟩ := s_setSounds (μ := μ2) (a := C) dg
            have fμ2 : ux_fr (fun k n j => (k = 3 ∧ n = 0 ∧ j = 3) ∨ ((k = 2 ∨ k = 17 ∨ k = 18) ∧ n = C)) μ μ2 := by
              rw [hμ2]
              refine ux_fr.si (ux_fr.si (ux_fr.si (ux_fr.si (ux_fr.si (ux_fr.si ux_fr.rf ?_) ?_) ?_) ?_) ?_) ?_
              all_goals omega
            have fμ3 := fμ2.tr (a2.mo (fun k n j q => by omega))
            -- the reference
            obtain ⟨b, hb⟩ : ∃ b, b = 11 + 14 * C := ⟨_, rfl⟩
            have ib : (11 : Int32) + 14 * nI C = nI b := by
              show nI 11 + nI 14 * nI C = _
              rw [pk_mul, nI_add, hb]
            have b0 : nI b + 0 = nI b := by simp
            have i3 : (3 : Int32) + nI p = nI (3 + p) := nI_add 3 p
            have i2 : nI b + 2 = nI (b + 2) := nI_add b 2
            have i3' : nI b + 3 = nI (b + 3) := nI_add b 3
            have i4 : nI b + 4 = nI (b + 4) := nI_add b 4
            have i13 : nI b + 13 = nI (b + 13) := nI_add b 13
            have inn : ∀ j, j ≤ b + 13 → tw_in (nI j) (tw_al 36) := fun j hj => tn_in (show j < 363 by omega) (by decide)
            have cln : ∀ j, j ≤ b + 13 → (nI j).toNatClampNeg = j := fun j hj => nI_clamp (by omega)
            obtain ⟨ν5, hν5⟩ : ∃ ν5, ν5 = tw_si (tw_si (tw_si (tw_si (tw_si (tw_th ν) 36 0 b (nI p)) 36 0 (b + 1) (nI w)) 36 0 (b + 2) (nI h)) 36 0 (b + 3) (nI (l + 1))) 36 0 (b + 4) (nI n) := ⟨_, rfl⟩
            have fν5 : ux_fr (fun k _ j => k = 36 ∧ (b ≤ j ∧ j ≤ b + 4)) (tw_th ν) ν5 := by
              rw [hν5]
              refine ux_fr.si (ux_fr.si (ux_fr.si (ux_fr.si (ux_fr.si ux_fr.rf ?_) ?_) ?_) ?_) ?_
              all_goals omega
            obtain ⟨ν6, t8, t9, l1, l2, l3⟩ := m_digits (b := b) (x1 := nI p) (x5 := nI n) (x6 := nI C) (o2 := some (tw_I (nI (l + 1)))) (o3 := some (tw_I (nI F))) (o4 := some (tw_I 1)) dg (by omega) n ν5 (Nat.le_refl _)
            obtain ⟨ν7, hν7⟩ : ∃ ν7, ν7 = tw_si ν6 36 0 (b + 13) 0 := ⟨_, rfl⟩
            have fν7 : ux_fr (fun k _ j => k = 36 ∧ (b ≤ j ∧ j ≤ b + 13)) (tw_th ν) ν7 := by
              rw [hν7]
              exact ux_fr.si ((fν5.mo (fun k _ j q => by omega)).tr (l2.mo (fun k _ j q => by omega))) ⟨rfl, by omega, by omega⟩
            obtain ⟨ν8, u8, u9, v1, v2, v3⟩ := m_stood (μ := μ) (p := p) (N := N) (w := w) (b := b) (x5 := nI n) (x6 := nI C) (o2 := some (tw_I (nI (l + 1)))) (o3 := some (tw_I (nI F))) (o4 := some (tw_I 1)) hp c4 ew (by omega) (by omega) N 0 ν7 (tw_k t8) (by omega) (by rw [fν7.1 6 0 17 (by omega)]; exact f8) (fun e he => by rw [fν7.1 36 0 (3 + e) (by omega)]; exact (rn_p R' he).2.2.2.2.2.1) (by rw [hν7, tw_gi_eq]; rfl)
            have e36 : tw_gi ν8 36 0 2 = nI C := by
              rw [v2.1 36 0 2 (by omega), fν7.1 36 0 2 (by omega)]
              exact g7
            obtain ⟨ν9, hν9⟩ : ∃ ν9, ν9 = tw_si ν8 36 0 2 (nI (C + 1)) := ⟨_, rfl⟩
            have fν9 : ux_fr (fun k _ j => k = 36 ∧ (j = 2 ∨ (11 + 14 * C ≤ j ∧ j < 25 + 14 * C))) (tw_th ν) ν9 := by
              rw [hν9]
              exact ux_fr.si ((fν7.mo (fun k _ j q => by omega)).tr (v2.mo (fun k _ j q => by omega))) ⟨rfl, Or.inl rfl⟩
            have back : ∀ j, b ≤ j → j ≤ b + 4 → tw_gi ν9 36 0 j = tw_gi ν5 36 0 j := by
              intro j j1 j2
              rw [hν9, tw_gi_ne (by omega), v2.1 36 0 j (by omega), hν7, tw_gi_ne (by omega), l2.1 36 0 j (by omega)]
            have hbb : tw_bb (ux_st μ w) 4 = tw_bb (ux_st μ w) N := tw_bb_m c4 (fun q n1 n2 e => by
              have st : tw_gi μ 19 0 q = -1 := R'.2.2.1.2.2.2.2.2.1 q n1 n2
              have e := of_decide_eq_true e
              rw [st] at e
              exact tn_neg1 w (by omega) e.symm)
            -- together
            have Rn3 : tw_Rn P H S N (C + 1) h μ3 ν9 := by
              have m2 : ∀ w, w ≠ 2 → tw_gi μ3 2 C w = tw_gi μ2 2 C w := fun w hw => a2.1 2 C w (by omega)
              refine ux_new (n := n) (p := p) (w := w) R' C8 fμ3 fν9 ?_ (by rw [hν9, tw_gi_eq]) hp ?_ ?_ hw ?_ ?_ ?_ ?_ ?_ (by omega) (by omega) a3 ?_ ?_ (fun j hj => ?_)
              · rw [a2.1 3 0 3 (by omega), hμ2, tw_gi_ne (by omega), tw_gi_ne (by omega), tw_gi_ne (by omega), tw_gi_ne (by omega), tw_gi_ne (by omega), tw_gi_eq]
              · rw [m2 3 (by omega), hμ2, tw_gi_ne (by omega), tw_gi_ne (by omega), tw_gi_ne (by omega), tw_gi_ne (by omega), tw_gi_eq]
              · rw [← hb, back b (by omega) (by omega), hν5, tw_gi_ne (by omega), tw_gi_ne (by omega), tw_gi_ne (by omega), tw_gi_ne (by omega), tw_gi_eq]
              · rw [m2 4 (by omega), hμ2, tw_gi_ne (by omega), tw_gi_ne (by omega), tw_gi_ne (by omega), tw_gi_eq]
              · rw [← hb, back (b + 1) (by omega) (by omega), hν5, tw_gi_ne (by omega), tw_gi_ne (by omega), tw_gi_ne (by omega), tw_gi_eq]
              · rw [m2 5 (by omega), hμ2, tw_gi_ne (by omega), tw_gi_ne (by omega), tw_gi_eq]
              · rw [← hb, back (b + 2) (by omega) (by omega), hν5, tw_gi_ne (by omega), tw_gi_ne (by omega), tw_gi_eq]
              · rw [← hb, back (b + 3) (by omega) (by omega), hν5, tw_gi_ne (by omega), tw_gi_eq, m2 6 (by omega), hμ2, tw_gi_ne (by omega), tw_gi_eq]
              · rw [← hb, back (b + 4) (by omega) (by omega), hν5, tw_gi_eq]
              · rw [← hb, hν9, tw_gi_ne (by omega), v3, m2 7 (by omega), hμ2, tw_gi_eq, hB, hbb]
              · obtain ⟨k1, k2⟩ := a4 j hj
                obtain ⟨k3, k4⟩ := l3 j hj
                obtain ⟨k5, k6⟩ := hv.of c3 (show n - 1 - j < n by omega)
                rw [← hb, hν9, tw_gi_ne (j' := b + 5 + j) (by omega), tw_gi_ne (j' := b + 9 + j) (by omega), v2.1 36 0 (b + 5 + j) (by omega), v2.1 36 0 (b + 9 + j) (by omega), hν7, tw_gi_ne (j' := b + 5 + j) (by omega), tw_gi_ne (j' := b + 9 + j) (by omega), k1, k2, k3, k4]
                exact ⟨⟨_, k6, k5⟩, rfl, rfl, rfl⟩
            have gi24 : tw_gi μ3 2 C 4 = nI w := by
              rw [a2.1 2 C 4 (by omega), hμ2, tw_gi_ne (by omega), tw_gi_ne (by omega), tw_gi_ne (by omega), tw_gi_eq]
            have hpl : tw_pl μ3 C = w := by
              unfold tw_pl
              rw [gi24, nI_clamp (by omega)]
            have hln : tw_ln μ3 C = n := by
              unfold tw_ln
              rw [a3, nI_clamp (by omega)]
            obtain ⟨μ4, ν4, c, h1, h2, h3, h4, h5⟩ := ux_saythaw (C := C + 1) (k := C) (p := p) (n := n) (w := w) (A := tw_ai μ3 H w h) (o2 := some (tw_I (nI (l + 1)))) (o3 := some (tw_I (nI F))) (o4 := some (tw_I 1)) (o7 := some (tw_I (nI b))) (by omega) hp n 0 μ3 ν9 (by omega) hln Rn3 rfl hpl (by rw [fμ3.1 19 0 p (by omega)]; exact ew) (fun j j1 j2 => (a4 j j2).2)
            have h1' := h1 0 none
            rw [Nat.zero_add] at h1'
            refine ⟨tw_I (nI C), μ4, ν4, headc _ 1 (s1 hv) ?_, head _ ?_, ux_rest R'.1 R'.2.1 Tt.th Ei.th Tr ((fμ3.mo (fun k n j q => by unfold ux_now ux_s; omega)).tr (ux_hn h4)) ((fν9.mo (fun k n j q => q.1)).tr h5) h3.2.2.1 h3.2.2.2⟩
            · have es := s_sayingAt_t (μ := tw_si μ 3 0 3 (nI (C + 1))) (i := 0) (C := C + 1) (k := C) tw_gi_eq (by omega) (by omega)
              rw [Nat.mul_zero, Nat.zero_add] at es
              obtain ⟨r1, r2, r3, r4, r5, r6, r7, r8, -⟩ := rn_c Rn3
              obtain ⟨w1, w2, w3, w4, -⟩ := rn_0 Rn3
              rw [if_neg (by decide), tb_59_32, g3, if_pos (show nI C < (8 : Int32) from nI_lt (b := 8) C8 (by omega)), tb_59_47, te_58, tb_58_0, g3, nI_1, es]
              simp only [Option.bind_some, Option.toList_some, Option.toList_none, List.cons_append, List.nil_append, List.append_nil, tb_58_22, tb_58_32]
              rw [s_at (k := 19) rfl, tw_rd_p (k := 19) (n := 0) 4 rfl p4, tw_gi_ne (k' := 19) (by omega), tw_gi_ne (k' := 19) (by omega), ew]
              simp only [Option.bind_some, Option.toList_some, Option.toList_none, List.cons_append, List.nil_append, List.append_nil, tb_58_48]
              rw [tw_gi_ne (k' := 3) (j' := 4) (by omega), tw_gi_ne (k' := 3) (j' := 4) (by omega), tw_gi_ne (k' := 3) (j' := 4) (by omega), g4, tw_gi_ne (k' := 2) (j' := 4) (by omega), tw_gi_ne (k' := 2) (j' := 4) (by omega), tw_gi_eq, s_standers, show tw_bb (ux_st (tw_si (tw_si (tw_si (tw_si (tw_si μ 3 0 3 (nI (C + 1))) 2 C 3 (nI p)) 2 C 4 (nI w)) 2 C 5 (nI h)) 2 C 6 (nI (l + 1))) w) 4 = B from hB.symm]
              simp only [Option.bind_some, Option.toList_some, Option.toList_none, List.cons_append, List.nil_append, List.append_nil, tb_58_77]
              rw [← hμ2, a1]
              simp only [Option.bind_some, Option.toList_some, Option.toList_none, List.cons_append, List.nil_append, List.append_nil, tb_58_87]
              rw [gi24, w4, s_airIn r6 r2 (show h < 2 ^ 30 by omega) (show w < 4 by omega)]
              simp only [Option.bind_some, Option.toList_some, Option.toList_none, List.cons_append, List.nil_append, List.append_nil, tb_58_107]
              rw [te_57, tb_57_0]
              rw [show tw_run 57 6 [some (tw_R 3 0), some (tw_R 0 0), some (tw_I (nI C)), some (tw_R 2 C), some (tw_I (tw_ai μ3 H w h)), some (tw_I 0), some (tw_I 0), none] [] μ3 = _ from h1']
              simp only [Option.bind_some, Option.toList_some, Option.toList_none, List.cons_append, List.nil_append, List.append_nil, tb_58_110, tb_59_61]
            · have sb : nI n - 1 = nI n + (-1) := Int32.sub_eq_add_neg _ _
              rw [Nat.sub_self, Nat.pow_zero, Nat.div_one] at l1
              rw [m1', tb_132_83, if_neg (by decide), tb_132_90, g7, if_neg (show ¬ nI C = (8 : Int32) from fun q => hC ((nI_eq (b := 8) (by omega) (by omega)).mp q)), tb_132_104, g7, ib, b0, if_pos (inn b (by omega)), cln b (by omega), tb_132_132, i3, if_pos (inn (3 + p) (by omega)), cln (3 + p) (by omega), tw_gi_ne (j' := 3 + p) (by omega), q6, ew, nI_1, tb_132_148, if_pos (inn (b + 1) (by omega)), cln (b + 1) (by omega), tb_132_149, i2, if_pos (inn (b + 2) (by omega)), cln (b + 2) (by omega), tw_gi_ne (j' := 0) (by omega), tw_gi_ne (j' := 0) (by omega), g5, tb_132_164, i3', if_pos (inn (b + 3) (by omega)), cln (b + 3) (by omega), tb_132_174, i4, if_pos (inn (b + 4) (by omega)), cln (b + 4) (by omega), ← hν5, tb_132_185, sb, l1, tb_132_245, i13, if_pos (inn (b + 13) (by omega)), cln (b + 13) (by omega), ← hν7, tb_132_256, show (0 : Int32) = nI 0 from rfl, v1, tb_132_315, e36, nI_1, ← hν9]
              exact h2 _
        · refine no (headc _ 0 (s2 hv) ?_) (head _ (m2 hv))
          rw [if_pos rfl, tb_59_30]
      · refine no ?_ ?_
        · have er : tw_call 52 [tw_R 5 0, tw_I z] μ = some (some (tw_I 0), μ) := by
            rcases tn_rn (K := 9999) (by omega) hz with q | ⟨q1, q2⟩
            · rw [te_52, tb_52_0, if_pos q, tb_52_12, tn_bo0]
            · rw [te_52, tb_52_0, if_neg q1, tb_52_5, if_neg (show ¬ z ≤ (9999 : Int32) from fun e => (tn_l1 e) q2), tb_52_12, tn_bo0]
          rw [te_59, tb_59_0, s_isPerson (c := 0) e8 hN]
          simp only [Option.bind_some, Option.toList_some, Option.toList_none, List.cons_append, List.nil_append, List.append_nil, tb_59_8]
          rw [if_neg hxb, tb_59_11, if_neg y1, tb_59_16, if_neg y2, tb_59_22, er]
          simp only [Option.bind_some, Option.toList_some, Option.toList_none, List.cons_append, List.nil_append, List.append_nil, tb_59_27]
          rw [if_pos trivial, tb_59_30]
        · rw [te_132, tb_132_0, tw_thf, m_isPerson f8 hN]
          simp only [Option.bind_some, Option.toList_some, Option.toList_none, List.cons_append, List.nil_append, List.append_nil, tb_132_10]
          rw [if_neg hxb, tb_132_13, m_in0, if_neg y1, if_neg y2]
          simp only [Option.bind_some, Option.toList_some, Option.toList_none, List.cons_append, List.nil_append, List.append_nil, tb_132_20]
          rw [if_neg (by decide), tb_132_23, m_in0]
          have e : (if z < 1 then (0 : Int32) else if 9999 < z then 0 else 1) = 0 := by
            rcases tn_rn (K := 9999) (by omega) hz with w | ⟨w1, w2⟩
            · rw [if_pos w]
            · rw [if_neg w1, if_pos (show (9999 : Int32) < z from w2)]
          rw [e]
          simp only [Option.bind_some, Option.toList_some, Option.toList_none, List.cons_append, List.nil_append, List.append_nil, tb_132_31]
          rw [if_pos trivial]
          exact m_sayno
    · refine no ?_ ?_
      · rw [te_59, tb_59_0, s_isPerson (c := 0) e8 hN]
        simp only [Option.bind_some, Option.toList_some, Option.toList_none, List.cons_append, List.nil_append, List.append_nil, tb_59_8]
        rw [if_neg hxb, tb_59_11]
        rcases tn_rn (K := 9) (by omega) hy with q | ⟨q1, q2⟩
        · rw [if_pos q, tb_59_30]
        · rw [if_neg q1, tb_59_16, if_pos (show (9 : Int32) < y from q2), tb_59_30]
      · rw [te_132, tb_132_0, tw_thf, m_isPerson f8 hN]
        simp only [Option.bind_some, Option.toList_some, Option.toList_none, List.cons_append, List.nil_append, List.append_nil, tb_132_10]
        rw [if_neg hxb, tb_132_13, m_in0]
        have e : (if y < 1 then (0 : Int32) else if 9 < y then 0 else 1) = 0 := by
          rcases tn_rn (K := 9) (by omega) hy with w | ⟨w1, w2⟩
          · rw [if_pos w]
          · rw [if_neg w1, if_pos (show (9 : Int32) < y from w2)]
        rw [e]
        simp only [Option.bind_some, Option.toList_some, Option.toList_none, List.cons_append, List.nil_append, List.append_nil, tb_132_20]
        rw [if_pos trivial]
        exact m_sayno
  · refine no ?_ ?_
    · rw [te_59, tb_59_0, s_isPerson (c := 0) e8 hN]
      simp only [Option.bind_some, Option.toList_some, Option.toList_none, List.cons_append, List.nil_append, List.append_nil, tb_59_8]
      rw [if_pos (tw_ib_f hx), tb_59_30]
    · rw [te_132, tb_132_0, tw_thf, m_isPerson f8 hN]
      simp only [Option.bind_some, Option.toList_some, Option.toList_none, List.cons_append, List.nil_append, List.append_nil, tb_132_10]
      rw [if_pos (tw_ib_f hx)]
      exact m_sayno
end
