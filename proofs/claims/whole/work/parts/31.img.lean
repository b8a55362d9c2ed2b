/-! keep, back -/
section
variable {μ μ' ν ν' : tw_M} {x y z u v : Int32} {s k p h j t w n P H S N C T i a b m : Nat}
theorem s_sayBecome (hne : a ≠ b) : ∃ μ', tw_call 95 [tw_R 2 b, tw_R 2 a] μ = some (none, μ') ∧ ux_fr (fun k n _ => (k = 2 ∨ k = 17 ∨ k = 18) ∧ n = b) μ μ' ∧ (∀ w, 2 ≤ w → w ≤ 7 → tw_gi μ' 2 b w = tw_gi μ 2 a w) ∧ ∀ j, j < 4 → tw_gi μ' 17 b j = tw_gi μ 17 a j ∧ tw_gi μ' 18 b j = tw_gi μ 18 a j := by
  have hne' : ¬ b = a := fun q => hne q.symm
  have n17 : ((17, a) : Nat × Nat) ≠ (17, b) := fun q => hne (congrArg Prod.snd q)
  have n18 : ((18, a) : Nat × Nat) ≠ (18, b) := fun q => hne (congrArg Prod.snd q)
  rw [te_95, tb_95_0, s_copy (k := 17) (k' := 17) (N := 4) rfl rfl rfl rfl n17]
  simp only [Option.bind_some, Option.toList_some, Option.toList_none, List.cons_append, List.nil_append, List.append_nil, tb_95_11]
  rw [s_copy (k := 18) (k' := 18) (N := 4) rfl rfl rfl rfl n18]
  simp only [Option.bind_some, Option.toList_some, Option.toList_none, List.cons_append, List.nil_append, List.append_nil, tb_95_22]
  refine ⟨_, rfl, ?_, fun w w1 w2 => ?_, fun j hj => ?_⟩
  · refine ux_fr.si (ux_fr.si (ux_fr.si (ux_fr.si (ux_fr.si (ux_fr.si (ux_fr.cp (ux_fr.cp ux_fr.rf (fun j _ => ?_)) (fun j _ => ?_)) ?_) ?_) ?_) ?_) ?_) ?_
    all_goals omega
  · have : w = 2 ∨ w = 3 ∨ w = 4 ∨ w = 5 ∨ w = 6 ∨ w = 7 := by omega
    rcases this with rfl | rfl | rfl | rfl | rfl | rfl <;> simp [tw_gi_si, tw_gi_cp, hne, hne']
  · constructor <;> simp [tw_gi_si, tw_gi_cp, hne, hne', hj]
theorem s_earBecome (hne : a ≠ b) : ∃ μ', tw_call 96 [tw_R 1 b, tw_R 1 a] μ = some (none, μ') ∧ ux_fr (fun k n _ => (k = 1 ∨ k = 15 ∨ k = 16) ∧ n = b) μ μ' ∧ tw_gi μ' 1 b 2 = tw_gi μ 1 a 2 ∧ ∀ j, j < 60 → tw_gi μ' 15 b j = tw_gi μ 15 a j ∧ tw_gi μ' 16 b j = tw_gi μ 16 a j := by
  have hne' : ¬ b = a := fun q => hne q.symm
  have n17 : ((15, a) : Nat × Nat) ≠ (15, b) := fun q => hne (congrArg Prod.snd q)
  have n18 : ((16, a) : Nat × Nat) ≠ (16, b) := fun q => hne (congrArg Prod.snd q)
  rw [te_96, tb_96_0, s_copy (k := 15) (k' := 15) (N := 60) rfl rfl rfl rfl n17]
  simp only [Option.bind_some, Option.toList_some, Option.toList_none, List.cons_append, List.nil_append, List.append_nil, tb_96_11]
  rw [s_copy (k := 16) (k' := 16) (N := 60) rfl rfl rfl rfl n18]
  simp only [Option.bind_some, Option.toList_some, Option.toList_none, List.cons_append, List.nil_append, List.append_nil, tb_96_22]
  refine ⟨_, rfl, ?_, ?_, fun j hj => ?_⟩
  · refine ux_fr.si (ux_fr.cp (ux_fr.cp ux_fr.rf (fun j _ => ?_)) (fun j _ => ?_)) ?_
    all_goals omega
  · simp [tw_gi_si, tw_gi_cp, hne, hne']
  · constructor <;> simp [tw_gi_si, tw_gi_cp, hne, hne', hj]
theorem s_become (hne : a ≠ b) (e3 : tw_gi μ 3 a 3 = nI C) (hC : C ≤ 8) : ∃ μ', tw_call 97 [tw_R 3 b, tw_R 3 a] μ = some (none, μ') ∧ ux_fr (fun k n j => ux_s b k n ∧ ¬ (k = 3 ∧ j = 6)) μ μ' ∧ ux_eq a b C μ μ' := by
  have l1 : ∀ (d k : Nat) (μ : tw_M) (o3 o4 : Option tw_V), k + d = 8 → tw_gi μ 3 a 3 = nI C → ∃ μ' q3 q4, tw_run 97 37 [some (tw_R 3 b), some (tw_R 3 a), some (tw_I (nI k)), o3, o4] [] μ = tw_run 97 81 [some (tw_R 3 b), some (tw_R 3 a), some (tw_I (nI 8)), q3, q4] [] μ' ∧ ux_fr (fun k' n _ => (k' = 2 ∨ k' = 17 ∨ k' = 18) ∧ 8 * b + k ≤ n ∧ n < 8 * b + 8) μ μ' ∧ ∀ k', k ≤ k' → k' < C → (∀ w, 2 ≤ w → w ≤ 7 → tw_gi μ' 2 (8 * b + k') w = tw_gi μ 2 (8 * a + k') w) ∧ ∀ j, j < 4 → tw_gi μ' 17 (8 * b + k') j = tw_gi μ 17 (8 * a + k') j ∧ tw_gi μ' 18 (8 * b + k') j = tw_gi μ 18 (8 * a + k') j := by
    intro d
    induction d with
    | zero =>
      intro k μ o3 o4 hk e3
      have hk2 : k = 8 := by omega
      subst hk2
      exact ⟨μ, o3, o4, by rw [tb_97_37, if_pos (show (8 : Int32) ≤ nI 8 by decide)], ux_fr.rf, fun k' h1 h2 => absurd h1 (by omega)⟩
    | succ d ih =>
      intro k μ o3 o4 hk e3
      have k8 : k < 8 := by omega
      have e1 : ¬ (8 : Int32) ≤ nI k := nI_ge (b := 8) k8 (by omega)
      have e2 : tw_in (nI k) 8 := tn_in k8 (by omega)
      have e4 : (nI k).toNatClampNeg = k := nI_clamp (by omega)
      by_cases z : k < C
      · obtain ⟨μ1, a1, a2, a3, a4⟩ := s_sayBecome (μ := μ) (a := 8 * a + k) (b := 8 * b + k) (by omega)
        obtain ⟨μ2, q3, q4, b1, b2, b3⟩ := ih (k + 1) μ1 (some (tw_R 2 (8 * b + k))) (some (tw_R 2 (8 * a + k))) (by omega) (by rw [a2.1 3 a 3 (by omega)]; exact e3)
        refine ⟨μ2, q3, q4, ?_, (a2.mo (fun k' n _ q => by omega)).tr (b2.mo (fun k' n _ q => by omega)), fun k' h1 h2 => ?_⟩
        · rw [tb_97_37, if_neg e1, tb_97_46, if_pos e2, e4, tb_97_52, s_sayingAt_t e3 hC z]
          simp only [Option.bind_some, Option.toList_some, Option.toList_none, List.cons_append, List.nil_append, List.append_nil, tb_97_58, tb_97_64, tb_97_69, a1, tb_97_75, nI_1]
          exact b1
        · by_cases z2 : k' = k
          · subst z2
            refine ⟨fun w w1 w2 => ?_, fun j hj => ⟨?_, ?_⟩⟩
            · rw [b2.1 _ _ _ (by omega)]; exact a3 w w1 w2
            · rw [b2.1 _ _ _ (by omega)]; exact (a4 j hj).1
            · rw [b2.1 _ _ _ (by omega)]; exact (a4 j hj).2
          · obtain ⟨c1, c2⟩ := b3 k' (by omega) h2
            refine ⟨fun w w1 w2 => ?_, fun j hj => ⟨?_, ?_⟩⟩
            · rw [c1 w w1 w2]; exact a2.1 _ _ _ (by omega)
            · rw [(c2 j hj).1]; exact a2.1 _ _ _ (by omega)
            · rw [(c2 j hj).2]; exact a2.1 _ _ _ (by omega)
      · obtain ⟨μ2, q3, q4, b1, b2, b3⟩ := ih (k + 1) μ (some (tw_R 2 (8 * b + k))) (some tw_N) (by omega) e3
        refine ⟨μ2, q3, q4, ?_, b2.mo (fun k' n _ q => by omega), fun k' h1 h2 => b3 k' (by omega) h2⟩
        rw [tb_97_37, if_neg e1, tb_97_46, if_pos e2, e4, tb_97_52, s_sayingAt_f e3 hC (fun q => (tn_in_lt (by omega) q).2 (nI_le (by omega) (by omega)))]
        simp only [Option.bind_some, Option.toList_some, Option.toList_none, List.cons_append, List.nil_append, List.append_nil, tb_97_58a, tb_97_64a, tb_97_75, nI_1]
        exact b1
  have l2 : ∀ (d k : Nat) (μ : tw_M) (o3 o4 : Option tw_V), k + d = 4 → ∃ μ', tw_run 97 83 [some (tw_R 3 b), some (tw_R 3 a), some (tw_I (nI k)), o3, o4] [] μ = some (none, μ') ∧ ux_fr (fun k' n _ => (k' = 1 ∨ k' = 15 ∨ k' = 16) ∧ 4 * b + k ≤ n ∧ n < 4 * b + 4) μ μ' ∧ ∀ k', k ≤ k' → k' < 4 → tw_gi μ' 1 (4 * b + k') 2 = tw_gi μ 1 (4 * a + k') 2 ∧ ∀ j, j < 60 → tw_gi μ' 15 (4 * b + k') j = tw_gi μ 15 (4 * a + k') j ∧ tw_gi μ' 16 (4 * b + k') j = tw_gi μ 16 (4 * a + k') j := by
    intro d
    induction d with
    | zero =>
      intro k μ o3 o4 hk
      have hk2 : k = 4 := by omega
      subst hk2
      exact ⟨μ, by rw [tb_97_83, if_pos (show (4 : Int32) ≤ nI 4 by decide), tb_97_127], ux_fr.rf, fun k' h1 h2 => absurd h1 (by omega)⟩
    | succ d ih =>
      intro k μ o3 o4 hk
      have k8 : k < 4 := by omega
      have e1 : ¬ (4 : Int32) ≤ nI k := nI_ge (b := 4) k8 (by omega)
      have e2 : tw_in (nI k) 4 := tn_in k8 (by omega)
      have e4 : (nI k).toNatClampNeg = k := nI_clamp (by omega)
      obtain ⟨μ1, a1, a2, a3, a4⟩ := s_earBecome (μ := μ) (a := 4 * a + k) (b := 4 * b + k) (by omega)
      obtain ⟨μ2, b1, b2, b3⟩ := ih (k + 1) μ1 (some (tw_R 1 (4 * b + k))) (some (tw_R 1 (4 * a + k))) (by omega)
      refine ⟨μ2, ?_, (a2.mo (fun k' n _ q => by omega)).tr (b2.mo (fun k' n _ q => by omega)), fun k' h1 h2 => ?_⟩
      · rw [tb_97_83, if_neg e1, tb_97_92, if_pos e2, e4, tb_97_98, s_earAt k8]
        simp only [Option.bind_some, Option.toList_some, Option.toList_none, List.cons_append, List.nil_append, List.append_nil, tb_97_104, tb_97_110, tb_97_115, a1, tb_97_121, nI_1]
        exact b1
      · by_cases z2 : k' = k
        · subst z2
          refine ⟨?_, fun j hj => ⟨?_, ?_⟩⟩
          · rw [b2.1 _ _ _ (by omega)]; exact a3
          · rw [b2.1 _ _ _ (by omega)]; exact (a4 j hj).1
          · rw [b2.1 _ _ _ (by omega)]; exact (a4 j hj).2
        · obtain ⟨c1, c2⟩ := b3 k' (by omega) h2
          refine ⟨?_, fun j hj => ⟨?_, ?_⟩⟩
          · rw [c1]; exact a2.1 _ _ _ (by omega)
          · rw [(c2 j hj).1]; exact a2.1 _ _ _ (by omega)
          · rw [(c2 j hj).2]; exact a2.1 _ _ _ (by omega)
  have hne' : ¬ b = a := fun q => hne q.symm
  have n19 : ((19, a) : Nat × Nat) ≠ (19, b) := fun q => hne (congrArg Prod.snd q)
  obtain ⟨ν, hν⟩ : ∃ ν, ν = tw_si (tw_si (tw_si μ 3 b 4 (tw_gi μ 3 a 4)) 3 b 5 (tw_gi (tw_si μ 3 b 4 (tw_gi μ 3 a 4)) 3 a 5)) 3 b 3 (tw_gi (tw_si (tw_si μ 3 b 4 (tw_gi μ 3 a 4)) 3 b 5 (tw_gi (tw_si μ 3 b 4 (tw_gi μ 3 a 4)) 3 a 5)) 3 a 3) := ⟨_, rfl⟩
  have fν : ux_fr (fun k n j => k = 3 ∧ n = b ∧ 3 ≤ j ∧ j ≤ 5) μ ν := by
    rw [hν]
    refine ux_fr.si (ux_fr.si (ux_fr.si ux_fr.rf ?_) ?_) ?_
    all_goals omega
  have vν : ∀ w, 3 ≤ w → w ≤ 5 → tw_gi ν 3 b w = tw_gi μ 3 a w := by
    intro w w1 w2
    have : w = 3 ∨ w = 4 ∨ w = 5 := by omega
    rw [hν]
    rcases this with rfl | rfl | rfl <;> simp [tw_gi_si, hne, hne']
  obtain ⟨ν1, hν1⟩ : ∃ ν1, ν1 = tw_cp ν 19 a 19 b 4 := ⟨_, rfl⟩
  have f1 : ux_fr (fun k n j => k = 19 ∧ n = b) ν ν1 := by
    rw [hν1]
    exact ux_fr.cp ux_fr.rf (fun j _ => ⟨rfl, rfl⟩)
  obtain ⟨μ1, q3, q4, a1, a2, a3⟩ := l1 8 0 ν1 none none rfl (by rw [f1.1 3 a 3 (by omega), fν.1 3 a 3 (by omega)]; exact e3)
  obtain ⟨μ2, b1, b2, b3⟩ := l2 4 0 μ1 q3 q4 rfl
  refine ⟨μ2, ?_, ?_, ?_⟩
  · rw [te_97, tb_97_0, ← hν, s_copy (k := 19) (k' := 19) (N := 4) rfl rfl rfl rfl n19, ← hν1]
    simp only [Option.bind_some, Option.toList_some, Option.toList_none, List.cons_append, List.nil_append, List.append_nil, tb_97_35]
    rw [show (0 : Int32) = nI 0 from rfl, a1, tb_97_81]
    exact b1
  · refine (fν.mo ?_).tr ((f1.mo ?_).tr ((a2.mo ?_).tr (b2.mo ?_)))
    all_goals
      intro k n j q
      unfold ux_s
      omega
  · refine ⟨fun w w1 w2 => ?_, fun p hp => ?_, fun k hk => ?_⟩
    · rw [b2.1 _ _ _ (by omega), a2.1 _ _ _ (by omega), f1.1 _ _ _ (by omega)]
      exact vν w w1 w2
    · obtain ⟨c1, c2⟩ := b3 p (Nat.zero_le _) hp
      refine ⟨?_, ?_, fun j hj => ⟨?_, ?_⟩⟩
      · rw [b2.1 _ _ _ (by omega), a2.1 _ _ _ (by omega), hν1, tw_gi_cp, if_pos ⟨rfl, rfl, hp⟩]
        exact fν.1 _ _ _ (by omega)
      · rw [c1, a2.1 _ _ _ (by omega), f1.1 _ _ _ (by omega), fν.1 _ _ _ (by omega)]
      · rw [(c2 j hj).1, a2.1 _ _ _ (by omega), f1.1 _ _ _ (by omega), fν.1 _ _ _ (by omega)]
      · rw [(c2 j hj).2, a2.1 _ _ _ (by omega), f1.1 _ _ _ (by omega), fν.1 _ _ _ (by omega)]
    · obtain ⟨c1, c2⟩ := a3 k (Nat.zero_le _) hk
      refine ⟨fun w w1 w2 => ?_, fun j hj => ⟨?_, ?_⟩⟩
      · rw [b2.1 _ _ _ (by omega), c1 w w1 w2, f1.1 _ _ _ (by omega), fν.1 _ _ _ (by omega)]
      · rw [b2.1 _ _ _ (by omega), (c2 j hj).1, f1.1 _ _ _ (by omega), fν.1 _ _ _ (by omega)]
      · rw [b2.1 _ _ _ (by omega), (c2 j hj).2, f1.1 _ _ _ (by omega), fν.1 _ _ _ (by omega)]
theorem s_imageOf_t (hm : m < 2) : tw_call 94 [tw_R 5 0, tw_I (nI m)] μ = some (some (tw_R 3 (m + 1)), μ) := by
  have : m = 0 ∨ m = 1 := by omega
  rcases this with rfl | rfl
  · rw [te_94, tb_94_0, if_pos (show nI 0 = (0 : Int32) from rfl), tb_94_28]
  · rw [te_94, tb_94_0, if_neg (show ¬ nI 1 = (0 : Int32) by decide), if_pos (show nI 1 = (1 : Int32) from rfl), tb_94_33]
theorem s_imageOf_f (hx : ¬ tw_in x 2) : tw_call 94 [tw_R 5 0, tw_I x] μ = some (some tw_N, μ) := by
  have n0 : ¬ x = 0 := tn_not4 (n := 2) (by omega) hx (j := 0) (by omega)
  have n1 : ¬ x = 1 := tn_not4 (n := 2) (by omega) hx (j := 1) (by omega)
  rw [te_94, tb_94_0, if_neg n0, if_neg n1, tb_94_38]
theorem op_keep (R0 : tw_Rl μ ν) : tw_Jn 98 155 [tw_I x] μ ν := by
  obtain ⟨P, H, S, N, C, h, T, R, Tt, Ei, Tr⟩ := id R0
  have R' := R.th
  obtain ⟨g1, g2, g3, g4, g5, g6, g7⟩ := rn_0 R'
  by_cases hx : tw_in x 2
  · have hxb := tw_ib_t hx
    obtain ⟨m, hm, rfl⟩ := tn_of_in hx (by omega)
    obtain ⟨μ1, a1, a2, a3⟩ := s_become (μ := μ) (a := 0) (b := m + 1) (by omega) g3 g1
    have l : ∀ (d k : Nat) (ν : tw_M), k + d = 363 → ∃ ν', tw_run 155 18 [some (tw_R 6 0), some (tw_I (nI m)), some (tw_I (nI k))] [] ν = tw_run 155 49 [some (tw_R 6 0), some (tw_I (nI m)), some (tw_I (nI 363))] [] ν' ∧ ux_fr (fun k' _ j => k' = 37 ∧ 363 * m ≤ j ∧ j < 363 * m + 363) ν ν' ∧ ∀ j, j < 363 → tw_gi ν' 37 0 (363 * m + j) = if j < k then tw_gi ν 37 0 (363 * m + j) else tw_gi ν 36 0 j := by
      intro d
      induction d with
      | zero =>
        intro k ν hk
        have hk2 : k = 363 := by omega
        subst hk2
        exact ⟨ν, by rw [tb_155_18, if_pos (show (363 : Int32) ≤ nI 363 by decide)], ux_fr.rf, fun j hj => by rw [if_pos hj]⟩
      | succ d ih =>
        intro k ν hk
        have ia : (363 : Int32) * nI m + nI k = nI (363 * m + k) := by
          rw [show (363 : Int32) * nI m = nI (363 * m) from pk_mul 363 m, nI_add]
        obtain ⟨ν', h1, h2, h3⟩ := ih (k + 1) (tw_si ν 37 0 (363 * m + k) (tw_gi ν 36 0 k)) (by omega)
        refine ⟨ν', ?_, (ux_fr.rf.si (by omega)).tr h2, fun j hj => ?_⟩
        · rw [tb_155_18, if_neg (show ¬ (363 : Int32) ≤ nI k from nI_ge (b := 363) (by omega) (by omega)), tb_155_25, if_pos (show tw_in (nI k) (tw_al 36) from tn_in (show k < 363 by omega) (by decide)), nI_clamp (by omega), ia, tb_155_42, if_pos (show tw_in (nI (363 * m + k)) (tw_al 37) from tn_in (show 363 * m + k < 726 by omega) (by decide)), nI_clamp (by omega), tb_155_43, nI_1]
          exact h1
        · rw [h3 j hj, tw_gi_ne (k' := 36) (by omega)]
          by_cases z : j = k
          · subst z
            rw [if_pos (by omega), if_neg (by omega), tw_gi_eq]
          · rw [tw_gi_ne (by omega)]
            by_cases z2 : j < k
            · rw [if_pos (by omega), if_pos z2]
            · rw [if_neg (by omega), if_neg z2]
    obtain ⟨ν1, b1, b2, b3⟩ := l 363 0 (tw_th ν) rfl
    have fμ : ux_fr (fun k n _ => ux_s (m + 1) k n) μ (tw_si μ1 3 (m + 1) 6 1) := by
      refine ux_fr.si (a2.mo (fun k n j q => q.1)) ?_
      unfold ux_s
      omega
    have fν : ux_fr (fun k _ j => (k = 37 ∧ 363 * m ≤ j ∧ j < 363 * m + 363) ∨ (k = 38 ∧ j = m)) (tw_th ν) (tw_si ν1 38 0 m 1) := ux_fr.si (b2.mo (fun k n j q => Or.inl q)) (Or.inr ⟨rfl, rfl⟩)
    refine ⟨tw_I (nI h), tw_si μ1 3 (m + 1) 6 1, tw_si ν1 38 0 m 1, ?_, ?_, ?_⟩
    · rw [te_98, tb_98_0, s_imageOf_t hm]
      simp only [Option.bind_some, Option.toList_some, Option.toList_none, List.cons_append, List.nil_append, List.append_nil, tb_98_5, tb_98_12, a1, tb_98_20]
      rw [tw_gi_ne (by omega), a2.1 3 0 4 (by unfold ux_s; omega), g4]
    · rw [te_155, tb_155_0, tw_thf, m_in_1]
      simp only [Option.bind_some, Option.toList_some, Option.toList_none, List.cons_append, List.nil_append, List.append_nil, tb_155_11]
      rw [if_neg hxb, tb_155_16, show (0 : Int32) = nI 0 from rfl, b1, tb_155_49, if_pos ⟨Or.inr rfl, hx⟩, nI_clamp (by omega), tb_155_56, tw_gi_ne (by omega), b2.1 36 0 0 (by omega), g5]
    · refine ⟨P, H, S, N, C, h, T, R'.fr (fun k n j q => fμ.1 k n j ?_) (fun k j q => fν.1 k 0 j ?_), Tt.th.fr (fun k j q => fμ.1 k 0 j ?_) (fun k j q => fν.1 k 0 j ?_), ?_, ?_⟩
      · unfold ux_s ux_c at q; unfold ux_s; omega
      · omega
      · unfold ux_s; omega
      · omega
      · intro m' hm'
        by_cases z : m' = m
        · subst z
          rw [tw_gi_eq, tw_gi_eq]
          refine ⟨rfl, Or.inr ⟨rfl, C, h, ?_⟩⟩
          have e : ux_eq 0 (m' + 1) C μ (tw_si μ1 3 (m' + 1) 6 1) := by
            obtain ⟨q1, q2, q3⟩ := a3
            refine ⟨fun w w1 w2 => ?_, fun p hp => ?_, fun k hk => ?_⟩
            · rw [tw_gi_ne (by omega)]; exact q1 w w1 w2
            · rw [ux_ne (k' := 19) (by decide), ux_ne (k' := 1) (by decide), ux_ne (k' := 15) (by decide), ux_ne (k' := 16) (by decide)]; exact q2 p hp
            · rw [ux_ne (k' := 2) (by decide), ux_ne (k' := 17) (by decide), ux_ne (k' := 18) (by decide)]; exact q3 k hk
          have hN := R'.1.2.2.2.1
          refine ⟨R'.2.2.1.tf hN e, R'.2.2.2.tf R'.2.2.1 hN e (fun j hj => ?_)⟩
          show tw_gi (tw_si ν1 38 0 m' 1) 37 0 (363 * m' + j) = tw_gi (tw_th ν) 36 0 j
          rw [tw_gi_ne (by omega), b3 j hj, if_neg (by omega)]
        · obtain ⟨h1, h2⟩ := Ei.th m' hm'
          have e6 : tw_gi (tw_si μ1 3 (m + 1) 6 1) 3 (m' + 1) 6 = tw_gi μ 3 (m' + 1) 6 := fμ.1 _ _ _ (by unfold ux_s; omega)
          rw [e6, fν.1 38 0 m' (by omega)]
          refine ⟨h1, ?_⟩
          rcases h2 with h2 | ⟨h2, C2, hh, h3, h4⟩
          · exact Or.inl h2
          · have hN := R'.1.2.2.2.1
            have e := ux_eq.of (μ := μ) (μ' := tw_si μ1 3 (m + 1) 6 1) (i := m' + 1) h3.1 (fun k n j q => fμ.1 k n j (by unfold ux_s at q ⊢; omega))
            exact Or.inr ⟨h2, C2, hh, h3.tf hN e, h4.tf h3 hN e (fun j hj => fν.1 37 0 (363 * m' + j) (by omega))⟩
      · rw [fμ.2, fν.2]; exact Tr
  · refine tw_J_of R0 (r := tw_I (-1)) ?_ ?_
    · simp only [te_98, tb_98_0, tb_98_5, tb_98_5a, tb_98_12, tb_98_10, tb_98_20, s_imageOf_f hx, Option.bind_some, Option.toList_some, Option.toList_none, List.cons_append, List.nil_append, List.append_nil]
    · simp only [tb_155_0, tb_155_11, tb_155_14, te_155, tw_thf, m_in_1, if_pos (tw_ib_f hx), Option.bind_some, Option.toList_some, Option.toList_none, List.cons_append, List.nil_append, List.append_nil]
theorem op_back (R0 : tw_Rl μ ν) : tw_Jn 99 156 [tw_I x] μ ν := by
  obtain ⟨P, H, S, N, C, h, T, R, Tt, Ei, Tr⟩ := id R0
  have R' := R.th
  by_cases hx : tw_in x 2
  · have hxb := tw_ib_t hx
    obtain ⟨m, hm, rfl⟩ := tn_of_in hx (by omega)
    obtain ⟨h1, h2⟩ := Ei.th m hm
    rcases h2 with h2 | ⟨h2, C2, hh, h3, h4⟩
    · refine tw_J_of R0 (r := tw_I (-2)) ?_ ?_
      · simp only [te_99, tb_99_0, tb_99_5, tb_99_5a, tb_99_12, tb_99_10, tb_99_22, tb_99_19, tb_99_30, s_imageOf_t hm, h2, Option.bind_some, Option.toList_some, Option.toList_none, List.cons_append, List.nil_append, List.append_nil, if_pos]
      · rw [te_156, tb_156_0, tw_thf, m_in_1]
        simp only [Option.bind_some, Option.toList_some, Option.toList_none, List.cons_append, List.nil_append, List.append_nil, tb_156_11]
        rw [if_neg hxb, tb_156_16, if_pos hx, nI_clamp (by omega), h1, h2, tb_156_22, if_pos rfl, tb_156_25]
    · obtain ⟨μ1, a1, a2, a3⟩ := s_become (μ := μ) (a := m + 1) (b := 0) (by omega) h3.2.2.1 h3.1
      have l : ∀ (d k : Nat) (ν : tw_M), k + d = 363 → ∃ ν', tw_run 156 30 [some (tw_R 6 0), some (tw_I (nI m)), some (tw_I (nI k))] [] ν = tw_run 156 61 [some (tw_R 6 0), some (tw_I (nI m)), some (tw_I (nI 363))] [] ν' ∧ ux_fr ux_m36 ν ν' ∧ ∀ j, j < 363 → tw_gi ν' 36 0 j = if j < k then tw_gi ν 36 0 j else tw_gi ν 37 0 (363 * m + j) := by
        intro d
        induction d with
        | zero =>
          intro k ν hk
          have hk2 : k = 363 := by omega
          subst hk2
          exact ⟨ν, by rw [tb_156_30, if_pos (show (363 : Int32) ≤ nI 363 by decide)], ux_fr.rf, fun j hj => by rw [if_pos hj]⟩
        | succ d ih =>
          intro k ν hk
          have ia : (363 : Int32) * nI m + nI k = nI (363 * m + k) := by
            rw [show (363 : Int32) * nI m = nI (363 * m) from pk_mul 363 m, nI_add]
          obtain ⟨ν', h1, h2, h3⟩ := ih (k + 1) (tw_si ν 36 0 k (tw_gi ν 37 0 (363 * m + k))) (by omega)
          refine ⟨ν', ?_, (ux_fr.rf.si rfl).tr h2, fun j hj => ?_⟩
          · rw [tb_156_30, if_neg (show ¬ (363 : Int32) ≤ nI k from nI_ge (b := 363) (by omega) (by omega)), tb_156_37, ia, if_pos (show tw_in (nI (363 * m + k)) (tw_al 37) from tn_in (show 363 * m + k < 726 by omega) (by decide)), nI_clamp (by omega), tb_156_54, if_pos (show tw_in (nI k) (tw_al 36) from tn_in (show k < 363 by omega) (by decide)), nI_clamp (by omega), tb_156_55, nI_1]
            exact h1
          · rw [h3 j hj, tw_gi_ne (k' := 37) (by omega)]
            by_cases z : j = k
            · subst z
              rw [if_pos (by omega), if_neg (by omega), tw_gi_eq]
            · rw [tw_gi_ne (by omega)]
              by_cases z2 : j < k
              · rw [if_pos (by omega), if_pos z2]
              · rw [if_neg (by omega), if_neg z2]
      obtain ⟨ν1, b1, b2, b3⟩ := l 363 0 (tw_th ν) rfl
      have hN := R'.1.2.2.2.1
      have hI := h3.tf hN a3
      have hE := h4.tf h3 hN a3 (f' := tw_f0 ν1) (fun j hj => by
        show tw_gi ν1 36 0 j = tw_gi (tw_th ν) 37 0 (363 * m + j)
        rw [b3 j hj, if_neg (by omega)])
      refine ⟨tw_I (nI hh), μ1, ν1, ?_, ?_, ux_rest R'.1 R'.2.1 Tt.th Ei.th Tr (a2.mo (fun k n j q => q.1)) b2 hI hE⟩
      · rw [te_99, tb_99_0, s_imageOf_t hm]
        simp only [Option.bind_some, Option.toList_some, Option.toList_none, List.cons_append, List.nil_append, List.append_nil, tb_99_5, tb_99_12]
        rw [h2, if_neg (by decide), tb_99_22, a1]
        simp only [Option.bind_some, Option.toList_some, Option.toList_none, List.cons_append, List.nil_append, List.append_nil, tb_99_30]
        rw [hI.2.2.2.1]
      · rw [te_156, tb_156_0, tw_thf, m_in_1]
        simp only [Option.bind_some, Option.toList_some, Option.toList_none, List.cons_append, List.nil_append, List.append_nil, tb_156_11]
        rw [if_neg hxb, tb_156_16, if_pos hx, nI_clamp (by omega), h1, h2, tb_156_22, if_neg (by decide), tb_156_28, show (0 : Int32) = nI 0 from rfl, b1, tb_156_61]
        have e0 : tw_gi ν1 36 0 0 = tw_gi μ1 3 0 4 := hE.1
        rw [e0, hI.2.2.2.1]
  · refine tw_J_of R0 (r := tw_I (-1)) ?_ ?_
    · simp only [te_99, tb_99_0, tb_99_5, tb_99_5a, tb_99_12, tb_99_10, tb_99_22, tb_99_19, tb_99_30, s_imageOf_f hx, Option.bind_some, Option.toList_some, Option.toList_none, List.cons_append, List.nil_append, List.append_nil]
    · simp only [tb_156_0, tb_156_11, tb_156_14, te_156, tw_thf, m_in_1, if_pos (tw_ib_f hx), Option.bind_some, Option.toList_some, Option.toList_none, List.cons_append, List.nil_append, List.append_nil]
end
