/-! cape -/
section
variable {b : Nat → Int32} {lo hi : Int32} {μ μ' ν ν' μ2 ν2 ν3 : tw_M} {x y z u v A l code sg : Int32} {s k p h j t w n P H S N C T i a m F e d E e0 : Nat} {cls : Option (Option tw_V × tw_M)}
theorem s_capeBecome : ∃ μ', tw_call 30 [tw_R 0 0, tw_R 0 1] μ = some (none, μ') ∧ ux_fr (fun k n _ => ux_c k n) μ μ' ∧ (∀ w, 5 ≤ w → w ≤ 8 → tw_gi μ' 0 0 w = tw_gi μ 0 1 w) ∧ (∀ j, j < 4 → tw_gi μ' 10 0 j = tw_gi μ 10 1 j ∧ tw_gi μ' 13 0 j = tw_gi μ 13 1 j ∧ tw_gi μ' 14 0 j = tw_gi μ 14 1 j) ∧ (∀ j, j < 24 → tw_gi μ' 11 0 j = tw_gi μ 11 1 j) ∧ (∀ j, j < 5 → tw_gi μ' 12 0 j = tw_gi μ 12 1 j) := by
  rw [te_30, tb_30_0, s_copy (k := 10) (k' := 10) (N := 4) rfl rfl rfl rfl (by decide)]
  simp only [Option.bind_some, Option.toList_some, Option.toList_none, List.cons_append, List.nil_append, List.append_nil, tb_30_11]
  rw [s_copy (k := 11) (k' := 11) (N := 24) rfl rfl rfl rfl (by decide)]
  simp only [Option.bind_some, Option.toList_some, Option.toList_none, List.cons_append, List.nil_append, List.append_nil, tb_30_22]
  rw [s_copy (k := 12) (k' := 12) (N := 5) rfl rfl rfl rfl (by decide)]
  simp only [Option.bind_some, Option.toList_some, Option.toList_none, List.cons_append, List.nil_append, List.append_nil, tb_30_33]
  rw [s_copy (k := 13) (k' := 13) (N := 4) rfl rfl rfl rfl (by decide)]
  simp only [Option.bind_some, Option.toList_some, Option.toList_none, List.cons_append, List.nil_append, List.append_nil, tb_30_44]
  rw [s_copy (k := 14) (k' := 14) (N := 4) rfl rfl rfl rfl (by decide)]
  simp only [Option.bind_some, Option.toList_some, Option.toList_none, List.cons_append, List.nil_append, List.append_nil, tb_30_55]
  refine ⟨_, rfl, ?_, fun w w1 w2 => ?_, fun j hj => ⟨?_, ?_, ?_⟩, fun j hj => ?_, fun j hj => ?_⟩
  · refine ux_fr.si (ux_fr.si (ux_fr.si (ux_fr.si (ux_fr.cp (ux_fr.cp (ux_fr.cp (ux_fr.cp (ux_fr.cp ux_fr.rf (fun j _ => ?_)) (fun j _ => ?_)) (fun j _ => ?_)) (fun j _ => ?_)) (fun j _ => ?_)) ?_) ?_) ?_) ?_
    all_goals
      unfold ux_c
      omega
  · have : w = 5 ∨ w = 6 ∨ w = 7 ∨ w = 8 := by omega
    rcases this with rfl | rfl | rfl | rfl <;> simp [tw_gi_si, tw_gi_cp]
  · simp [tw_gi_si, tw_gi_cp, hj]
  · simp [tw_gi_si, tw_gi_cp, hj]
  · simp [tw_gi_si, tw_gi_cp, hj]
  · simp [tw_gi_si, tw_gi_cp, hj]
  · simp [tw_gi_si, tw_gi_cp, hj]
theorem m_copy24 {o1 : Option tw_V} : ∀ (d k : Nat) (ν : tw_M), k + d = 24 → ∃ ν', tw_run 116 169 [some (tw_R 6 0), some (tw_I x), some (tw_I (nI k))] [] ν = tw_run 116 196 [some (tw_R 6 0), some (tw_I x), some (tw_I (nI 24))] [] ν' ∧ ux_fr (fun k' _ j => k' = 32 ∧ k ≤ j ∧ j < 24) ν ν' ∧ ∀ j, k ≤ j → j < 24 → tw_gi ν' 32 0 j = tw_gi ν 32 0 (24 + j) := by
  intro d
  induction d with
  | zero =>
    intro k ν hk
    have : k = 24 := by omega
    subst this
    exact ⟨ν, by rw [tb_116_169, if_pos (by decide)], ux_fr.rf, fun j h1 h2 => absurd h1 (by omega)⟩
  | succ d ih =>
    intro k ν hk
    have ix : (24 : Int32) + nI k = nI (24 + k) := nI_add 24 k
    obtain ⟨ν', h1, h2, h3⟩ := ih (k + 1) (tw_si ν 32 0 k (tw_gi ν 32 0 (24 + k))) (by omega)
    refine ⟨ν', ?_, (ux_fr.rf.si (by omega)).tr (h2.mo (fun k' n j q => by omega)), fun j j1 j2 => ?_⟩
    · rw [tb_116_169, if_neg (show ¬ (24 : Int32) ≤ nI k from nI_ge (b := 24) (by omega) (by omega)), tb_116_175, ix, if_pos (show tw_in (nI (24 + k)) (tw_al 32) from tn_in (show 24 + k < 48 by omega) (by decide)), nI_clamp (by omega), tb_116_189, if_pos (show tw_in (nI k) (tw_al 32) from tn_in (show k < 48 by omega) (by decide)), nI_clamp (by omega), tb_116_190, nI_1]
      exact h1
    · by_cases z : j = k
      · subst z
        rw [h2.1 _ _ _ (by omega), tw_gi_eq]
      · rw [h3 j (by omega) j2, tw_gi_ne (by omega)]
theorem m_copy5 {o1 : Option tw_V} : ∀ (d k : Nat) (ν : tw_M), k + d = 5 → ∃ ν', tw_run 116 198 [some (tw_R 6 0), some (tw_I x), some (tw_I (nI k))] [] ν = tw_run 116 223 [some (tw_R 6 0), some (tw_I x), some (tw_I (nI 5))] [] ν' ∧ ux_fr (fun k' _ j => k' = 33 ∧ k ≤ j ∧ j < 5) ν ν' ∧ ∀ j, k ≤ j → j < 5 → tw_gi ν' 33 0 j = tw_gi ν 33 0 (5 + j) := by
  intro d
  induction d with
  | zero =>
    intro k ν hk
    have : k = 5 := by omega
    subst this
    exact ⟨ν, by rw [tb_116_198, if_pos (by decide)], ux_fr.rf, fun j h1 h2 => absurd h1 (by omega)⟩
  | succ d ih =>
    intro k ν hk
    have ix : (5 : Int32) + nI k = nI (5 + k) := nI_add 5 k
    obtain ⟨ν', h1, h2, h3⟩ := ih (k + 1) (tw_si ν 33 0 k (tw_gi ν 33 0 (5 + k))) (by omega)
    refine ⟨ν', ?_, (ux_fr.rf.si (by omega)).tr (h2.mo (fun k' n j q => by omega)), fun j j1 j2 => ?_⟩
    · rw [tb_116_198, if_neg (show ¬ (5 : Int32) ≤ nI k from nI_ge (b := 5) (by omega) (by omega)), tb_116_203, ix, if_pos (show tw_in (nI (5 + k)) (tw_al 33) from tn_in (show 5 + k < 10 by omega) (by decide)), nI_clamp (by omega), tb_116_216, if_pos (show tw_in (nI k) (tw_al 33) from tn_in (show k < 10 by omega) (by decide)), nI_clamp (by omega), tb_116_217, nI_1]
      exact h1
    · by_cases z : j = k
      · subst z
        rw [h2.1 _ _ _ (by omega), tw_gi_eq]
      · rw [h3 j (by omega) j2, tw_gi_ne (by omega)]
theorem m_copy4 {o1 : Option tw_V} : ∀ (d k : Nat) (ν : tw_M), k + d = 4 → ∃ ν', tw_run 116 225 [some (tw_R 6 0), some (tw_I x), some (tw_I (nI k))] [] ν = tw_run 116 278 [some (tw_R 6 0), some (tw_I x), some (tw_I (nI 4))] [] ν' ∧ ux_fr (fun k' _ j => (k' = 31 ∨ k' = 34 ∨ k' = 35) ∧ k ≤ j ∧ j < 4) ν ν' ∧ ∀ j, k ≤ j → j < 4 → tw_gi ν' 31 0 j = tw_gi ν 31 0 (4 + j) ∧ tw_gi ν' 34 0 j = tw_gi ν 34 0 (4 + j) ∧ tw_gi ν' 35 0 j = tw_gi ν 35 0 (4 + j) := by
  intro d
  induction d with
  | zero =>
    intro k ν hk
    have : k = 4 := by omega
    subst this
    exact ⟨ν, by rw [tb_116_225, if_pos (by decide)], ux_fr.rf, fun j h1 h2 => absurd h1 (by omega)⟩
  | succ d ih =>
    intro k ν hk
    have ix : (4 : Int32) + nI k = nI (4 + k) := nI_add 4 k
    have j4 : ∀ a, tw_al a = 8 → tw_in (nI (4 + k)) (tw_al a) := fun a ha => by rw [ha]; exact tn_in (by omega) (by omega)
    have j0 : ∀ a, tw_al a = 8 → tw_in (nI k) (tw_al a) := fun a ha => by rw [ha]; exact tn_in (by omega) (by omega)
    have c4 : (nI (4 + k)).toNatClampNeg = 4 + k := nI_clamp (by omega)
    have c0 : (nI k).toNatClampNeg = k := nI_clamp (by omega)
    obtain ⟨ν1, hν1⟩ : ∃ ν1, ν1 = tw_si (tw_si (tw_si ν 31 0 k (tw_gi ν 31 0 (4 + k))) 34 0 k (tw_gi ν 34 0 (4 + k))) 35 0 k (tw_gi ν 35 0 (4 + k)) := ⟨_, rfl⟩
    obtain ⟨ν', h1, h2, h3⟩ := ih (k + 1) ν1 (by omega)
    have f1 : ux_fr (fun k' _ j => (k' = 31 ∨ k' = 34 ∨ k' = 35) ∧ k ≤ j ∧ j < 4) ν ν1 := by
      rw [hν1]
      refine ux_fr.si (ux_fr.si (ux_fr.si ux_fr.rf ?_) ?_) ?_
      all_goals omega
    refine ⟨ν', ?_, f1.tr (h2.mo (fun k' n j q => by omega)), fun j j1 j2 => ?_⟩
    · rw [tb_116_225, if_neg (show ¬ (4 : Int32) ≤ nI k from nI_ge (b := 4) (by omega) (by omega)), tb_116_230, ix, if_pos (j4 31 rfl), c4, tb_116_243, if_pos (j0 31 rfl), c0, tb_116_244, ix, if_pos (j4 34 rfl), c4, tw_gi_ne (k' := 34) (by omega), tb_116_257, if_pos (j0 34 rfl), c0, tb_116_258, ix, if_pos (j4 35 rfl), c4, tw_gi_ne (k' := 35) (by omega), tw_gi_ne (k' := 35) (by omega), tb_116_271, if_pos (j0 35 rfl), c0, tb_116_272, nI_1, ← hν1]
      exact h1
    · by_cases z : j = k
      · subst z
        rw [h2.1 31 _ _ (by omega), h2.1 34 _ _ (by omega), h2.1 35 _ _ (by omega), hν1, tw_gi_ne (k' := 31) (by omega), tw_gi_ne (k' := 31) (by omega), tw_gi_eq, tw_gi_ne (k' := 34) (by omega), tw_gi_eq, tw_gi_eq]
        exact ⟨rfl, rfl, rfl⟩
      · obtain ⟨q1, q2, q3⟩ := h3 j (by omega) j2
        rw [q1, q2, q3, f1.1 31 _ _ (by omega), f1.1 34 _ _ (by omega), f1.1 35 _ _ (by omega)]
        exact ⟨rfl, rfl, rfl⟩
/-- the cape's relation, if only what lies behind it changed -/
theorem tw_Ec.fr2 (R : tw_Ec P H S N μ ν) (hP : P ≤ 4) (hH : H ≤ 24) (hS : S ≤ 5) (hN : N ≤ 4) (f : ∀ k n j, ux_c k n → tw_gi μ' k n j = tw_gi μ k n j) (g : ∀ k j, ((k = 6 ∧ 14 ≤ j ∧ j ≤ 17) ∨ ((k = 31 ∨ k = 34 ∨ k = 35) ∧ j < 4) ∨ (k = 32 ∧ j < 24) ∨ (k = 33 ∧ j < 5)) → tw_gi ν' k 0 j = tw_gi ν k 0 j) : tw_Ec P H S N μ' ν' := by
  obtain ⟨h1, h2, h3, h4, h5, h6, h7, h8⟩ := R
  refine ⟨by rw [g 6 14 (by omega)]; exact h1, by rw [g 6 15 (by omega)]; exact h2, by rw [g 6 16 (by omega)]; exact h3, by rw [g 6 17 (by omega)]; exact h4, fun j hj => ?_, fun j hj => ?_, fun j hj => ?_, fun j hj => ?_⟩
  · rw [g 31 j (by omega), f 10 0 j (by unfold ux_c; omega)]; exact h5 j hj
  · rw [g 32 j (by omega), f 11 0 j (by unfold ux_c; omega)]; exact h6 j hj
  · rw [g 33 j (by omega), f 12 0 j (by unfold ux_c; omega)]; exact h7 j hj
  · rw [g 34 j (by omega), g 35 j (by omega), f 13 0 j (by unfold ux_c; omega), f 14 0 j (by unfold ux_c; omega)]; exact h8 j hj
theorem tw_Et.fr2 (R : tw_Et T μ ν) (f1 : tw_gi μ' 4 0 1 = tw_gi μ 4 0 1) (f2 : ∀ j, tw_gi μ' 20 0 j = tw_gi μ 20 0 j) (g : ∀ k j, ((k = 6 ∧ j = 3) ∨ k = 30) → tw_gi ν' k 0 j = tw_gi ν k 0 j) : tw_Et T μ' ν' := by
  have f3 : tw_gi μ' 20 0 = tw_gi μ 20 0 := funext f2
  have g1 : tw_gi ν' 30 0 = tw_gi ν 30 0 := funext (fun j => g 30 j (by omega))
  unfold tw_Et at R ⊢
  rw [f3, g1, f1, g 6 3 (by omega)]
  exact R
theorem tn_m10 {f : Nat} (hf : f ≤ 300) : ¬ 0 ≤ (-10 : Int32) - nI f := by
  rw [Int32.le_iff_toInt_le]
  have e : ((-10 : Int32) - nI f).toInt = -10 - (f : Int) := by
    have := tn_is (a := (-10 : Int32)) (b := nI f) (by decide) (by decide) (by rw [nI_toInt (by omega)]; omega) (by rw [nI_toInt (by omega)]; omega)
    rw [this, nI_toInt (by omega)]
    rfl
  rw [e]
  have : (0 : Int32).toInt = 0 := rfl
  omega
theorem op_cape (R0 : tw_Rl μ ν) : tw_Jn 33 116 [] μ ν := by
  obtain ⟨P, H, S, N, C, h, T, R, Tt, Ei, Tr⟩ := id R0
  have hT := Tt.1
  obtain ⟨b, hb⟩ : ∃ b : Nat → Int32, b = fun j => tw_gi μ 20 0 j := ⟨_, rfl⟩
  have c0 : ux_ct b T μ := ⟨Tt.1, Tt.2.1, fun j _ => by rw [hb]⟩
  have m0 : ux_mt b T (tw_th ν) := ⟨Tt.1, Tt.th.2.2.1, fun j hj => by rw [hb]; exact ⟨(Tt.th.2.2.2 j hj).2, (Tt.2.2.2 j hj).1⟩⟩
  -- where they begin
  obtain ⟨μ1, hμ1⟩ : ∃ μ1, μ1 = tw_si (tw_si (tw_si (tw_si (tw_si μ 0 1 5 0) 0 1 6 0) 0 1 7 0) 0 1 8 0) 4 0 3 0 := ⟨_, rfl⟩
  have fμ1 : ux_fr ux_pc μ μ1 := by
    rw [hμ1]
    refine ux_fr.si (ux_fr.si (ux_fr.si (ux_fr.si (ux_fr.si ux_fr.rf ?_) ?_) ?_) ?_) ?_
    all_goals
      unfold ux_pc ux_pt ux_pd
      omega
  obtain ⟨ν1, hν1⟩ : ∃ ν1, ν1 = tw_si (tw_si (tw_si (tw_si (tw_si (tw_si (tw_th ν) 6 0 8 (-1)) 6 0 4 0) 6 0 18 0) 6 0 19 0) 6 0 20 0) 6 0 21 0 := ⟨_, rfl⟩
  have fν1 : ux_fr ux_pm (tw_th ν) ν1 := by
    rw [hν1]
    refine ux_fr.si (ux_fr.si (ux_fr.si (ux_fr.si (ux_fr.si (ux_fr.si ux_fr.rf ?_) ?_) ?_) ?_) ?_) ?_
    all_goals
      unfold ux_pm ux_qt ux_qd
      omega
  have c1 : ux_ct b T μ1 := c0.fr (fμ1.1 4 0 1 (by unfold ux_pc ux_pt ux_pd; omega)) (fun j => fμ1.1 20 0 j (by unfold ux_pc ux_pt ux_pd; omega))
  have m1 : ux_mt b T ν1 := m0.fr (fν1.1 6 0 3 (by unfold ux_pm ux_qt ux_qd; omega)) (fun j => fν1.1 30 0 j (by unfold ux_pm ux_qt ux_qd; omega))
  have v8 : tw_gi ν1 6 0 8 = -1 := by rw [hν1, tw_gi_ne (by omega), tw_gi_ne (by omega), tw_gi_ne (by omega), tw_gi_ne (by omega), tw_gi_ne (by omega), tw_gi_eq]
  have v4 : tw_gi ν1 6 0 4 = nI 0 := by rw [hν1, tw_gi_ne (by omega), tw_gi_ne (by omega), tw_gi_ne (by omega), tw_gi_ne (by omega), tw_gi_eq]; rfl
  have D1 : ux_Dr 0 0 0 0 μ1 ν1 := by
    refine ⟨by omega, by omega, by omega, by omega, ?_, ?_, ?_, ?_, ?_, ?_, ?_, ?_, fun j hj => absurd hj (Nat.not_lt_zero _), fun j hj => absurd hj (Nat.not_lt_zero _), fun j hj => absurd hj (Nat.not_lt_zero _), fun j hj => absurd hj (Nat.not_lt_zero _)⟩
    · rw [hμ1, tw_gi_ne (by omega), tw_gi_ne (by omega), tw_gi_ne (by omega), tw_gi_ne (by omega), tw_gi_eq]; rfl
    · rw [hμ1, tw_gi_ne (by omega), tw_gi_ne (by omega), tw_gi_ne (by omega), tw_gi_eq]; rfl
    · rw [hμ1, tw_gi_ne (by omega), tw_gi_ne (by omega), tw_gi_eq]; rfl
    · rw [hμ1, tw_gi_ne (by omega), tw_gi_eq]; rfl
    · rw [hν1, tw_gi_ne (by omega), tw_gi_ne (by omega), tw_gi_ne (by omega), tw_gi_eq]; rfl
    · rw [hν1, tw_gi_ne (by omega), tw_gi_ne (by omega), tw_gi_eq]; rfl
    · rw [hν1, tw_gi_ne (by omega), tw_gi_eq]; rfl
    · rw [hν1, tw_gi_eq]; rfl
  obtain ⟨ν2, b1, b2, b3⟩ := m_adv m1 (Nat.zero_le T) v4
  have fν2 : ux_fr ux_qt ν1 ν2 := b2.mo (fun k n j q => by unfold ux_qt; omega)
  obtain ⟨μ2, a1, a2, a3, a4, a5⟩ := s_next c1 (Nat.zero_le T) (by rw [hμ1, tw_gi_eq]; rfl)
  have fμ2 : ux_fr ux_pt μ1 μ2 := a2.mo (fun k n j q => by unfold ux_pt; omega)
  obtain ⟨μ3, ν3, f3, g3, res⟩ := ux_reading T 0 0 0 0 0 0 μ2 ν2 none (by omega) ⟨c1.pt fμ2, m1.qt fν2, Nat.zero_le T, a3, a4, a5, b3, by rw [b2.1 6 0 8 (by omega)]; exact v8⟩ (D1.fr fμ2 fν2) (Nat.zero_le _)
  have F : ux_fr ux_pc μ μ3 := fμ1.tr ((ux_lp fμ2).tr f3)
  have G : ux_fr ux_pm (tw_th ν) ν3 := fν1.tr ((ux_rp fν2).tr g3)
  have hc : ∀ r : Int32, tw_run 28 15 [some (tw_R 4 0), some (tw_R 0 1), some (tw_I (nI 0))] [] μ2 = some (some (tw_I r), μ3) → tw_call 28 [tw_R 4 0, tw_R 0 1] μ = some (some (tw_I r), μ3) := by
    intro r hr
    rw [te_28, tb_28_0, te_4, tb_4_0]
    simp only [Option.bind_some, Option.toList_some, Option.toList_none, List.cons_append, List.nil_append, List.append_nil, tb_28_4]
    rw [← hμ1, a1]
    simp only [Option.bind_some, Option.toList_some, Option.toList_none, List.cons_append, List.nil_append, List.append_nil]
    exact hr
  have hm : tw_call 116 [tw_R 6 0] ν = tw_run 116 41 [some (tw_R 6 0), some (tw_I (nI 0)), none] [] ν2 := by
    rw [te_116, tb_116_0, tw_thf, ← hν1, b1]
    rfl
  rcases res with ⟨it, q2, p, h', s, n, it1, r1, r2, D⟩ | ⟨f, hf, r1, r2⟩
  · -- a cape
    obtain ⟨d1, d2, d3, d4, d5, d6, d7, d8, d9, da, db, dc, dd, de, df, dg⟩ := D
    obtain ⟨μ4, p1, p2, p3, p4, p5, p6⟩ := s_capeBecome (μ := μ3)
    obtain ⟨ν4, hν4⟩ : ∃ ν4, ν4 = tw_si (tw_si (tw_si (tw_si ν3 6 0 14 (nI p)) 6 0 15 (nI h')) 6 0 16 (nI s)) 6 0 17 (nI n) := ⟨_, rfl⟩
    have fν4 : ux_fr (fun k _ j => k = 6 ∧ 14 ≤ j ∧ j ≤ 17) ν3 ν4 := by
      rw [hν4]
      refine ux_fr.si (ux_fr.si (ux_fr.si (ux_fr.si ux_fr.rf ?_) ?_) ?_) ?_
      all_goals omega
    obtain ⟨ν5, k1, k2, k3⟩ := m_copy24 (x := nI it) (o1 := none) 24 0 ν4 rfl
    obtain ⟨ν6, k4, k5, k6⟩ := m_copy5 (x := nI it) (o1 := none) 5 0 ν5 rfl
    obtain ⟨ν7, k7, k8, k9⟩ := m_copy4 (x := nI it) (o1 := none) 4 0 ν6 rfl
    obtain ⟨μ5, hμ5⟩ : ∃ μ5, μ5 = tw_si μ4 4 0 1 0 := ⟨_, rfl⟩
    obtain ⟨ν8, hν8⟩ : ∃ ν8, ν8 = tw_si (tw_si (tw_si ν7 6 0 3 0) 38 0 0 0) 38 0 1 0 := ⟨_, rfl⟩
    have e45 : ∀ k n j, k ≠ 4 → tw_gi μ5 k n j = tw_gi μ4 k n j := fun k n j hk => by rw [hμ5, tw_gi_ne (by omega)]
    have e78 : ∀ k j, k ≠ 38 → ¬ (k = 6 ∧ j = 3) → tw_gi ν8 k 0 j = tw_gi ν7 k 0 j := fun k j h1 h2 => by rw [hν8, tw_gi_ne (by omega), tw_gi_ne (by omega), tw_gi_ne (by omega)]
    have cnt : ∀ w, 14 ≤ w → w ≤ 17 → tw_gi ν8 6 0 w = tw_gi ν4 6 0 w := fun w w1 w2 => by
      rw [e78 6 w (by omega) (by omega), k8.1 6 0 w (by omega), k5.1 6 0 w (by omega), k2.1 6 0 w (by omega)]
    have Ic : tw_Ic p h' s n μ5 := by
      refine ⟨d1, d2, d3, d4, ?_, ?_, ?_, ?_, fun j hj => ?_, fun j hj => ?_, fun j hj => ?_, fun j hj => ?_⟩
      · rw [e45 0 0 5 (by omega), p3 5 (by omega) (by omega)]; exact d5
      · rw [e45 0 0 6 (by omega), p3 6 (by omega) (by omega)]; exact d6
      · rw [e45 0 0 7 (by omega), p3 7 (by omega) (by omega)]; exact d7
      · rw [e45 0 0 8 (by omega), p3 8 (by omega) (by omega)]; exact d8
      · rw [e45 10 0 j (by omega), (p4 j (by omega)).1]; exact (dd j hj).1
      · rw [e45 11 0 j (by omega), p5 j (by omega)]; exact (de j hj).1
      · rw [e45 12 0 j (by omega), p6 j (by omega)]; exact (df j hj).1
      · rw [e45 13 0 j (by omega), e45 14 0 j (by omega), (p4 j (by omega)).2.1, (p4 j (by omega)).2.2]; exact ⟨(dg j hj).1, (dg j hj).2.1⟩
    have Ec : tw_Ec p h' s n μ5 ν8 := by
      refine ⟨?_, ?_, ?_, ?_, fun j hj => ?_, fun j hj => ?_, fun j hj => ?_, fun j hj => ?_⟩
      · rw [cnt 14 (by omega) (by omega), hν4, tw_gi_ne (by omega), tw_gi_ne (by omega), tw_gi_ne (by omega), tw_gi_eq]
      · rw [cnt 15 (by omega) (by omega), hν4, tw_gi_ne (by omega), tw_gi_ne (by omega), tw_gi_eq]
      · rw [cnt 16 (by omega) (by omega), hν4, tw_gi_ne (by omega), tw_gi_eq]
      · rw [cnt 17 (by omega) (by omega), hν4, tw_gi_eq]
      · rw [e78 31 j (by omega) (by omega), (k9 j (Nat.zero_le _) (by omega)).1, k5.1 31 0 (4 + j) (by omega), k2.1 31 0 (4 + j) (by omega), fν4.1 31 0 (4 + j) (by omega), e45 10 0 j (by omega), (p4 j (by omega)).1]
        exact (dd j hj).2
      · rw [e78 32 j (by omega) (by omega), k8.1 32 0 j (by omega), k5.1 32 0 j (by omega), k3 j (Nat.zero_le _) (by omega), fν4.1 32 0 (24 + j) (by omega), e45 11 0 j (by omega), p5 j (by omega)]
        exact (de j hj).2
      · rw [e78 33 j (by omega) (by omega), k8.1 33 0 j (by omega), k6 j (Nat.zero_le _) (by omega), k2.1 33 0 (5 + j) (by omega), fν4.1 33 0 (5 + j) (by omega), e45 12 0 j (by omega), p6 j (by omega)]
        exact (df j hj).2
      · rw [e78 34 j (by omega) (by omega), e78 35 j (by omega) (by omega), (k9 j (Nat.zero_le _) (by omega)).2.1, (k9 j (Nat.zero_le _) (by omega)).2.2, k5.1 34 0 (4 + j) (by omega), k5.1 35 0 (4 + j) (by omega), k2.1 34 0 (4 + j) (by omega), k2.1 35 0 (4 + j) (by omega), fν4.1 34 0 (4 + j) (by omega), fν4.1 35 0 (4 + j) (by omega), e45 13 0 j (by omega), e45 14 0 j (by omega), (p4 j (by omega)).2.1, (p4 j (by omega)).2.2]
        exact (dg j hj).2.2
    obtain ⟨μ6, ν9, z1, z2, z3, z4, z5, z6⟩ := ux_begin Ic Ec
    obtain ⟨μ7, hμ7⟩ : ∃ μ7, μ7 = tw_si (tw_si μ6 3 1 6 0) 3 2 6 0 := ⟨_, rfl⟩
    have fμ7 : ux_fr (fun k n j => k = 3 ∧ 1 ≤ n ∧ j = 6) μ6 μ7 := by
      rw [hμ7]
      refine ux_fr.si (ux_fr.si ux_fr.rf ?_) ?_
      all_goals omega
    refine ⟨tw_I (nI it), μ7, ν9, ?_, ?_, p, h', s, n, 0, 0, 0, ?_, ?_, ?_, ?_⟩
    · rw [te_33, tb_33_0, hc _ r1]
      simp only [Option.bind_some, Option.toList_some, Option.toList_none, List.cons_append, List.nil_append, List.append_nil, tb_33_11]
      rw [if_pos (nI_pos' (by omega)), tb_33_18, p1]
      simp only [Option.bind_some, Option.toList_some, Option.toList_none, List.cons_append, List.nil_append, List.append_nil, tb_33_29]
      rw [← hμ5, z1]
      simp only [Option.bind_some, Option.toList_some, Option.toList_none, List.cons_append, List.nil_append, List.append_nil, tb_33_48]
      rw [← hμ7]
    · rw [hm, r2, tb_116_135, d9, tw_gi_ne (by omega), da, tw_gi_ne (by omega), tw_gi_ne (by omega), db, tw_gi_ne (by omega), tw_gi_ne (by omega), tw_gi_ne (by omega), dc, ← hν4]
      rw [show (0 : Int32) = nI 0 from rfl, k1, tb_116_196, show (0 : Int32) = nI 0 from rfl, k4, tb_116_223, show (0 : Int32) = nI 0 from rfl, k7, tb_116_278, ← hν8, z2]
      simp only [Option.bind_some, Option.toList_some, Option.toList_none, List.cons_append, List.nil_append, List.append_nil, tb_116_301]
    · have eq0 := ux_eq.of (μ := μ6) (μ' := μ7) (i := 0) (C := 0) (by omega) (fun k n j q => fμ7.1 k n j (by unfold ux_s at q; omega))
      refine ⟨(Ic.fr (fun k n j q => z3.1 k n j (by unfold ux_now ux_s; unfold ux_c at q; omega))).fr (fun k n j q => fμ7.1 k n j (by unfold ux_c at q; omega)), ?_, z5.tf d4 eq0, z6.tf z5 d4 eq0 (fun j _ => rfl)⟩
      exact (Ec.fr (fun k n j q => z3.1 k n j (by unfold ux_now ux_s; unfold ux_c at q; omega)) (fun k j q => z4.1 k 0 j (by unfold ux_m36; omega))).fr (fun k n j q => fμ7.1 k n j (by unfold ux_c at q; omega)) (fun k j q => rfl)
    · refine ⟨Nat.zero_le _, ?_, ?_, fun j hj => absurd hj (Nat.not_lt_zero _)⟩
      · rw [fμ7.1 4 0 1 (by omega), z3.1 4 0 1 (by unfold ux_now ux_s; omega), hμ5, tw_gi_eq]; rfl
      · rw [z4.1 6 0 3 (by unfold ux_m36; omega), hν8, tw_gi_ne (by omega), tw_gi_ne (by omega), tw_gi_eq]; rfl
    · intro m hm
      have e0 : tw_gi μ7 3 (m + 1) 6 = 0 := by
        have : m = 0 ∨ m = 1 := by omega
        rcases this with rfl | rfl
        · rw [hμ7, tw_gi_ne (by omega), tw_gi_eq]
        · rw [hμ7, tw_gi_eq]
      refine ⟨?_, Or.inl e0⟩
      rw [e0, z4.1 38 0 m (by unfold ux_m36; omega), hν8]
      have : m = 0 ∨ m = 1 := by omega
      rcases this with rfl | rfl
      · rw [tw_gi_ne (by omega), tw_gi_eq]
      · rw [tw_gi_eq]
    · have l1 : tw_gl μ7 5 = tw_gl μ 5 := by
        rw [fμ7.2, z3.2, hμ5, tw_gl_si, p2.2, F.2]
      have l2 : tw_gl ν9 6 = tw_gl (tw_th ν) 6 := by
        rw [z4.2, hν8, tw_gl_si, tw_gl_si, tw_gl_si, k8.2, k5.2, k2.2, fν4.2, G.2]
      rw [l1, l2]
      exact Tr
  · -- a fault: nothing changed
    refine ⟨tw_I (-10 - nI f), μ3, ν3, ?_, ?_, ?_⟩
    · rw [te_33, tb_33_0, hc _ r1]
      simp only [Option.bind_some, Option.toList_some, Option.toList_none, List.cons_append, List.nil_append, List.append_nil, tb_33_11]
      rw [if_neg (tn_m10 hf), tb_33_16]
    · rw [hm]
      exact r2
    · have R' := R.th
      obtain ⟨c1', c2', c3', c4', -⟩ := rn_c R'
      have fc : ∀ k n j, ux_c k n → tw_gi μ3 k n j = tw_gi μ k n j := fun k n j q => F.1 k n j (by unfold ux_pc ux_pt ux_pd; unfold ux_c at q; omega)
      have e := ux_eq.of (μ := μ) (μ' := μ3) (i := 0) R'.2.2.1.1 (fun k n j q => F.1 k n j (by unfold ux_pc ux_pt ux_pd; unfold ux_s at q; omega))
      refine ⟨P, H, S, N, C, h, T, ⟨R'.1.fr fc, R'.2.1.fr2 c1' c2' c3' c4' fc (fun k j q => G.1 k 0 j (by unfold ux_pm ux_qt ux_qd; omega)), R'.2.2.1.tf c4' e, R'.2.2.2.tf R'.2.2.1 c4' e (fun j hj => G.1 36 0 j (by unfold ux_pm ux_qt ux_qd; omega))⟩, ?_, ?_, ?_⟩
      · exact Tt.th.fr2 (F.1 4 0 1 (by unfold ux_pc ux_pt ux_pd; omega)) (fun j => F.1 20 0 j (by unfold ux_pc ux_pt ux_pd; omega)) (fun k j q => G.1 k 0 j (by unfold ux_pm ux_qt ux_qd; omega))
      · exact Ei.th.fr c4' (fun m k n j hm q => F.1 k n j (by unfold ux_pc ux_pt ux_pd; unfold ux_s at q; omega)) (fun k j q => G.1 k 0 j (by unfold ux_pm ux_qt ux_qd; omega))
      · rw [F.2, G.2]; exact Tr
end
