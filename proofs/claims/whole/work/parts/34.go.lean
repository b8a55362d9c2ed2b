/-! go -/
section
variable {μ μ' ν ν' : tw_M} {x y z u v A l : Int32} {s k p h j t w n P H S N C T i a b m : Nat}
theorem ux_pass : ∀ (d p : Nat) (μ ν : tw_M), p + d = P → tw_Rn P H S N C h μ ν → ∃ μ' ν' c,
    (∀ m, tw_run 64 19 [some (tw_R 3 0), some (tw_R 0 0), some (tw_I (nI m)), some (tw_I (nI p))] [] μ = some (some (tw_I (nI (m + c))), μ')) ∧
    (∀ m (x1 x3 : Int32), tw_run 136 71 [some (tw_R 6 0), some (tw_I x1), some (tw_I (nI m)), some (tw_I x3), some (tw_I (nI p))] [] ν = tw_run 136 95 [some (tw_R 6 0), some (tw_I x1), some (tw_I (nI (m + c))), some (tw_I x3), some (tw_I (nI P))] [] ν') ∧
    tw_Rn P H S N C h μ' ν' ∧ ux_fr ux_now μ μ' ∧ ux_fr ux_m36 ν ν' := by
  intro d
  induction d with
  | zero =>
    intro p μ ν hp R
    have hp2 : p = P := by omega
    subst hp2
    obtain ⟨c1, c2, c3, c4, e5, e6, e7, e8, f5, f6, f7, f8⟩ := rn_c R
    refine ⟨μ, ν, 0, fun m => ?_, fun m x1 x3 => ?_, R, ux_fr.rf, ux_fr.rf⟩
    · rw [tb_64_19, e5, if_pos (nI_le (Nat.le_refl _) (by omega)), tb_64_42, Nat.add_zero]
    · rw [tb_136_71, f5, if_pos (nI_le (Nat.le_refl _) (by omega)), Nat.add_zero]
  | succ d ih =>
    intro p μ ν hp R
    have hpP : p < P := by omega
    obtain ⟨c1, c2, c3, c4, e5, e6, e7, e8, f5, f6, f7, f8⟩ := rn_c R
    obtain ⟨μ1, ν1, c1', t1, t2, t3, t4, t5⟩ := ux_melting R hpP
    obtain ⟨μ', ν', c, h1, h2, h3, h4, h5⟩ := ih (p + 1) μ1 ν1 (by omega) t3
    refine ⟨μ', ν', c1' + c, fun m => ?_, fun m x1 x3 => ?_, h3, (ux_hn t4).tr h4, t5.tr h5⟩
    · rw [tb_64_19, e5, if_neg (nI_ge hpP (by omega)), tb_64_27, t1]
      simp only [Option.bind_some, Option.toList_some, Option.toList_none, List.cons_append, List.nil_append, List.append_nil, tb_64_34, nI_add, nI_1]
      rw [h1, Nat.add_assoc]
    · rw [tb_136_71, f5, if_neg (nI_ge hpP (by omega)), tb_136_80, t2]
      simp only [Option.bind_some, Option.toList_some, Option.toList_none, List.cons_append, List.nil_append, List.append_nil, tb_136_87, nI_add, nI_1]
      rw [h2, Nat.add_assoc]
theorem ux_going : ∀ (d i h : Nat) (μ ν : tw_M) (m : Nat) (o4 : Option tw_V), i + d = n → n < 100 → tw_Rn P H S N C h μ ν → ∃ μ' ν' h' r,
    tw_run 65 32 [some (tw_R 5 0), some (tw_I (nI n)), some (tw_I (nI m)), some (tw_I (nI i))] [] μ = some (some (tw_I r), μ') ∧
    tw_run 136 35 [some (tw_R 6 0), some (tw_I (nI n)), some (tw_I (nI m)), some (tw_I (nI i)), o4] [] ν = some (some (tw_I r), ν') ∧
    tw_Rn P H S N C h' μ' ν' ∧ ux_fr ux_now μ μ' ∧ ux_fr ux_m36 ν ν' := by
  intro d
  induction d with
  | zero =>
    intro i h μ ν m o4 hi hn R
    have e1 : nI n ≤ nI i := nI_le (by omega) (by omega)
    exact ⟨μ, ν, h, nI m, by rw [tb_65_32, if_pos e1, tb_65_69], by rw [tb_136_35, if_pos e1, tb_136_101], R, ux_fr.rf, ux_fr.rf⟩
  | succ d ih =>
    intro i h μ ν m o4 hi hn R
    have e1 : ¬ nI n ≤ nI i := nI_ge (by omega) (by omega)
    obtain ⟨g1, g2, g3, g4, g5, g6, g7⟩ := rn_0 R
    by_cases z : 99 ≤ h
    · have e2 : (99 : Int32) ≤ nI h := nI_le (a := 99) z (by omega)
      exact ⟨μ, ν, h, nI m, by rw [tb_65_32, if_neg e1, tb_65_37, g4, if_pos e2, tb_65_69], by rw [tb_136_35, if_neg e1, tb_136_40, g5, if_pos e2, tb_136_101], R, ux_fr.rf, ux_fr.rf⟩
    · have e2 : ¬ (99 : Int32) ≤ nI h := nI_ge (b := 99) (by omega) (by omega)
      have R1 := ux_hour (ux_lit R 0) (g := h + 1) (by omega)
      obtain ⟨μ1, ν1, c, t1, t2, t3, t4, t5⟩ := ux_pass P 0 _ _ (by omega) R1
      obtain ⟨μ', ν', h', r, h1, h2, h3, h4, h5⟩ := ih (i + 1) (h + 1) μ1 ν1 (m + c) (some (tw_I (nI P))) (by omega) hn t3
      have t1' := t1 0
      rw [Nat.zero_add] at t1'
      refine ⟨μ', ν', h', r, ?_, ?_, h3, ((ux_fr.rf.si (by unfold ux_now ux_s; omega)).si (by unfold ux_now ux_s; omega)).tr (t4.tr h4), ((ux_fr.rf.si rfl).si rfl).tr (t5.tr h5)⟩
      · rw [tb_65_32, if_neg e1, tb_65_37, g4, if_neg e2, tb_65_49, te_64, tb_64_0, tw_gi_ne (by omega), g4, nI_1]
        rw [show tw_run 64 19 [some (tw_R 3 0), some (tw_R 0 0), some (tw_I 0), some (tw_I 0)] [] (tw_si (tw_si μ 3 0 5 0) 3 0 4 (nI (h + 1))) = _ from t1']
        simp only [Option.bind_some, Option.toList_some, Option.toList_none, List.cons_append, List.nil_append, List.append_nil, tb_65_61, nI_add, nI_1]
        exact h1
      · rw [tb_136_35, if_neg e1, tb_136_40, g5, if_neg e2, tb_136_51, tw_gi_ne (by omega), g5, nI_1]
        rw [show tw_run 136 71 [some (tw_R 6 0), some (tw_I (nI n)), some (tw_I (nI m)), some (tw_I (nI i)), some (tw_I 0)] [] (tw_si (tw_si ν 36 0 1 0) 36 0 0 (nI (h + 1))) = _ from t2 m (nI n) (nI i), tb_136_95, nI_1]
        exact h2
theorem tn_r99n (h : ¬ ∃ j, j < 99 ∧ v = nI (j + 1)) : v < 1 ∨ (¬ v < 1 ∧ ¬ v ≤ 99) := by
  by_cases h0 : v < 1
  · exact Or.inl h0
  · refine Or.inr ⟨h0, fun q => h ?_⟩
    have h1 : ¬ v < 0 := by
      rw [Int32.lt_iff_toInt_lt] at h0 ⊢
      have : (1 : Int32).toInt = 1 := rfl
      have : (0 : Int32).toInt = 0 := rfl
      omega
    obtain ⟨j, hj, e⟩ := nI_of2 (M := 99) (n := 99) rfl h1 q
    rcases j with _ | j
    · rw [e] at h0
      exact absurd (show nI 0 < 1 by decide) h0
    · exact ⟨j, by omega, e⟩
theorem op_go (R0 : tw_Rl μ ν) : tw_Jn 65 136 [tw_I x] μ ν := by
  obtain ⟨P, H, S, N, C, h, T, R, Tt, Ei, Tr⟩ := id R0
  have R' := R.th
  obtain ⟨g1, g2, g3, g4, g5, g6, g7⟩ := rn_0 R'
  by_cases hx : ∃ j, j < 99 ∧ x = nI (j + 1)
  · obtain ⟨j, hj, rfl⟩ := hx
    have u1 : ¬ nI (j + 1) < (1 : Int32) := nI_nlt (b := 1) (by omega) (by omega)
    have u2 : nI (j + 1) ≤ (99 : Int32) := nI_le (b := 99) (by omega) (by omega)
    have u3 : ¬ (99 : Int32) < nI (j + 1) := tn_l1 u2
    by_cases z : h = 99
    · subst z
      refine tw_J_of R0 (r := tw_I (-2)) ?_ ?_
      · rw [te_65, tb_65_0, if_neg u1, tb_65_5, if_pos u2, tb_65_13, g4, if_neg (by decide), tb_65_25]
      · rw [te_136, tb_136_0, tw_thf, m_in0, if_neg u1, if_neg u3]
        simp only [Option.bind_some, Option.toList_some, Option.toList_none, List.cons_append, List.nil_append, List.append_nil, tb_136_12]
        rw [if_neg (by decide), tb_136_17, g5, if_pos (by decide), tb_136_28]
    · obtain ⟨μ', ν', h', r, h1, h2, h3, h4, h5⟩ := ux_going (n := j + 1) (j + 1) 0 h μ (tw_th ν) 0 none (by omega) (by omega) R'
      refine ⟨tw_I r, μ', ν', ?_, ?_, ux_rest R'.1 R'.2.1 Tt.th Ei.th Tr h4 h5 h3.2.2.1 h3.2.2.2⟩
      · rw [te_65, tb_65_0, if_neg u1, tb_65_5, if_pos u2, tb_65_13, g4, if_pos (show nI h < (99 : Int32) from nI_lt (b := 99) (by omega) (by omega)), tb_65_28]
        exact h1
      · rw [te_136, tb_136_0, tw_thf, m_in0, if_neg u1, if_neg u3]
        simp only [Option.bind_some, Option.toList_some, Option.toList_none, List.cons_append, List.nil_append, List.append_nil, tb_136_12]
        rw [if_neg (by decide), tb_136_17, g5, if_neg (show ¬ nI h = (99 : Int32) from fun q => z ((nI_eq (b := 99) (by omega) (by omega)).mp q)), tb_136_31]
        exact h2
  · refine tw_J_of R0 (r := tw_I (-1)) ?_ ?_
    · rcases tn_r99n hx with q | ⟨q1, q2⟩
      · rw [te_65, tb_65_0, if_pos q, tb_65_11]
      · rw [te_65, tb_65_0, if_neg q1, tb_65_5, if_neg q2, tb_65_11]
    · rw [te_136, tb_136_0, tw_thf, m_in0]
      have e : (if x < 1 then (0 : Int32) else if 99 < x then 0 else 1) = 0 := by
        rcases tn_r99n hx with w | ⟨w1, w2⟩
        · rw [if_pos w]
        · rw [if_neg w1, if_pos (tn_l2 w2)]
      simp only [Option.bind_some, Option.toList_some, Option.toList_none, List.cons_append, List.nil_append, List.append_nil, tb_136_12, e, if_pos, tb_136_15]
end
