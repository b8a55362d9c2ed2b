def tw_ib (x : Int32) (n : Nat) : Int32 := if tw_in x n then 1 else 0
theorem tn_ii {α : Type} {x : Int32} {n : Nat} (hn : n < 2 ^ 31) (a b : α) : (if x < 0 then a else if nI n ≤ x then a else b) = if tw_in x n then b else a := by
  by_cases h : tw_in x n
  · obtain ⟨h1, h2⟩ := tn_in_lt hn h
    rw [if_neg h1, if_neg h2, if_pos h]
  · rw [if_neg h]
    by_cases h1 : x < 0
    · rw [if_pos h1]
    · by_cases h2 : nI n ≤ x
      · rw [if_neg h1, if_pos h2]
      · exact absurd (tn_out hn h1 h2) h
theorem tn_bob {x : Int32} {n : Nat} {μ : tw_M} : (if tw_in x n then tw_bo .boolean 1 μ else tw_bo .boolean 0 μ) = some (some (tw_I (tw_ib x n)), μ) := by
  unfold tw_ib
  split <;> rfl
theorem tw_ib_t {x : Int32} {n : Nat} (h : tw_in x n) : ¬ tw_ib x n = 0 := by
  unfold tw_ib
  rw [if_pos h]
  decide
theorem tw_ib_f {x : Int32} {n : Nat} (h : ¬ tw_in x n) : tw_ib x n = 0 := by
  unfold tw_ib
  rw [if_neg h]
section
variable {μ : tw_M} {x : Int32} {i c n k p h j P H S N C : Nat}
theorem s_isPlace (h : tw_gi μ 0 c 5 = nI P) (hP : P < 2 ^ 31) : tw_call 34 [tw_R 0 c, tw_I x] μ = some (some (tw_I (tw_ib x P)), μ) := by
  simp only [te_34, tb_34_0, tb_34_16, tb_34_4, tb_34_17, tb_34_12, h]
  rw [tn_ii hP, tn_bob]
theorem s_isSound (h : tw_gi μ 0 c 7 = nI P) (hP : P < 2 ^ 31) : tw_call 47 [tw_R 0 c, tw_I x] μ = some (some (tw_I (tw_ib x P)), μ) := by
  simp only [te_47, tb_47_0, tb_47_16, tb_47_4, tb_47_17, tb_47_12, h]
  rw [tn_ii hP, tn_bob]
theorem s_isPerson (h : tw_gi μ 0 c 8 = nI P) (hP : P < 2 ^ 31) : tw_call 31 [tw_R 0 c, tw_I x] μ = some (some (tw_I (tw_ib x P)), μ) := by
  simp only [te_31, tb_31_0, tb_31_16, tb_31_4, tb_31_17, tb_31_12, h]
  rw [tn_ii hP, tn_bob]
theorem s_isHour : tw_call 45 [tw_I x] μ = some (some (tw_I (tw_ib x 100)), μ) := by
  simp only [te_45, tb_45_0, tb_45_14, tb_45_4, tb_45_15, tb_45_10]
  have e : ((99 : Int32) < x) = (nI 100 ≤ x) := by
    apply propext
    rw [Int32.lt_iff_toInt_lt, Int32.le_iff_toInt_le, nI_toInt (by omega)]
    show (99 : Int) < _ ↔ _
    omega
  simp only [e]
  rw [tn_ii (by omega), tn_bob]
theorem s_warmthIn (hH : tw_gi μ 0 0 6 = nI H) (hH2 : H ≤ 24) (hh : h < 2 ^ 30) : tw_call 35 [tw_R 0 0, tw_I (nI h)] μ = some (some (tw_I (tw_wt μ H h)), μ) := by
  unfold tw_wt
  by_cases h0 : H = 0
  · subst h0
    rw [if_pos rfl]
    simp only [te_35, tb_35_0, tb_35_11, tb_35_7, tb_35_28, hH]
    rfl
  · rw [if_neg h0]
    obtain ⟨d, rfl⟩ : ∃ d, H = d + 1 := ⟨H - 1, by omega⟩
    have e1 : ¬ (nI (d + 1) = 0) := nI_ne0 (by omega) (by omega)
    have e2 : nI (d + 1) - 1 = nI d := nI_pred d
    have e3 : (if nI d < nI h then nI d else nI h) = nI (if h < d + 1 then h else d) := by
      by_cases z : d < h
      · rw [if_pos (nI_lt z (by omega)), if_neg (by omega)]
      · rw [if_neg (nI_nlt (by omega) (by omega)), if_pos (by omega)]
    rw [te_35, tb_35_0, hH, if_neg e1, tb_35_11, hH, e2, e3, s_at rfl, tw_rd_n (by show _ < 24; split <;> omega)]
    simp only [te_35, tb_35_0, tb_35_11, tb_35_7, tb_35_28, Option.bind_some, Option.toList_some, Option.toList_none, List.cons_append, List.nil_append, List.append_nil]
    rfl
theorem s_airIn0 (hH : tw_gi μ 0 0 6 = nI H) (hH2 : H ≤ 24) (hh : h < 2 ^ 30) (hp : p < 4) : tw_call 36 [tw_R 0 0, tw_I (nI p), tw_I (nI h)] μ = some (some (tw_I (tw_ac μ H p h)), μ) := by
  have e : tw_rd μ 10 0 (nI p) = tw_gi μ 10 0 p := tw_rd_n hp
  simp only [te_36, tb_36_0, tb_36_5, tb_36_13, s_warmthIn hH hH2 hh, s_at (k := 10) rfl, e, Option.bind_some, Option.toList_some, Option.toList_none, List.cons_append, List.nil_append, List.append_nil]
  rfl
theorem s_isLit : tw_call 38 [tw_R 3 i, tw_I x] μ = some (some (tw_I (tw_bv (tw_gi μ 3 i 5) x)), μ) := by
  simp only [te_38, tb_38_0, tb_38_8, s_hasBit, Option.bind_some, Option.toList_some, Option.toList_none, List.cons_append, List.nil_append, List.append_nil]
  unfold tw_bv
  split <;> rfl
theorem s_airIn (hH : tw_gi μ 0 0 6 = nI H) (hH2 : H ≤ 24) (hh : h < 2 ^ 30) (hp : p < 4) : tw_call 39 [tw_R 3 0, tw_R 0 0, tw_I (nI p), tw_I (nI h)] μ = some (some (tw_I (tw_ai μ H p h)), μ) := by
  simp only [te_39, tb_39_0, tb_39_6, tb_39_31, tb_39_16, tb_39_33, tb_39_21, tb_39_24, s_airIn0 hH hH2 hh hp, s_isLit, Option.bind_some, Option.toList_some, Option.toList_none, List.cons_append, List.nil_append, List.append_nil]
  unfold tw_ai tw_lt
  by_cases h1 : nI h = tw_gi μ 3 0 4
  · by_cases h2 : tw_bv (tw_gi μ 3 0 5) (nI p) = 0
    · rw [if_pos h1, if_pos h2, if_neg (fun z => z.2 h2)]
    · rw [if_pos h1, if_neg h2, if_pos ⟨h1, h2⟩]
  · rw [if_neg h1, if_neg (fun z => h1 z.1)]
theorem tn_8 {x : Int32} : ((8 : Int32) ≤ x) = (nI 8 ≤ x) := rfl
theorem s_sayingAt_t (hC : tw_gi μ 3 i 3 = nI C) (hC2 : C ≤ 8) (hk : k < C) : tw_call 40 [tw_R 3 i, tw_I (nI k)] μ = some (some (tw_R 2 (8 * i + k)), μ) := by
  have e0 : ¬ nI k < 0 := nI_pos (by omega)
  have e1 : ¬ nI C ≤ nI k := nI_ge hk (by omega)
  have e2 : ¬ (8 : Int32) ≤ nI k := nI_ge (b := 8) (by omega) (by omega)
  have e3 : tw_in (nI k) 8 := tn_in (by omega) (by omega)
  simp only [te_40, tb_40_0, tb_40_30, tb_40_4, tb_40_31, tb_40_12, tb_40_21, tb_40_27, tb_40_31a, hC, if_neg e0, if_neg e1, if_neg e2, if_pos e3, nI_clamp (show k < 2 ^ 31 by omega)]
theorem s_sayingAt_f (hC : tw_gi μ 3 i 3 = nI C) (hC2 : C ≤ 8) (hk : ¬ tw_in x C) : tw_call 40 [tw_R 3 i, tw_I x] μ = some (some tw_N, μ) := by
  simp only [te_40, tb_40_0, tb_40_30, tb_40_4, tb_40_31, tb_40_12, tb_40_21, tb_40_27, tb_40_31a, hC]
  rw [tn_ii (by omega), if_neg hk]
theorem s_earAt (hp : p < 4) : tw_call 49 [tw_R 3 i, tw_I (nI p)] μ = some (some (tw_R 1 (4 * i + p)), μ) := by
  have e0 : ¬ nI p < 0 := nI_pos (by omega)
  have e2 : ¬ (4 : Int32) ≤ nI p := nI_ge (b := 4) (by omega) (by omega)
  have e3 : tw_in (nI p) 4 := tn_in (by omega) (by omega)
  simp only [te_49, tb_49_0, tb_49_22, tb_49_4, tb_49_23, tb_49_13, tb_49_19, tb_49_23a, if_neg e0, if_neg e2, if_pos e3, nI_clamp (show p < 2 ^ 31 by omega)]
theorem s_earOf_t (hN : tw_gi μ 0 0 8 = nI N) (hN2 : N ≤ 4) (hp : p < N) : tw_call 50 [tw_R 5 0, tw_I (nI p)] μ = some (some (tw_R 1 p), μ) := by
  simp only [te_50, tb_50_0, tb_50_8, tb_50_22, tb_50_11, tb_50_23, tb_50_19, tb_50_19a, tb_50_23a, s_isPerson hN (by omega), Option.bind_some, Option.toList_some, Option.toList_none, List.cons_append, List.nil_append, List.append_nil, if_neg (tw_ib_t (tn_in hp (by omega))), s_earAt (i := 0) (show p < 4 by omega), Nat.mul_zero, Nat.zero_add]
theorem s_earOf_f (hN : tw_gi μ 0 0 8 = nI N) (hN2 : N ≤ 4) (hp : ¬ tw_in x N) : tw_call 50 [tw_R 5 0, tw_I x] μ = some (some tw_N, μ) := by
  simp only [te_50, tb_50_0, tb_50_8, tb_50_22, tb_50_11, tb_50_23, tb_50_19, tb_50_19a, tb_50_23a, s_isPerson hN (by omega), Option.bind_some, Option.toList_some, Option.toList_none, List.cons_append, List.nil_append, List.append_nil, if_pos (tw_ib_f hp)]
theorem s_hangs (hj : j < 4) : tw_call 41 [tw_R 2 n, tw_I (nI j)] μ = some (some (tw_I (if tw_gi μ 18 n j = -1 then 1 else 0)), μ) := by
  have e : tw_rd μ 18 n (nI j) = tw_gi μ 18 n j := tw_rd_n hj
  simp only [te_41, tb_41_0, tb_41_8, tb_41_16, tb_41_12, tb_41_17, s_at (k := 18) rfl, e, Option.bind_some, Option.toList_some, Option.toList_none, List.cons_append, List.nil_append, List.append_nil, tn_bo0, tn_bo1]
  split <;> rfl
theorem s_hanging (hl : tw_bd (tw_gi μ 2 n 2) 5) : tw_call 42 [tw_R 2 n] μ = some (some (tw_I (nI (tw_hg μ n))), μ) := by
  obtain ⟨e1, e2⟩ := hl.eq (by omega)
  have e1 : tw_gi μ 2 n 2 = nI (tw_ln μ n) := e1
  have e2 : tw_ln μ n < 5 := e2
  have loop : ∀ (d j : Nat), j + d = tw_ln μ n → tw_run 42 4 [some (tw_R 2 n), some (tw_I (nI (tw_cn (tw_hb μ n) j))), some (tw_I (nI j))] [] μ = some (some (tw_I (nI (tw_hg μ n))), μ) := by
    intro d
    induction d with
    | zero =>
      intro j hj
      have hj2 : j = tw_ln μ n := by omega
      rw [tb_42_4, e1, if_pos (nI_le (by omega) (by omega)), tb_42_29, hj2]
      rfl
    | succ d ih =>
      intro j hj
      have ih2 := ih (j + 1) (by omega)
      rw [tb_42_4, e1, if_neg (nI_ge (by omega) (by omega)), tb_42_12, s_hangs (by omega)]
      simp only [Option.bind_some, Option.toList_some, Option.toList_none, List.cons_append, List.nil_append, List.append_nil, tb_42_17, tn_z, tb_42_23, tb_42_20, nI_1]
      by_cases hh : tw_gi μ 18 n j = -1
      · rw [if_neg (fun z => z hh)]
        rw [tw_cn, if_pos (show tw_hb μ n j = true from decide_eq_true hh)] at ih2
        exact ih2
      · rw [if_pos hh]
        rw [tw_cn, if_neg (show ¬ tw_hb μ n j = true from fun z => hh (of_decide_eq_true z)), Nat.add_zero] at ih2
        exact ih2
  rw [te_42, tb_42_0]
  exact loop (tw_ln μ n) 0 (by omega)
end
