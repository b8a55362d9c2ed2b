theorem tn_l01 : ((0 : Int32) = 1) = False := by decide
theorem tn_l02 : ((0 : Int32) = 2) = False := by decide
theorem tn_l03 : ((0 : Int32) = 3) = False := by decide
theorem tn_l04 : ((0 : Int32) = 4) = False := by decide
theorem tn_l05 : ((0 : Int32) = 5) = False := by decide
theorem tn_l10 : ((1 : Int32) = 0) = False := by decide
theorem tn_l12 : ((1 : Int32) = 2) = False := by decide
theorem tn_l13 : ((1 : Int32) = 3) = False := by decide
theorem tn_l14 : ((1 : Int32) = 4) = False := by decide
theorem tn_l15 : ((1 : Int32) = 5) = False := by decide
theorem tn_l20 : ((2 : Int32) = 0) = False := by decide
theorem tn_l21 : ((2 : Int32) = 1) = False := by decide
theorem tn_l23 : ((2 : Int32) = 3) = False := by decide
theorem tn_l24 : ((2 : Int32) = 4) = False := by decide
theorem tn_l25 : ((2 : Int32) = 5) = False := by decide
theorem tn_l30 : ((3 : Int32) = 0) = False := by decide
theorem tn_l31 : ((3 : Int32) = 1) = False := by decide
theorem tn_l32 : ((3 : Int32) = 2) = False := by decide
theorem tn_l34 : ((3 : Int32) = 4) = False := by decide
theorem tn_l35 : ((3 : Int32) = 5) = False := by decide
theorem tn_l40 : ((4 : Int32) = 0) = False := by decide
theorem tn_l41 : ((4 : Int32) = 1) = False := by decide
theorem tn_l42 : ((4 : Int32) = 2) = False := by decide
theorem tn_l43 : ((4 : Int32) = 3) = False := by decide
theorem tn_l45 : ((4 : Int32) = 5) = False := by decide
theorem tn_l50 : ((5 : Int32) = 0) = False := by decide
theorem tn_l51 : ((5 : Int32) = 1) = False := by decide
theorem tn_l52 : ((5 : Int32) = 2) = False := by decide
theorem tn_l53 : ((5 : Int32) = 3) = False := by decide
theorem tn_l54 : ((5 : Int32) = 4) = False := by decide
theorem tn_nl {y : Int32} (h : y < 0) : ¬ 0 ≤ y := by
  rw [Int32.lt_iff_toInt_lt] at h
  rw [Int32.le_iff_toInt_le]
  omega
theorem tn_m {x b : Int32} {n : Nat} (hn : n < 2 ^ 31) (hb : b.toInt = (n : Int) - 1) : (if x < 0 then (0 : Int32) else if b < x then 0 else 1) = tw_ib x n := by
  have e : (b < x) = (nI n ≤ x) := by
    apply propext
    rw [Int32.lt_iff_toInt_lt, Int32.le_iff_toInt_le, nI_toInt hn]
    omega
  simp only [e]
  rw [tn_ii hn]
  rfl
theorem tn_p1 {n : Nat} (hn : n < 2 ^ 31) : (nI n - 1).toInt = (n : Int) - 1 := by
  have := pk_sub_toInt (a := n % 2 ^ 31) (b := 1)
  rcases n with _ | n
  · rfl
  · rw [nI_pred, nI_toInt (by omega)]
    omega
theorem m_in0 {ν : tw_M} {x a b : Int32} : tw_call 103 [tw_I x, tw_I a, tw_I b] ν = some (some (tw_I (if x < a then 0 else if b < x then 0 else 1)), ν) := by
  simp only [te_103, tb_103_0, tb_103_14, tb_103_5, tb_103_15, tb_103_10, tn_bo0, tn_bo1]
  split
  · rfl
  · split <;> rfl
theorem m_in {ν : tw_M} {x b : Int32} {n : Nat} (hn : n < 2 ^ 31) (hb : b.toInt = (n : Int) - 1) : tw_call 103 [tw_I x, tw_I 0, tw_I b] ν = some (some (tw_I (tw_ib x n)), ν) := by
  rw [m_in0, tn_m hn hb]
theorem m_in_1 {ν : tw_M} {x : Int32} : tw_call 103 [tw_I x, tw_I 0, tw_I 1] ν = some (some (tw_I (tw_ib x 2)), ν) := m_in (n := 2) (by omega) rfl
theorem m_in_2 {ν : tw_M} {x : Int32} : tw_call 103 [tw_I x, tw_I 0, tw_I 2] ν = some (some (tw_I (tw_ib x 3)), ν) := m_in (n := 3) (by omega) rfl
theorem m_in_3 {ν : tw_M} {x : Int32} : tw_call 103 [tw_I x, tw_I 0, tw_I 3] ν = some (some (tw_I (tw_ib x 4)), ν) := m_in (n := 4) (by omega) rfl
theorem m_in_5 {ν : tw_M} {x : Int32} : tw_call 103 [tw_I x, tw_I 0, tw_I 5] ν = some (some (tw_I (tw_ib x 6)), ν) := m_in (n := 6) (by omega) rfl
theorem m_in_99 {ν : tw_M} {x : Int32} : tw_call 103 [tw_I x, tw_I 0, tw_I 99] ν = some (some (tw_I (tw_ib x 100)), ν) := m_in (n := 100) (by omega) rfl
theorem tn_bi {x : Int32} {n : Nat} {μ : tw_M} : tw_bo .boolean (tw_ib x n) μ = some (some (tw_I (tw_ib x n)), μ) := tn_boi
section
variable {μ ν : tw_M} {x : Int32} {k p h j w P H S N C : Nat}
theorem m_isPlace (hP : tw_gi ν 6 0 14 = nI P) (h2 : P < 2 ^ 31) : tw_call 117 [tw_R 6 0, tw_I x] ν = some (some (tw_I (tw_ib x P)), ν) := by
  simp only [te_117, tb_117_0, tb_117_11, hP, m_in h2 (tn_p1 h2), Option.bind_some, Option.toList_some, Option.toList_none, List.cons_append, List.nil_append, List.append_nil, tn_bi]
theorem m_isPerson (hP : tw_gi ν 6 0 17 = nI P) (h2 : P < 2 ^ 31) : tw_call 129 [tw_R 6 0, tw_I x] ν = some (some (tw_I (tw_ib x P)), ν) := by
  simp only [te_129, tb_129_0, tb_129_11, hP, m_in h2 (tn_p1 h2), Option.bind_some, Option.toList_some, Option.toList_none, List.cons_append, List.nil_append, List.append_nil, tn_bi]
theorem m_isSound (hP : tw_gi ν 6 0 16 = nI P) (h2 : P < 2 ^ 31) : tw_call 127 [tw_R 6 0, tw_I x] ν = some (some (tw_I (tw_ib x P)), ν) := by
  simp only [te_127, tb_127_0, tb_127_11, hP, m_in h2 (tn_p1 h2), Option.bind_some, Option.toList_some, Option.toList_none, List.cons_append, List.nil_append, List.append_nil, tn_bi]
theorem m_isSaying (hP : tw_gi ν 36 0 2 = nI P) (h2 : P < 2 ^ 31) : tw_call 137 [tw_R 6 0, tw_I x] ν = some (some (tw_I (tw_ib x P)), ν) := by
  simp only [te_137, tb_137_0, tb_137_13, hP, m_in h2 (tn_p1 h2), Option.bind_some, Option.toList_some, Option.toList_none, List.cons_append, List.nil_append, List.append_nil, tn_bi]
theorem m_ix (hk : k < 8) (hw : w < 14) : (11 : Int32) + 14 * nI k + nI w = nI (11 + 14 * k + w) := by
  show nI 11 + nI 14 * nI k + nI w = _
  rw [pk_mul, nI_add, nI_add]
theorem m_at (hk : k < 8) (hw : w < 14) : tw_call 121 [tw_R 6 0, tw_I (nI k), tw_I (nI w)] ν = some (some (tw_I (tw_gi ν 36 0 (11 + 14 * k + w))), ν) := by
  simp only [te_121, tb_121_0, tb_121_14, m_ix hk hw]
  rw [if_pos (tn_in (by show _ < 363; omega) (by decide)), nI_clamp (by omega)]
theorem m_at0 (hk : k < 8) : tw_call 121 [tw_R 6 0, tw_I (nI k), tw_I 0] ν = some (some (tw_I (tw_gi ν 36 0 (11 + 14 * k))), ν) := m_at (w := 0) hk (by omega)
theorem m_at1 (hk : k < 8) : tw_call 121 [tw_R 6 0, tw_I (nI k), tw_I 1] ν = some (some (tw_I (tw_gi ν 36 0 (11 + 14 * k + 1))), ν) := m_at (w := 1) hk (by omega)
theorem m_at2 (hk : k < 8) : tw_call 121 [tw_R 6 0, tw_I (nI k), tw_I 2] ν = some (some (tw_I (tw_gi ν 36 0 (11 + 14 * k + 2))), ν) := m_at (w := 2) hk (by omega)
theorem m_at3 (hk : k < 8) : tw_call 121 [tw_R 6 0, tw_I (nI k), tw_I 3] ν = some (some (tw_I (tw_gi ν 36 0 (11 + 14 * k + 3))), ν) := m_at (w := 3) hk (by omega)
theorem m_at4 (hk : k < 8) : tw_call 121 [tw_R 6 0, tw_I (nI k), tw_I 4] ν = some (some (tw_I (tw_gi ν 36 0 (11 + 14 * k + 4))), ν) := m_at (w := 4) hk (by omega)
theorem m_at13 (hk : k < 8) : tw_call 121 [tw_R 6 0, tw_I (nI k), tw_I 13] ν = some (some (tw_I (tw_gi ν 36 0 (11 + 14 * k + 13))), ν) := m_at (w := 13) hk (by omega)
theorem m_at5 (hk : k < 8) (hj : j < 4) : tw_call 121 [tw_R 6 0, tw_I (nI k), tw_I (5 + nI j)] ν = some (some (tw_I (tw_gi ν 36 0 (11 + 14 * k + 5 + j))), ν) := by
  rw [show (5 : Int32) + nI j = nI (5 + j) from nI_add 5 j, m_at hk (by omega), ← Nat.add_assoc]
theorem m_at9 (hk : k < 8) (hj : j < 4) : tw_call 121 [tw_R 6 0, tw_I (nI k), tw_I (9 + nI j)] ν = some (some (tw_I (tw_gi ν 36 0 (11 + 14 * k + 9 + j))), ν) := by
  rw [show (9 : Int32) + nI j = nI (9 + j) from nI_add 9 j, m_at hk (by omega), ← Nat.add_assoc]
/-! what the relation says of a saying, of one, of NOW -/
theorem rn_k (R : tw_Rn P H S N C h μ ν) (hk : k < C) : k < 8 ∧ tw_bd (tw_gi μ 2 k 3) N ∧ tw_bd (tw_gi μ 2 k 4) P ∧ tw_bd (tw_gi μ 2 k 5) 100 ∧ tw_gi μ 2 k 2 = nI (tw_ln μ k) ∧ tw_ln μ k < 5 ∧ 0 < tw_ln μ k ∧ (∀ j, j < tw_ln μ k → tw_bd (tw_gi μ 17 k j) S ∧ (tw_gi μ 18 k j = -1 ∨ tw_bd (tw_gi μ 18 k j) 100)) := by
  obtain ⟨-, -, ⟨hC, -, -, -, -, -, -, hs⟩, -⟩ := R
  obtain ⟨h1, h2, h3, h4, h5, h6⟩ := hs k hk
  rw [Nat.mul_zero, Nat.zero_add] at h1 h2 h3 h4 h5 h6
  obtain ⟨e1, e2⟩ := h4.eq (by omega)
  exact ⟨by omega, h1, h2, h3, e1, e2, h5, h6⟩
theorem rn_ke (R : tw_Rn P H S N C h μ ν) (hk : k < C) : tw_gi ν 36 0 (11 + 14 * k) = tw_gi μ 2 k 3 ∧ tw_gi ν 36 0 (11 + 14 * k + 1) = tw_gi μ 2 k 4 ∧ tw_gi ν 36 0 (11 + 14 * k + 2) = tw_gi μ 2 k 5 ∧ tw_gi ν 36 0 (11 + 14 * k + 3) = tw_gi μ 2 k 6 ∧ tw_gi ν 36 0 (11 + 14 * k + 4) = tw_gi μ 2 k 2 ∧ tw_gi ν 36 0 (11 + 14 * k + 13) = tw_gi μ 2 k 7 ∧
    ∀ j, j < tw_ln μ k → tw_gi ν 36 0 (11 + 14 * k + 5 + j) = tw_gi μ 17 k j ∧ tw_gi ν 36 0 (11 + 14 * k + 9 + j) = tw_gi μ 18 k j := by
  obtain ⟨-, -, -, -, -, -, -, hs⟩ := R
  have := hs k hk
  rw [Nat.mul_zero, Nat.zero_add] at this
  exact this
theorem rn_p (R : tw_Rn P H S N C h μ ν) (hp : p < N) : p < 4 ∧ tw_bd (tw_gi μ 19 0 p) P ∧ tw_gi μ 1 p 2 = nI (tw_er μ p) ∧ tw_er μ p < 61 ∧ (∀ j, j < tw_er μ p → tw_bd (tw_gi μ 15 p j) 8 ∧ tw_bd (tw_gi μ 16 p j) 5) ∧
    tw_gi ν 36 0 (3 + p) = tw_gi μ 19 0 p ∧ tw_gi ν 36 0 (7 + p) = tw_gi μ 1 p 2 ∧ ∀ j, j < tw_er μ p → tw_gi ν 36 0 (123 + 60 * p + j) = 8 * tw_gi μ 15 p j + tw_gi μ 16 p j := by
  obtain ⟨⟨-, -, -, hN, -⟩, -, ⟨-, -, -, -, h1, -, h2, -⟩, ⟨-, -, -, h3, -⟩⟩ := R
  have a1 := h2 p hp
  have a2 := h3 p hp
  rw [Nat.mul_zero, Nat.zero_add] at a1 a2
  obtain ⟨e1, e2⟩ := a1.1.eq (by omega)
  exact ⟨by omega, h1 p hp, e1, e2, a1.2, a2.1, a2.2.1, a2.2.2⟩
theorem rn_0 (R : tw_Rn P H S N C h μ ν) : C ≤ 8 ∧ h ≤ 99 ∧ tw_gi μ 3 0 3 = nI C ∧ tw_gi μ 3 0 4 = nI h ∧ tw_gi ν 36 0 0 = nI h ∧ tw_gi ν 36 0 1 = tw_gi μ 3 0 5 ∧ tw_gi ν 36 0 2 = nI C := by
  obtain ⟨-, -, ⟨h1, h2, h3, h4, -⟩, ⟨h5, h6, h7, -⟩⟩ := R
  exact ⟨h1, h2, h3, h4, (show tw_gi ν 36 0 0 = _ from h5).trans h4, h6, (show tw_gi ν 36 0 2 = _ from h7).trans h3⟩
/-- the number of the hours, the places .. on both sides -/
theorem rn_c (R : tw_Rn P H S N C h μ ν) : P ≤ 4 ∧ H ≤ 24 ∧ S ≤ 5 ∧ N ≤ 4 ∧ tw_gi μ 0 0 5 = nI P ∧ tw_gi μ 0 0 6 = nI H ∧ tw_gi μ 0 0 7 = nI S ∧ tw_gi μ 0 0 8 = nI N ∧ tw_gi ν 6 0 14 = nI P ∧ tw_gi ν 6 0 15 = nI H ∧ tw_gi ν 6 0 16 = nI S ∧ tw_gi ν 6 0 17 = nI N := by
  obtain ⟨⟨h1, h2, h3, h4, h5, h6, h7, h8, -⟩, ⟨e1, e2, e3, e4, -⟩, -, -⟩ := R
  exact ⟨h1, h2, h3, h4, h5, h6, h7, h8, e1, e2, e3, e4⟩
theorem m_warmthIn (R : tw_Rn P H S N C h μ ν) (hj : j < 2 ^ 30) : tw_call 118 [tw_R 6 0, tw_I (nI j)] ν = some (some (tw_I (tw_wt μ H j)), ν) := by
  obtain ⟨-, hH, -, -, -, -, -, -, -, e2, -, -⟩ := rn_c R
  have hw := R.2.1.2.2.2.2.2.1
  unfold tw_wt
  by_cases h0 : H = 0
  · subst h0
    rw [if_pos rfl]
    simp only [te_118, tb_118_0, tb_118_11, tb_118_7, tb_118_27, tb_118_23, tb_118_34, tb_118_33, e2]
    rfl
  · rw [if_neg h0]
    obtain ⟨d, rfl⟩ : ∃ d, H = d + 1 := ⟨H - 1, by omega⟩
    have e1 : ¬ (nI (d + 1) = 0) := nI_ne0 (by omega) (by omega)
    have e3 : nI (d + 1) - 1 = nI d := nI_pred d
    rw [te_118, tb_118_0, e2, if_neg e1, tb_118_11, e2]
    by_cases z : j < d + 1
    · rw [if_neg (nI_ge z (by omega)), tb_118_23, tb_118_33, if_pos (tn_in (by show _ < 48; omega) (by decide)), nI_clamp (by omega), tb_118_34, if_pos z, hw j z]
    · rw [if_pos (nI_le (by omega) (by omega)), tb_118_27, e2, e3, tb_118_33, if_pos (tn_in (by show _ < 48; omega) (by decide)), nI_clamp (by omega), tb_118_34, if_neg z, hw d (by omega)]
      rfl
theorem tn_and1 (x : Int32) : (x &&& 1 = 1) ↔ ¬ (x &&& 1 = 0) := by
  obtain ⟨j, hj, e⟩ := pk_andE x (m := 1) 1 (by decide)
  rw [e]
  rcases j with _ | _ | j
  · decide
  · decide
  · omega
theorem m_isLit (R : tw_Rn P H S N C h μ ν) : tw_call 119 [tw_R 6 0, tw_I x] ν = some (some (tw_I (tw_bv (tw_gi μ 3 0 5) x)), ν) := by
  obtain ⟨-, -, -, -, -, e, -⟩ := rn_0 R
  simp only [te_119, tb_119_0, tb_119_18, tb_119_14, tb_119_19, e, tn_bo0, tn_bo1]
  unfold tw_bv
  by_cases z : (tw_gi μ 3 0 5 >>> (x &&& 31)) &&& 1 = 0
  · rw [if_neg (fun q => (tn_and1 _).mp q z), if_pos z]
  · rw [if_pos ((tn_and1 _).mpr z), if_neg z]
theorem m_air (R : tw_Rn P H S N C h μ ν) (hp : p < P) : tw_call 120 [tw_R 6 0, tw_I (nI p)] ν = some (some (tw_I (tw_ai μ H p h)), ν) := by
  obtain ⟨-, hh, -, e1, e2, -, -⟩ := rn_0 R
  obtain ⟨hP, -⟩ := rn_c R
  have hc := R.2.1.2.2.2.2.1 p hp
  simp only [te_120, tb_120_0, tb_120_10, tb_120_16, tb_120_22, tb_120_29, tb_120_25, tb_120_30, e2, m_warmthIn R (show h < 2 ^ 30 by omega), m_isLit R, Option.bind_some, Option.toList_some, Option.toList_none, List.cons_append, List.nil_append, List.append_nil, if_pos (tn_in (show p < tw_al 31 by show _ < 8; omega) (by decide)), nI_clamp (show p < 2 ^ 31 by omega), hc]
  unfold tw_ai tw_lt tw_ac
  by_cases z : tw_bv (tw_gi μ 3 0 5) (nI p) = 0
  · rw [if_pos z, if_neg (fun q => q.2 z)]
    simp
  · rw [if_neg z, if_pos ⟨e1.symm, z⟩]
theorem m_hangs (R : tw_Rn P H S N C h μ ν) (hk : k < C) (hj : j < 4) : tw_call 122 [tw_R 6 0, tw_I (nI k), tw_I (nI j)] ν = some (some (tw_I (if j < tw_ln μ k ∧ tw_gi μ 18 k j = -1 then 1 else 0)), ν) := by
  obtain ⟨k8, -, -, -, e2, l5, -, hs⟩ := rn_k R hk
  obtain ⟨-, -, -, -, f4, -, ff⟩ := rn_ke R hk
  simp only [te_122, tb_122_0, tb_122_7, tb_122_26, tb_122_10, tb_122_27, tb_122_19, tb_122_22, m_at4 k8, m_at9 k8 hj, Option.bind_some, Option.toList_some, Option.toList_none, List.cons_append, List.nil_append, List.append_nil, f4, e2, tn_bo0, tn_bo1]
  by_cases z : j < tw_ln μ k
  · rw [if_neg (nI_ge z (by omega)), (ff j z).2]
    rcases (hs j z).2 with y | ⟨t, ht, y⟩
    · rw [y, if_neg (by decide), if_pos ⟨z, rfl⟩]
    · rw [y, if_pos (nI_pos' (by omega)), if_neg]
      rintro ⟨-, q⟩
      have := congrArg Int32.toInt q
      rw [nI_toInt (by omega)] at this
      have h2 : ((-1 : Int32)).toInt = -1 := rfl
      omega
  · rw [if_pos (nI_le (by omega) (by omega)), if_neg (fun q => z q.1)]
theorem m_hangingOf (R : tw_Rn P H S N C h μ ν) (hk : k < C) : tw_call 123 [tw_R 6 0, tw_I (nI k)] ν = some (some (tw_I (nI (tw_hg μ k))), ν) := by
  obtain ⟨k8, -, -, -, e2, l5, -, hs⟩ := rn_k R hk
  have loop : ∀ (d j : Nat), j + d = 4 → tw_run 123 4 [some (tw_R 6 0), some (tw_I (nI k)), some (tw_I (nI (tw_cn (tw_hb μ k) (min j (tw_ln μ k))))), some (tw_I (nI j))] [] ν = some (some (tw_I (nI (tw_hg μ k))), ν) := by
    intro d
    induction d with
    | zero =>
      intro j hj
      have : j = 4 := by omega
      subst this
      rw [tb_123_4, if_pos (show (4 : Int32) ≤ nI 4 from by decide), tb_123_32, Nat.min_eq_right (by omega)]
      rfl
    | succ d ih =>
      intro j hj
      have ih2 := ih (j + 1) (by omega)
      rw [tb_123_4, if_neg (show ¬ (4 : Int32) ≤ nI j from nI_ge (b := 4) (by omega) (by omega)), tb_123_9, m_hangs R hk (by omega)]
      simp only [Option.bind_some, Option.toList_some, Option.toList_none, List.cons_append, List.nil_append, List.append_nil, tb_123_16, tn_z, tb_123_23, tb_123_19, tb_123_24, nI_1]
      by_cases z : j < tw_ln μ k
      · have e1 : min j (tw_ln μ k) = j := by omega
        have e3 : min (j + 1) (tw_ln μ k) = j + 1 := by omega
        rw [e1]
        rw [e3] at ih2
        by_cases hh : tw_gi μ 18 k j = -1
        · rw [if_neg (fun q => q ⟨z, hh⟩)]
          rw [tw_cn, if_pos (show tw_hb μ k j = true from decide_eq_true hh)] at ih2
          exact ih2
        · rw [if_pos (fun q => hh q.2)]
          rw [tw_cn, if_neg (show ¬ tw_hb μ k j = true from fun q => hh (of_decide_eq_true q)), Nat.add_zero] at ih2
          rw [show nI (tw_cn (tw_hb μ k) j) + (0 : Int32) = nI (tw_cn (tw_hb μ k) j) from by simp]
          exact ih2
      · have e1 : min j (tw_ln μ k) = tw_ln μ k := by omega
        have e3 : min (j + 1) (tw_ln μ k) = tw_ln μ k := by omega
        rw [e1, if_pos (fun q => z q.1)]
        rw [e3] at ih2
        rw [show nI (tw_cn (tw_hb μ k) (tw_ln μ k)) + (0 : Int32) = nI (tw_cn (tw_hb μ k) (tw_ln μ k)) from by simp]
        exact ih2
  rw [te_123, tb_123_0]
  have := loop 4 0 (by omega)
  rw [Nat.zero_min] at this
  exact this
theorem m_hangingAt (R : tw_Rn P H S N C h μ ν) {w : Nat} (hw : w < 2 ^ 31) : tw_call 124 [tw_R 6 0, tw_I (nI w)] ν = some (some (tw_I (nI (tw_hp μ (nI w) C))), ν) := by
  obtain ⟨c8, -, -, -, -, -, e2⟩ := rn_0 R
  have loop : ∀ (d k : Nat), k + d = C → tw_run 124 4 [some (tw_R 6 0), some (tw_I (nI w)), some (tw_I (nI (tw_hp μ (nI w) k))), some (tw_I (nI k))] [] ν = some (some (tw_I (nI (tw_hp μ (nI w) C))), ν) := by
    intro d
    induction d with
    | zero =>
      intro k hk
      have hk2 : k = C := by omega
      subst hk2
      simp only [tb_124_4, e2]
      rw [if_pos (nI_le (Nat.le_refl _) (by omega)), tb_124_46]
    | succ d ih =>
      intro k hk
      have hk2 : k < C := by omega
      obtain ⟨k8, -, hbp, -⟩ := rn_k R hk2
      obtain ⟨-, f1, -⟩ := rn_ke R hk2
      have ih2 := ih (k + 1) (by omega)
      have e3 : ¬ nI C ≤ nI k := nI_ge hk2 (by omega)
      have e4 : ¬ nI w < 0 := nI_pos hw
      rw [show tw_hp μ (nI w) (k + 1) = tw_hp μ (nI w) k + (if tw_gi μ 2 k 4 = nI w then tw_hg μ k else 0) from rfl, ← nI_add] at ih2
      by_cases z : tw_gi μ 2 k 4 = nI w
      · rw [if_pos z] at ih2
        simp only [te_124, tb_124_4, tb_124_46, tb_124_14, tb_124_29, tb_124_19, tb_124_34, tb_124_25, tb_124_38, tb_124_37, e2, if_neg e3, if_neg e4, m_at1 k8, m_hangingOf R hk2, f1, if_pos z, Option.bind_some, Option.toList_some, Option.toList_none, List.cons_append, List.nil_append, List.append_nil, nI_1] at ih2 ⊢
        exact ih2
      · rw [if_neg z] at ih2
        simp only [te_124, tb_124_4, tb_124_46, tb_124_14, tb_124_29, tb_124_19, tb_124_34, tb_124_25, tb_124_38, tb_124_37, e2, if_neg e3, if_neg e4, m_at1 k8, f1, if_neg z, Option.bind_some, Option.toList_some, Option.toList_none, List.cons_append, List.nil_append, List.append_nil, nI_1] at ih2 ⊢
        exact ih2
  rw [te_124, tb_124_0]
  exact loop C 0 (by omega)
end
