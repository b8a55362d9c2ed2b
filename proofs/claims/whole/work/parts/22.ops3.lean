/-- whether a sound melts at a place in an hour; the first such hour -/
def tw_ta (μ : tw_M) (H s p h : Nat) : Prop := tw_gi μ 12 0 s ≤ tw_ai μ H p h
noncomputable def tw_fh (q : Nat → Prop) : Nat → Nat → Int32
  | 0, _ => -9
  | d + 1, h => @ite _ (q h) (Classical.propDecidable _) (nI h) (tw_fh q d (h + 1))
theorem tw_fh_t {q : Nat → Prop} {d h : Nat} (hq : q h) : tw_fh q (d + 1) h = nI h := if_pos hq
theorem tw_fh_f {q : Nat → Prop} {d h : Nat} (hq : ¬ q h) : tw_fh q (d + 1) h = tw_fh q d (h + 1) := if_neg hq
theorem tw_fh_v {q : Nat → Prop} : ∀ (d h : Nat), tw_fh q d h = -9 ∨ ∃ t, t < h + d ∧ tw_fh q d h = nI t
  | 0, h => Or.inl rfl
  | d + 1, h => by
    by_cases hq : q h
    · exact Or.inr ⟨h, by omega, tw_fh_t hq⟩
    · rw [tw_fh_f hq]
      rcases tw_fh_v d (h + 1) with z | ⟨t, h1, h2⟩
      · exact Or.inl z
      · exact Or.inr ⟨t, by omega, h2⟩
/-- the saying's place, its sounds, as numbers -/
def tw_pl (μ : tw_M) (k : Nat) : Nat := (tw_gi μ 2 k 4).toNatClampNeg
def tw_sd (μ : tw_M) (k j : Nat) : Nat := (tw_gi μ 17 k j).toNatClampNeg
/-- the hour in which a sound was or will be heard -/
noncomputable def tw_wn (μ : tw_M) (H h k j : Nat) : Int32 := if tw_gi μ 18 k j = -1 then tw_fh (tw_ta μ H (tw_sd μ k j) (tw_pl μ k)) (99 - h) (h + 1) else tw_gi μ 18 k j
theorem tn_nlt {a b : Int32} : (a < b) = ¬ b ≤ a := by
  apply propext
  rw [Int32.lt_iff_toInt_lt, Int32.le_iff_toInt_le]
  omega
theorem tn_l1 {a b : Int32} (h : a ≤ b) : ¬ b < a := by rw [tn_nlt]; exact fun z => z h
theorem tn_l2 {a b : Int32} (h : ¬ a ≤ b) : b < a := by rw [tn_nlt]; exact h
theorem tn_bd {x : Int32} {b : Nat} (h : tw_bd x b) (hb : b ≤ 2 ^ 31) : x = nI x.toNatClampNeg ∧ x.toNatClampNeg < b := h.eq hb
section
variable {μ ν : tw_M} {x y z : Int32} {s k p h j t w P H S N C : Nat}
theorem rn_s (R : tw_Rn P H S N C h μ ν) (hk : k < C) : tw_gi μ 2 k 4 = nI (tw_pl μ k) ∧ tw_pl μ k < P ∧ ∀ j, j < tw_ln μ k → tw_gi μ 17 k j = nI (tw_sd μ k j) ∧ tw_sd μ k j < S := by
  obtain ⟨c1, c2, c3, c4, -⟩ := rn_c R
  obtain ⟨k8, q1, q2, q3, q4, q5, q6, q7⟩ := rn_k R hk
  obtain ⟨e1, e2⟩ := q2.eq (by omega)
  refine ⟨e1, e2, fun j hj => ?_⟩
  exact (q7 j hj).1.eq (by omega)
theorem s_isThawing (R : tw_Rn P H S N C h μ ν) (hs : s < S) (hp : p < P) (ht : t < 2 ^ 30) : tw_call 72 [tw_R 3 0, tw_R 0 0, tw_I (nI s), tw_I (nI p), tw_I (nI t)] μ = some (some (tw_I (@ite _ (tw_ta μ H s p t) (Classical.propDecidable _) 1 0)), μ) := by
  obtain ⟨c1, c2, c3, c4, e5, e6, e7, e8, -⟩ := rn_c R
  simp only [te_72, tb_72_0, tb_72_8, tb_72_16, tb_72_23, tb_72_19, tb_72_24, s_at (k := 12) rfl, tw_rd_p (μ := μ) (k := 12) (n := 0) 5 rfl (show s < 5 by omega), s_airIn e6 c2 ht (show p < 4 by omega), Option.bind_some, Option.toList_some, Option.toList_none, List.cons_append, List.nil_append, List.append_nil, tn_bo0, tn_bo1, tn_nlt]
  unfold tw_ta
  by_cases q : tw_gi μ 12 0 s ≤ tw_ai μ H p t
  · rw [if_neg (fun z => z q), if_pos q]
  · rw [if_pos q, if_neg q]
theorem s_hourOf (R : tw_Rn P H S N C h μ ν) (hk : k < C) (hj : j < tw_ln μ k) : tw_call 73 [tw_R 3 0, tw_R 0 0, tw_R 2 k, tw_I (nI j)] μ = some (some (tw_I (tw_wn μ H h k j)), μ) := by
  obtain ⟨k8, q1, q2, q3, q4, q5, q6, q7⟩ := rn_k R hk
  obtain ⟨p1, p2, p3⟩ := rn_s R hk
  obtain ⟨s1, s2⟩ := p3 j hj
  obtain ⟨g1, g2, g3, g4, -⟩ := rn_0 R
  have loop : ∀ (d t : Nat), t + d = 100 → tw_run 73 25 [some (tw_R 3 0), some (tw_R 0 0), some (tw_R 2 k), some (tw_I (nI j)), some (tw_I (nI t))] [] μ = some (some (tw_I (tw_fh (tw_ta μ H (tw_sd μ k j) (tw_pl μ k)) d t)), μ) := by
    intro d
    induction d with
    | zero =>
      intro t ht
      have : t = 100 := by omega
      subst this
      rw [tb_73_25, if_pos (show (99 : Int32) < nI 100 by decide), tb_73_63]
      rfl
    | succ d ih =>
      intro t ht
      have ih2 := ih (t + 1) (by omega)
      have e1 : ¬ (99 : Int32) < nI t := nI_nlt (b := t) (a := 99) (by omega) (by omega)
      rw [tb_73_25, if_neg e1, tb_73_32, s_at (k := 17) rfl, tw_rd_p (μ := μ) (k := 17) (n := k) 4 rfl (show j < 4 by omega), s1]
      simp only [Option.bind_some, Option.toList_some, Option.toList_none, List.cons_append, List.nil_append, List.append_nil, tb_73_42, p1, s_isThawing R s2 p2 (show t < 2 ^ 30 by omega), tb_73_51]
      by_cases hq : tw_ta μ H (tw_sd μ k j) (tw_pl μ k) t
      · rw [tw_fh_t hq, if_pos hq, if_neg (by decide), tb_73_54]
      · rw [tw_fh_f hq, if_neg hq, if_pos rfl, tb_73_57, nI_1]
        exact ih2
  unfold tw_wn
  rw [te_73, tb_73_0, s_hangs (by omega)]
  simp only [Option.bind_some, Option.toList_some, Option.toList_none, List.cons_append, List.nil_append, List.append_nil, tb_73_5, tn_z]
  by_cases hh : tw_gi μ 18 k j = -1
  · rw [if_neg (fun z => z hh), if_pos hh, tb_73_17, g4, nI_1, loop (99 - h) (h + 1) (by omega)]
  · rw [if_pos hh, if_neg hh, tb_73_8, s_at (k := 18) rfl, tw_rd_p (μ := μ) (k := 18) (n := k) 4 rfl (show j < 4 by omega)]
    simp only [Option.bind_some, Option.toList_some, Option.toList_none, List.cons_append, List.nil_append, List.append_nil, tb_73_16]
theorem m_hourFrom (R : tw_Rn P H S N C h μ ν) (hs : s < S) (hp : p < P) (ht : t ≤ 100) : tw_call 143 [tw_R 6 0, tw_I (nI t), tw_I (nI p), tw_I (nI s)] ν = some (some (tw_I (tw_fh (tw_ta μ H s p) (100 - t) t)), ν) := by
  obtain ⟨c1, c2, c3, c4, -⟩ := rn_c R
  obtain ⟨g1, g2, g3, g4, g5, g6, g7⟩ := rn_0 R
  have hcol := R.2.1.2.2.2.2.1 p hp
  have hmel := R.2.1.2.2.2.2.2.2.1 s hs
  have loop : ∀ (d t : Nat) (o1 o5 : Option tw_V), t + d = 100 → tw_run 143 3 [some (tw_R 6 0), o1, some (tw_I (nI p)), some (tw_I (nI s)), some (tw_I (nI t)), o5] [] ν = some (some (tw_I (tw_fh (tw_ta μ H s p) d t)), ν) := by
    intro d
    induction d with
    | zero =>
      intro t o1 o5 ht
      have : t = 100 := by omega
      subst this
      rw [tb_143_3, if_pos (show (100 : Int32) ≤ nI 100 by decide), tb_143_64]
      rfl
    | succ d ih =>
      intro t o1 o5 ht
      have e1 : ¬ (100 : Int32) ≤ nI t := nI_ge (a := t) (b := 100) (by omega) (by omega)
      have fin : ∀ o5 : Option tw_V, tw_run 143 42 [some (tw_R 6 0), o1, some (tw_I (nI p)), some (tw_I (nI s)), some (tw_I (nI t)), o5] [tw_I (tw_ai μ H p t)] ν = some (some (tw_I (tw_fh (tw_ta μ H s p) (d + 1) t)), ν) := by
        intro o5
        rw [tb_143_42, if_pos (show tw_in (nI s) (tw_al 33) from tn_in (show s < 10 by omega) (by decide)), nI_clamp (by omega), tb_143_50, hmel]
        by_cases hq : tw_ta μ H s p t
        · rw [tw_fh_t hq, if_neg (tn_l1 hq), tb_143_55]
        · rw [tw_fh_f hq, if_pos (tn_l2 hq), tb_143_58, nI_1]
          exact ih (t + 1) _ _ (by omega)
      rw [tb_143_3, if_neg e1, tb_143_10, g5]
      by_cases z : t = h
      · subst z
        rw [if_pos rfl, tb_143_21, m_air R hp]
        simp only [Option.bind_some, Option.toList_some, Option.toList_none, List.cons_append, List.nil_append, List.append_nil, tb_143_26]
        exact fin _
      · rw [if_neg (fun q => z ((nI_eq (by omega) (by omega)).mp q)), tb_143_29, m_warmthIn R (show t < 2 ^ 30 by omega)]
        simp only [Option.bind_some, Option.toList_some, Option.toList_none, List.cons_append, List.nil_append, List.append_nil, tb_143_35, if_pos (show tw_in (nI p) (tw_al 31) from tn_in (show p < 8 by omega) (by decide)), tb_143_41, show (nI p).toNatClampNeg = p from nI_clamp (by omega), hcol]
        have e2 : tw_ai μ H p t = tw_wt μ H t - tw_gi μ 10 0 p := by
          unfold tw_ai
          rw [if_neg]
          · rfl
          · rintro ⟨q, -⟩
            rw [g4] at q
            exact z ((nI_eq (by omega) (by omega)).mp q)
        rw [← e2]
        exact fin _
  rw [te_143, tb_143_0]
  exact loop (100 - t) t _ _ (by omega)
theorem tn_neg1 (t : Nat) (ht : t < 2 ^ 31) : ¬ nI t = -1 := by
  intro q
  have := congrArg Int32.toInt q
  rw [nI_toInt ht] at this
  have h2 : ((-1 : Int32)).toInt = -1 := rfl
  omega
theorem tn_neg9 (t : Nat) (ht : t < 2 ^ 31) : ¬ nI t = -9 := by
  intro q
  have := congrArg Int32.toInt q
  rw [nI_toInt ht] at this
  have h2 : ((-9 : Int32)).toInt = -9 := rfl
  omega
theorem m_whenOf (R : tw_Rn P H S N C h μ ν) (hk : k < C) (hj : j < tw_ln μ k) : tw_call 144 [tw_R 6 0, tw_I (nI k), tw_I (nI j)] ν = some (some (tw_I (tw_wn μ H h k j)), ν) := by
  obtain ⟨k8, q1, q2, q3, q4, q5, q6, q7⟩ := rn_k R hk
  obtain ⟨r0, r1, r2, r3, r4, -, r6⟩ := rn_ke R hk
  obtain ⟨p1, p2, p3⟩ := rn_s R hk
  obtain ⟨s1, s2⟩ := p3 j hj
  obtain ⟨g1, g2, g3, g4, g5, g6, g7⟩ := rn_0 R
  unfold tw_wn
  have hj4 : j < 4 := by omega
  have g5' : nI h + 1 = nI (h + 1) := nI_1 h
  rcases (q7 j hj).2 with hh | ⟨t, ht, hh⟩
  · rw [if_pos hh]
    have e0 : (-1 : Int32) < 0 := by decide
    have e9 : 100 - (h + 1) = 99 - h := by omega
    have := m_hourFrom R s2 p2 (show h + 1 ≤ 100 by omega)
    rw [e9] at this
    simp only [te_144, tb_144_0, tb_144_9, tb_144_24, tb_144_12, tb_144_39, tb_144_21, tb_144_47, tb_144_50, m_at9 k8 hj4, m_at5 k8 hj4, m_at1 k8, (r6 j hj).1, (r6 j hj).2, r1, hh, if_pos e0, p1, s1, g5, g5', this, Option.bind_some, Option.toList_some, Option.toList_none, List.cons_append, List.nil_append, List.append_nil]
  · have e0 : ¬ nI t < 0 := nI_pos (by omega)
    have e1 : ¬ nI t = -1 := tn_neg1 t (by omega)
    rw [hh, if_neg e1]
    simp only [te_144, tb_144_0, tb_144_9, tb_144_24, tb_144_12, tb_144_39, tb_144_21, tb_144_47, tb_144_50, m_at9 k8 hj4, (r6 j hj).2, hh, if_neg e0, Option.bind_some, Option.toList_some, Option.toList_none, List.cons_append, List.nil_append, List.append_nil]
theorem tn_wn (R : tw_Rn P H S N C h μ ν) (hk : k < C) (hj : j < tw_ln μ k) : tw_wn μ H h k j = -9 ∨ ∃ t, t < 100 ∧ tw_wn μ H h k j = nI t := by
  obtain ⟨k8, q1, q2, q3, q4, q5, q6, q7⟩ := rn_k R hk
  obtain ⟨g1, g2, -⟩ := rn_0 R
  unfold tw_wn
  rcases (q7 j hj).2 with hh | ⟨t, ht, hh⟩
  · rw [if_pos hh]
    rcases tw_fh_v (q := tw_ta μ H (tw_sd μ k j) (tw_pl μ k)) (99 - h) (h + 1) with z | ⟨t, h1, h2⟩
    · exact Or.inl z
    · exact Or.inr ⟨t, by omega, h2⟩
  · rw [hh, if_neg (tn_neg1 t (by omega))]
    exact Or.inr ⟨t, ht, rfl⟩
theorem op_when (R0 : tw_Rl μ ν) : tw_Jn 74 145 [tw_I x, tw_I y] μ ν := by
  obtain ⟨P, H, S, N, C, h, T, R, -⟩ := id R0
  have R' := R.th
  obtain ⟨g1, g2, g3, g4, g5, g6, g7⟩ := rn_0 R'
  have hC : C < 2 ^ 31 := by omega
  by_cases hx : tw_in x C
  · have hb := tw_ib_t hx
    obtain ⟨k, hk, rfl⟩ := tn_of_in hx (by omega)
    obtain ⟨k8, q1, q2, q3, q4, q5, q6, -⟩ := rn_k R' hk
    obtain ⟨r0, r1, r2, r3, r4, -, r6⟩ := rn_ke R' hk
    have es := s_sayingAt_t (i := 0) g3 g1 hk
    rw [Nat.mul_zero, Nat.zero_add] at es
    have hl31 : tw_ln μ k < 2 ^ 31 := by omega
    by_cases hy : tw_in y (tw_ln μ k)
    · have hyb := tw_ib_t hy
      obtain ⟨y0, y1⟩ := tn_in_lt hl31 hy
      obtain ⟨j, hj, rfl⟩ := tn_of_in hy hl31
      have y2 : nI j < nI (tw_ln μ k) := nI_lt hj hl31
      refine tw_J_of R0 (r := tw_I (tw_wn μ H h k j)) ?_ ?_
      · simp only [te_74, tb_74_0, tb_74_8, tb_74_8a, tb_74_13, tb_74_25, tb_74_17, tb_74_27, tb_74_40, es, if_neg y0, q4, if_pos y2, s_hourOf R' hk hj, Option.bind_some, Option.toList_some, Option.toList_none, List.cons_append, List.nil_append, List.append_nil]
      · simp only [te_145, tb_145_0, tb_145_10, tb_145_38, tb_145_13, tb_145_39, tb_145_21, tb_145_26, tb_145_29, tb_145_35, tw_thf, m_isSaying g7 hC, if_neg hb, m_at4 k8, r4, q4, m_in hl31 (tn_p1 hl31), if_neg hyb, m_whenOf R' hk hj, Option.bind_some, Option.toList_some, Option.toList_none, List.cons_append, List.nil_append, List.append_nil]
    · refine tw_J_of R0 (r := tw_I (-1)) ?_ ?_
      · by_cases y0 : y < 0
        · simp only [te_74, tb_74_0, tb_74_8, tb_74_8a, tb_74_13, tb_74_25, tb_74_17, tb_74_27, tb_74_40, es, if_pos y0, Option.bind_some, Option.toList_some, Option.toList_none, List.cons_append, List.nil_append, List.append_nil]
        · have y1 : ¬ y < nI (tw_ln μ k) := by
            rw [tn_nlt]
            intro z
            exact hy (tn_out hl31 y0 z)
          simp only [te_74, tb_74_0, tb_74_8, tb_74_8a, tb_74_13, tb_74_25, tb_74_17, tb_74_27, tb_74_40, es, if_neg y0, q4, if_neg y1, Option.bind_some, Option.toList_some, Option.toList_none, List.cons_append, List.nil_append, List.append_nil]
      · simp only [te_145, tb_145_0, tb_145_10, tb_145_38, tb_145_13, tb_145_39, tb_145_21, tb_145_26, tb_145_29, tb_145_35, tw_thf, m_isSaying g7 hC, if_neg hb, m_at4 k8, r4, q4, m_in hl31 (tn_p1 hl31), if_pos (tw_ib_f hy), Option.bind_some, Option.toList_some, Option.toList_none, List.cons_append, List.nil_append, List.append_nil]
  · refine tw_J_of R0 (r := tw_I (-1)) ?_ ?_
    · simp only [te_74, tb_74_0, tb_74_8, tb_74_8a, tb_74_13, tb_74_25, tb_74_17, tb_74_27, tb_74_40, s_sayingAt_f g3 g1 hx, Option.bind_some, Option.toList_some, Option.toList_none, List.cons_append, List.nil_append, List.append_nil]
    · simp only [te_145, tb_145_0, tb_145_10, tb_145_38, tb_145_13, tb_145_39, tb_145_21, tb_145_26, tb_145_29, tb_145_35, tw_thf, m_isSaying g7 hC, if_pos (tw_ib_f hx), Option.bind_some, Option.toList_some, Option.toList_none, List.cons_append, List.nil_append, List.append_nil]
theorem op_whole (R0 : tw_Rl μ ν) : tw_Jn 75 146 [tw_I x] μ ν := by
  obtain ⟨P, H, S, N, C, h, T, R, -⟩ := id R0
  have R' := R.th
  obtain ⟨g1, g2, g3, g4, g5, g6, g7⟩ := rn_0 R'
  have hC : C < 2 ^ 31 := by omega
  by_cases hx : tw_in x C
  · have hb := tw_ib_t hx
    obtain ⟨k, hk, rfl⟩ := tn_of_in hx (by omega)
    obtain ⟨k8, q1, q2, q3, q4, q5, q6, -⟩ := rn_k R' hk
    obtain ⟨r0, r1, r2, r3, r4, -, r6⟩ := rn_ke R' hk
    have es := s_sayingAt_t (i := 0) g3 g1 hk
    rw [Nat.mul_zero, Nat.zero_add] at es
    have loop : ∀ (d j t : Nat) (o1 o5 o4 : Option tw_V), j + d = tw_ln μ k → t < 100 → ∃ r : Int32, tw_run 75 20 [some (tw_R 5 0), o1, some (tw_R 2 k), some (tw_I (nI t)), some (tw_I (nI j)), o5] [] μ = some (some (tw_I r), μ) ∧ tw_run 146 19 [some (tw_R 6 0), some (tw_I (nI k)), some (tw_I (nI t)), some (tw_I (nI j)), o4] [] (tw_th ν) = some (some (tw_I r), tw_th ν) := by
      intro d
      induction d with
      | zero =>
        intro j t o1 o5 o4 hj ht
        have hj2 : j = tw_ln μ k := by omega
        have e1 : nI (tw_ln μ k) ≤ nI j := nI_le (by omega) (by omega)
        refine ⟨nI t, ?_, ?_⟩
        · rw [tb_75_20, q4, if_pos e1, tb_75_68]
        · rw [tb_146_19, m_at4 k8]
          simp only [Option.bind_some, Option.toList_some, Option.toList_none, List.cons_append, List.nil_append, List.append_nil, tb_146_26, r4, q4, if_pos e1, tb_146_74]
      | succ d ih =>
        intro j t o1 o5 o4 hj ht
        have hj2 : j < tw_ln μ k := by omega
        have e1 : ¬ nI (tw_ln μ k) ≤ nI j := nI_ge hj2 (by omega)
        have e9 : ¬ nI t = -9 := tn_neg9 t (by omega)
        rcases tn_wn R' hk hj2 with hw | ⟨u, hu, hw⟩
        · refine ⟨-9, ?_, ?_⟩
          · rw [tb_75_20, q4, if_neg e1, tb_75_29, s_hourOf R' hk hj2]
            simp only [Option.bind_some, Option.toList_some, Option.toList_none, List.cons_append, List.nil_append, List.append_nil, tb_75_43, hw, if_pos, tb_75_52]
          · rw [tb_146_19, m_at4 k8]
            simp only [Option.bind_some, Option.toList_some, Option.toList_none, List.cons_append, List.nil_append, List.append_nil, tb_146_26, r4, q4, if_neg e1, tb_146_29, if_neg e9, tb_146_35, m_whenOf R' hk hj2, tb_146_41, hw, if_pos, tb_146_50, tb_146_67, nI_1]
            rw [tb_146_19, m_at4 k8]
            simp only [Option.bind_some, Option.toList_some, Option.toList_none, List.cons_append, List.nil_append, List.append_nil, tb_146_26, r4, q4, tb_146_29, if_pos, tb_146_74]
            split <;> rfl
        · have u9 : ¬ nI u = -9 := tn_neg9 u (by omega)
          by_cases hut : u ≤ t
          · obtain ⟨r, h1, h2⟩ := ih (j + 1) t o1 (some (tw_I (nI u))) (some (tw_I (nI u))) (by omega) ht
            have f1 : nI u ≤ nI t := nI_le hut (by omega)
            have f2 : ¬ nI t < nI u := nI_nlt hut (by omega)
            refine ⟨r, ?_, ?_⟩
            · rw [tb_75_20, q4, if_neg e1, tb_75_29, s_hourOf R' hk hj2]
              simp only [Option.bind_some, Option.toList_some, Option.toList_none, List.cons_append, List.nil_append, List.append_nil, tb_75_43, hw, if_neg u9, tb_75_55, if_neg f2, nI_1]
              exact h1
            · rw [tb_146_19, m_at4 k8]
              simp only [Option.bind_some, Option.toList_some, Option.toList_none, List.cons_append, List.nil_append, List.append_nil, tb_146_26, r4, q4, if_neg e1, tb_146_29, if_neg e9, tb_146_35, m_whenOf R' hk hj2, tb_146_41, hw, if_neg u9, tb_146_55, if_pos f1, tb_146_66, tb_146_67, nI_1]
              exact h2
          · obtain ⟨r, h1, h2⟩ := ih (j + 1) u o1 (some (tw_I (nI u))) (some (tw_I (nI u))) (by omega) hu
            have f1 : ¬ nI u ≤ nI t := nI_ge (by omega) (by omega)
            have f2 : nI t < nI u := nI_lt (by omega) (by omega)
            refine ⟨r, ?_, ?_⟩
            · rw [tb_75_20, q4, if_neg e1, tb_75_29, s_hourOf R' hk hj2]
              simp only [Option.bind_some, Option.toList_some, Option.toList_none, List.cons_append, List.nil_append, List.append_nil, tb_75_43, hw, if_neg u9, tb_75_55, if_pos f2, nI_1]
              exact h1
            · rw [tb_146_19, m_at4 k8]
              simp only [Option.bind_some, Option.toList_some, Option.toList_none, List.cons_append, List.nil_append, List.append_nil, tb_146_26, r4, q4, if_neg e1, tb_146_29, if_neg e9, tb_146_35, m_whenOf R' hk hj2, tb_146_41, hw, if_neg u9, tb_146_55, if_neg f1, tb_146_61, tb_146_67, nI_1]
              exact h2
    obtain ⟨r, h1, h2⟩ := loop (tw_ln μ k) 0 0 (tw_k (some (tw_I (nI k)))) none none (by omega) (by omega)
    refine tw_J_of R0 (r := tw_I r) ?_ ?_
    · simp only [tb_75_0, tb_75_8, tb_75_8a, tb_75_15, te_75, es, Option.bind_some, Option.toList_some, Option.toList_none, List.cons_append, List.nil_append, List.append_nil]
      exact h1
    · simp only [tb_146_0, tb_146_10, tb_146_15, te_146, tw_thf, m_isSaying g7 hC, if_neg hb, Option.bind_some, Option.toList_some, Option.toList_none, List.cons_append, List.nil_append, List.append_nil]
      exact h2
  · refine tw_J_of R0 (r := tw_I (-1)) ?_ ?_
    · simp only [tb_75_0, tb_75_8, tb_75_8a, tb_75_13, te_75, s_sayingAt_f g3 g1 hx, Option.bind_some, Option.toList_some, Option.toList_none, List.cons_append, List.nil_append, List.append_nil]
    · simp only [tb_146_0, tb_146_10, tb_146_13, te_146, tw_thf, m_isSaying g7 hC, if_pos (tw_ib_f hx), Option.bind_some, Option.toList_some, Option.toList_none, List.cons_append, List.nil_append, List.append_nil]
end
