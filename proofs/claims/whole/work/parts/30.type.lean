/-! type -/
section
variable {μ μ' ν ν' : tw_M} {x y z u v : Int32} {s k p h j t w n P H S N C T i : Nat}
theorem s_add (hT : T < 300) (e : tw_gi μ 4 0 1 = nI T) : tw_call 1 [tw_R 4 0, tw_I v] μ = some (none, tw_si (tw_si μ 20 0 T v) 4 0 1 (nI (T + 1))) := by
  rw [te_1, tb_1_0, e, s_put (k := 20) rfl, tw_wr_n (k := 20) (show T < tw_al 20 from hT)]
  simp only [Option.bind_some, Option.toList_some, Option.toList_none, List.cons_append, List.nil_append, List.append_nil, tb_1_12]
  rw [tw_gi_ne (by omega), e, nI_1]
theorem tn_255 (a : Int64) : (a &&& 255).toInt32 = a.toInt32 &&& 255 := by
  rw [Int64.toInt32_and]
  rfl
theorem ux_typ {V : Int64} : ∀ (d T : Nat) (μ ν : tw_M) (o2 o3 q2 q3 : Option tw_V), T + d ≤ 300 → tw_Et T μ ν → ∃ μ' ν', tw_run 2 36 [some (tw_R 5 0), some (tw_J V), o2, o3, some (tw_I (nI d + (-1)))] [] μ = some (some (tw_I (nI (T + d))), μ') ∧ tw_run 104 37 [some (tw_R 6 0), some (tw_J V), q2, q3, some (tw_I (nI d + (-1)))] [] ν = some (some (tw_I (nI (T + d))), ν') ∧ tw_Et (T + d) μ' ν' ∧ ux_fr ux_txt μ μ' ∧ ux_fr ux_mtx ν ν' := by
  intro d
  induction d with
  | zero =>
    intro T μ ν o2 o3 q2 q3 hT Tt
    refine ⟨μ, ν, ?_, ?_, Tt, ux_fr.rf, ux_fr.rf⟩
    · rw [tb_2_36, if_pos (by decide), tb_2_66, Tt.2.1]
      rfl
    · rw [tb_104_37, if_pos (by decide), tb_104_79, Tt.2.2.1]
      rfl
  | succ d ih =>
    intro T μ ν o2 o3 q2 q3 hT Tt
    obtain ⟨w, hw⟩ : ∃ w : Int32, w = (V >>> (((8 : Int32) * nI d).toInt64 &&& 63)).toInt32 &&& 255 := ⟨_, rfl⟩
    have hw2 : ((V >>> (((8 : Int32) * nI d).toInt64 &&& 63)) &&& 255).toInt32 = w := by rw [tn_255, hw]
    have hwb : tw_bd w 256 := by
      rw [hw]
      obtain ⟨j, hj, e⟩ := pk_andE (V >>> (((8 : Int32) * nI d).toInt64 &&& 63)).toInt32 (m := 255) 8 (by decide)
      exact ⟨j, hj, e⟩
    have Tt2 : tw_Et (T + 1) (tw_si (tw_si μ 20 0 T w) 4 0 1 (nI (T + 1))) (tw_si (tw_si ν 30 0 T w) 6 0 3 (nI (T + 1))) := by
      refine ⟨by omega, tw_gi_eq, tw_gi_eq, fun j hj => ?_⟩
      rw [tw_gi_ne (k' := 20) (by omega), tw_gi_ne (k' := 30) (by omega)]
      by_cases z : j = T
      · subst z
        rw [tw_gi_eq, tw_gi_eq]
        exact ⟨hwb, rfl⟩
      · rw [tw_gi_ne (k' := 20) (by omega), tw_gi_ne (k' := 30) (by omega)]
        exact Tt.2.2.2 j (by omega)
    obtain ⟨μ', ν', h1, h2, h3, h4, h5⟩ := ih (T + 1) _ _ o2 (tw_k o3) q2 (tw_k q3) (by omega) Tt2
    rw [show T + 1 + d = T + (d + 1) by omega] at h1 h2 h3
    have e1 : ¬ nI d < 0 := nI_pos (by omega)
    refine ⟨μ', ν', ?_, ?_, h3, ((ux_fr.rf.si ⟨rfl, Or.inr rfl⟩).si ⟨rfl, Or.inl rfl⟩).tr h4, ((ux_fr.rf.si (Or.inr rfl)).si (Or.inl ⟨rfl, rfl⟩)).tr h5⟩
    · rw [pk_m1, tb_2_36, if_neg e1, tb_2_41, ← hw, s_add (show T < 300 by omega) Tt.2.1]
      simp only [Option.bind_some, Option.toList_some, Option.toList_none, List.cons_append, List.nil_append, List.append_nil, tb_2_60]
      exact h1
    · rw [pk_m1, tb_104_37, if_neg e1, tb_104_42, Tt.2.2.1, if_pos (show tw_in (nI T) (tw_al 30) from tn_in (show T < 300 by omega) (by decide)), nI_clamp (by omega), hw2, tb_104_63, tw_gi_ne (k' := 6) (by omega), Tt.2.2.1, nI_1]
      exact h2
theorem tn_r8 : ∀ j, j < 8 → ¬ nI (j + 1) < 1 ∧ nI (j + 1) ≤ 8 ∧ ¬ 8 < nI (j + 1) := by decide
theorem tn_r8n (h : ¬ ∃ j, j < 8 ∧ v = nI (j + 1)) : v < 1 ∨ (¬ v < 1 ∧ ¬ v ≤ 8) := by
  by_cases h0 : v < 1
  · exact Or.inl h0
  · refine Or.inr ⟨h0, fun q => h ?_⟩
    have h1 : ¬ v < 0 := by
      rw [Int32.lt_iff_toInt_lt] at h0 ⊢
      have : (1 : Int32).toInt = 1 := rfl
      have : (0 : Int32).toInt = 0 := rfl
      omega
    obtain ⟨j, hj, e⟩ := nI_of2 (M := 8) (n := 8) rfl h1 q
    rcases j with _ | j
    · rw [e] at h0
      exact absurd (show nI 0 < 1 by decide) h0
    · exact ⟨j, by omega, e⟩
theorem op_type {V : Int64} (R0 : tw_Rl μ ν) : tw_Jn 2 104 [tw_J V, tw_I x] μ ν := by
  obtain ⟨P, H, S, N, C, h, T, R, Tt, Ei, Tr⟩ := id R0
  have Tt' := Tt.th
  have hT := Tt.1
  by_cases hx : ∃ j, j < 8 ∧ x = nI (j + 1)
  · obtain ⟨j, hj, rfl⟩ := hx
    obtain ⟨u1, u2, u3⟩ := tn_r8 j hj
    have sb : nI (j + 1) - 1 = nI (j + 1) + (-1) := Int32.sub_eq_add_neg _ _
    by_cases z : T + (j + 1) ≤ 300
    · obtain ⟨μ', ν', h1, h2, h3, h4, h5⟩ := ux_typ (V := V) (j + 1) T μ (tw_th ν) none (some (tw_I (nI (j + 1)))) none (some (tw_I (nI (j + 1)))) z Tt'
      refine ⟨tw_I (nI (T + (j + 1))), μ', ν', ?_, ?_, R0.th.txt h4 h5 h3⟩
      · rw [te_2, tb_2_0, if_neg u1, tb_2_5, if_pos u2, tb_2_13, Tt.2.1, nI_add, if_pos (show nI (T + (j + 1)) ≤ (300 : Int32) from nI_le (b := 300) z (by omega)), tb_2_31, sb]
        exact h1
      · rw [te_104, tb_104_0, tw_thf, m_in0, if_neg u1, if_neg u3]
        simp only [Option.bind_some, Option.toList_some, Option.toList_none, List.cons_append, List.nil_append, List.append_nil, tb_104_12]
        rw [if_neg (by decide), tb_104_17, Tt'.2.2.1, nI_add, if_pos (show nI (T + (j + 1)) ≤ (300 : Int32) from nI_le (b := 300) z (by omega)), tb_104_32, sb]
        exact h2
    · refine tw_J_of R0 (r := tw_I (-3)) ?_ ?_
      · rw [te_2, tb_2_0, if_neg u1, tb_2_5, if_pos u2, tb_2_13, Tt.2.1, nI_add, if_neg (show ¬ nI (T + (j + 1)) ≤ (300 : Int32) from nI_ge (a := 300) (by omega) (by omega)), tb_2_28]
      · rw [te_104, tb_104_0, tw_thf, m_in0, if_neg u1, if_neg u3]
        simp only [Option.bind_some, Option.toList_some, Option.toList_none, List.cons_append, List.nil_append, List.append_nil, tb_104_12]
        rw [if_neg (by decide), tb_104_17, Tt'.2.2.1, nI_add, if_neg (show ¬ nI (T + (j + 1)) ≤ (300 : Int32) from nI_ge (a := 300) (by omega) (by omega)), tb_104_29]
  · refine tw_J_of R0 (r := tw_I (-1)) ?_ ?_
    · rcases tn_r8n hx with q | ⟨q1, q2⟩
      · rw [te_2, tb_2_0, if_pos q, tb_2_11]
      · rw [te_2, tb_2_0, if_neg q1, tb_2_5, if_neg q2, tb_2_11]
    · rw [te_104, tb_104_0, tw_thf, m_in0]
      have e : (if x < 1 then (0 : Int32) else if 8 < x then 0 else 1) = 0 := by
        rcases tn_r8n hx with w | ⟨w1, w2⟩
        · rw [if_pos w]
        · rw [if_neg w1, if_pos (tn_l2 w2)]
      simp only [Option.bind_some, Option.toList_some, Option.toList_none, List.cons_append, List.nil_append, List.append_nil, tb_104_12, e, if_pos, tb_104_15]
end
