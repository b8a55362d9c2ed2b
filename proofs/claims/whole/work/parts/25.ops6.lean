/-! rate; what lanterns -/
theorem tw_sl_sl {μ : tw_M} {k : Nat} {a b : Int64} : tw_sl (tw_sl μ k a) k b = tw_sl μ k b := by
  unfold tw_sl
  refine Prod.ext rfl ?_
  funext k'
  dsimp only
  by_cases z : k' = k
  · rw [if_pos z, if_pos z]
  · rw [if_neg z, if_neg z, if_neg z]
theorem tw_gl_ss {μ : tw_M} {k : Nat} {v : Int64} : tw_gl (tw_sl μ k v) k = v := if_pos rfl
theorem tw_Rl.tr {μ ν : tw_M} (R : tw_Rl μ ν) (v : Int64) : tw_Rl (tw_sl μ 5 v) (tw_sl ν 6 v) := by
  obtain ⟨P, H, S, N, C, h, T, h1, h2, h3, -⟩ := R
  exact ⟨P, H, S, N, C, h, T, h1, h2, h3, by rw [tw_gl_ss, tw_gl_ss]⟩
section
variable {μ ν : tw_M} {x y z : Int32} {s k p h j t w n P H S N C : Nat}
theorem s_rate0 : tw_call 87 [tw_R 5 0, tw_R 2 n] μ = some (some (tw_I (tw_gi μ 2 n 2)), tw_sl μ 5 (tw_gl μ 5 + 1)) := by
  simp only [te_87, tb_87_0, tw_gi_sl]
theorem s_rate1 : tw_call 88 [tw_R 5 0, tw_R 2 n] μ = some (some (tw_I (tw_gi μ 2 n 2 - tw_gi μ 2 n 6)), tw_sl μ 5 (tw_gl μ 5 + 11)) := by
  simp only [te_88, tb_88_0, tb_88_17, s_rate0, Option.bind_some, Option.toList_some, Option.toList_none, List.cons_append, List.nil_append, List.append_nil, tw_gi_sl, tw_gl_ss, tw_sl_sl, Int64.add_assoc]
  rfl
theorem s_rate2 (hl : tw_bd (tw_gi μ 2 n 2) 5) : tw_call 89 [tw_R 5 0, tw_R 2 n] μ = some (some (tw_I (tw_gi μ 2 n 2 + nI (tw_hg μ n))), tw_sl μ 5 (tw_gl μ 5 + 101)) := by
  have hh : ∀ v : Int64, tw_call 42 [tw_R 2 n] (tw_sl μ 5 v) = some (some (tw_I (nI (tw_hg μ n))), tw_sl μ 5 v) := fun v => s_hanging (μ := tw_sl μ 5 v) hl
  simp only [te_89, tb_89_0, tb_89_17, tb_89_21, s_rate0, Option.bind_some, Option.toList_some, Option.toList_none, List.cons_append, List.nil_append, List.append_nil, tw_gi_sl, tw_gl_ss, tw_sl_sl, Int64.add_assoc, hh]
  rfl
theorem s_rate3 : tw_call 90 [tw_R 5 0, tw_R 2 n] μ = some (some (tw_I (2 * (tw_gi μ 2 n 2 - tw_gi μ 2 n 6))), tw_sl μ 5 (tw_gl μ 5 + 1011)) := by
  simp only [te_90, tb_90_0, tb_90_18, s_rate1, Option.bind_some, Option.toList_some, Option.toList_none, List.cons_append, List.nil_append, List.append_nil, tw_gi_sl, tw_gl_ss, tw_sl_sl, Int64.add_assoc]
  rfl
theorem s_rate4 (hl : tw_bd (tw_gi μ 2 n 2) 5) : tw_call 91 [tw_R 5 0, tw_R 2 n] μ = some (some (tw_I (tw_gi μ 2 n 2 + nI (tw_hg μ n) + tw_gi μ 2 n 5)), tw_sl μ 5 (tw_gl μ 5 + 10101)) := by
  have hh : ∀ v : Int64, tw_call 89 [tw_R 5 0, tw_R 2 n] (tw_sl μ 5 v) = some (some (tw_I (tw_gi μ 2 n 2 + nI (tw_hg μ n))), tw_sl (tw_sl μ 5 v) 5 (tw_gl (tw_sl μ 5 v) 5 + 101)) := fun v => s_rate2 (μ := tw_sl μ 5 v) hl
  simp only [te_91, tb_91_0, tb_91_17, hh, Option.bind_some, Option.toList_some, Option.toList_none, List.cons_append, List.nil_append, List.append_nil, tw_gi_sl, tw_gl_ss, tw_sl_sl, Int64.add_assoc]
  rfl
theorem s_rate5 : tw_call 92 [tw_R 5 0, tw_R 2 n] μ = some (some (tw_I (tw_gi μ 2 n 2 - tw_gi μ 2 n 4)), tw_sl μ 5 (tw_gl μ 5 + 100001)) := by
  simp only [te_92, tb_92_0, tb_92_17, s_rate0, Option.bind_some, Option.toList_some, Option.toList_none, List.cons_append, List.nil_append, List.append_nil, tw_gi_sl, tw_gl_ss, tw_sl_sl, Int64.add_assoc]
  rfl
theorem tw_J_tr {j m : Nat} {as : List tw_V} {μ ν : tw_M} {r : tw_V} {c : Int64} (R : tw_Rl μ ν) (h1 : tw_call j (tw_R 5 0 :: as) μ = some (some r, tw_sl μ 5 (tw_gl μ 5 + c))) (h2 : tw_call m (tw_R 6 0 :: as) ν = some (some r, tw_sl (tw_th ν) 6 (tw_gl (tw_th ν) 6 + c))) : tw_Jn j m as μ ν := by
  refine ⟨r, _, _, h1, h2, ?_⟩
  have e : tw_gl μ 5 = tw_gl (tw_th ν) 6 := by
    obtain ⟨P, H, S, N, C, h, T, -, -, -, h4⟩ := R.th
    exact h4
  rw [e]
  exact R.th.tr _
theorem op_rate (R0 : tw_Rl μ ν) : tw_Jn 93 154 [tw_I y, tw_I x] μ ν := by
  obtain ⟨P, H, S, N, C, h, T, R, -⟩ := id R0
  have R' := R.th
  obtain ⟨g1, g2, g3, g4, g5, g6, g7⟩ := rn_0 R'
  have hC : C < 2 ^ 31 := by omega
  by_cases hx : tw_in x C
  · have hb := tw_ib_t hx
    obtain ⟨k, hk, rfl⟩ := tn_of_in hx (by omega)
    obtain ⟨k8, q1, q2, q3, q4, q5, q6, -⟩ := rn_k R' hk
    obtain ⟨r0, r1, r2, r3, r4, r5, r6⟩ := rn_ke R' hk
    have es := s_sayingAt_t (i := 0) g3 g1 hk
    rw [Nat.mul_zero, Nat.zero_add] at es
    have hl : tw_bd (tw_gi μ 2 k 2) 5 := ⟨_, q5, q4⟩
    by_cases hy : tw_in y 6
    · have hyb := tw_ib_t hy
      rcases tn_c6 hy with rfl | rfl | rfl | rfl | rfl | rfl
      · refine tw_J_tr R0 (r := tw_I (tw_gi μ 2 k 2)) (c := 1) ?_ ?_
        · simp only [te_93, tb_93_0, tb_93_8, tb_93_8a, tb_93_16, tb_93_13, tb_93_92, tb_93_86, tb_93_80, tb_93_74, tb_93_68, tb_93_62, tb_93_56, tb_93_91, tb_93_85, tb_93_79, tb_93_73, tb_93_67, tb_93_61, es, s_rate0, Option.bind_some, Option.toList_some, Option.toList_none, List.cons_append, List.nil_append, List.append_nil, eq_self, if_true, if_false, tn_l01, tn_l02, tn_l03, tn_l04, tn_l05, tn_l10, tn_l12, tn_l13, tn_l14, tn_l15, tn_l20, tn_l21, tn_l23, tn_l24, tn_l25, tn_l30, tn_l31, tn_l32, tn_l34, tn_l35, tn_l40, tn_l41, tn_l42, tn_l43, tn_l45, tn_l50, tn_l51, tn_l52, tn_l53, tn_l54]
        · simp only [te_154, tb_154_0, tb_154_11, tb_154_22, tb_154_14, tb_154_19, tb_154_25, tb_154_31, tb_154_39, tb_154_48, tb_154_64, tb_154_60, tb_154_75, tb_154_69, tb_154_111, tb_154_86, tb_154_80, tb_154_123, tb_154_119, tb_154_97, tb_154_91, tb_154_133, tb_154_128, tb_154_180, tb_154_108, tb_154_102, tb_154_143, tb_154_138, tb_154_155, tb_154_148, tb_154_172, tb_154_160, tb_154_179, tb_154_168, tw_thf, m_in_5, m_isSaying g7 hC, if_neg hb, if_neg hyb, m_at4 k8, m_at3 k8, m_hangingOf R' hk, r4, r3, Option.bind_some, Option.toList_some, Option.toList_none, List.cons_append, List.nil_append, List.append_nil, eq_self, if_true, if_false, tn_l01, tn_l02, tn_l03, tn_l04, tn_l05, tn_l10, tn_l12, tn_l13, tn_l14, tn_l15, tn_l20, tn_l21, tn_l23, tn_l24, tn_l25, tn_l30, tn_l31, tn_l32, tn_l34, tn_l35, tn_l40, tn_l41, tn_l42, tn_l43, tn_l45, tn_l50, tn_l51, tn_l52, tn_l53, tn_l54]
      · refine tw_J_tr R0 (r := tw_I (tw_gi μ 2 k 2 - tw_gi μ 2 k 6)) (c := 11) ?_ ?_
        · simp only [te_93, tb_93_0, tb_93_8, tb_93_8a, tb_93_16, tb_93_13, tb_93_92, tb_93_86, tb_93_80, tb_93_74, tb_93_68, tb_93_62, tb_93_56, tb_93_91, tb_93_85, tb_93_79, tb_93_73, tb_93_67, tb_93_61, es, s_rate1, Option.bind_some, Option.toList_some, Option.toList_none, List.cons_append, List.nil_append, List.append_nil, eq_self, if_true, if_false, tn_l01, tn_l02, tn_l03, tn_l04, tn_l05, tn_l10, tn_l12, tn_l13, tn_l14, tn_l15, tn_l20, tn_l21, tn_l23, tn_l24, tn_l25, tn_l30, tn_l31, tn_l32, tn_l34, tn_l35, tn_l40, tn_l41, tn_l42, tn_l43, tn_l45, tn_l50, tn_l51, tn_l52, tn_l53, tn_l54]
        · simp only [te_154, tb_154_0, tb_154_11, tb_154_22, tb_154_14, tb_154_19, tb_154_25, tb_154_31, tb_154_39, tb_154_48, tb_154_64, tb_154_60, tb_154_75, tb_154_69, tb_154_111, tb_154_86, tb_154_80, tb_154_123, tb_154_119, tb_154_97, tb_154_91, tb_154_133, tb_154_128, tb_154_180, tb_154_108, tb_154_102, tb_154_143, tb_154_138, tb_154_155, tb_154_148, tb_154_172, tb_154_160, tb_154_179, tb_154_168, tw_thf, m_in_5, m_isSaying g7 hC, if_neg hb, if_neg hyb, m_at4 k8, m_at3 k8, m_hangingOf R' hk, r4, r3, Option.bind_some, Option.toList_some, Option.toList_none, List.cons_append, List.nil_append, List.append_nil, eq_self, if_true, if_false, tn_l01, tn_l02, tn_l03, tn_l04, tn_l05, tn_l10, tn_l12, tn_l13, tn_l14, tn_l15, tn_l20, tn_l21, tn_l23, tn_l24, tn_l25, tn_l30, tn_l31, tn_l32, tn_l34, tn_l35, tn_l40, tn_l41, tn_l42, tn_l43, tn_l45, tn_l50, tn_l51, tn_l52, tn_l53, tn_l54]
      · refine tw_J_tr R0 (r := tw_I (tw_gi μ 2 k 2 + nI (tw_hg μ k))) (c := 101) ?_ ?_
        · simp only [te_93, tb_93_0, tb_93_8, tb_93_8a, tb_93_16, tb_93_13, tb_93_92, tb_93_86, tb_93_80, tb_93_74, tb_93_68, tb_93_62, tb_93_56, tb_93_91, tb_93_85, tb_93_79, tb_93_73, tb_93_67, tb_93_61, es, s_rate2 hl, Option.bind_some, Option.toList_some, Option.toList_none, List.cons_append, List.nil_append, List.append_nil, eq_self, if_true, if_false, tn_l01, tn_l02, tn_l03, tn_l04, tn_l05, tn_l10, tn_l12, tn_l13, tn_l14, tn_l15, tn_l20, tn_l21, tn_l23, tn_l24, tn_l25, tn_l30, tn_l31, tn_l32, tn_l34, tn_l35, tn_l40, tn_l41, tn_l42, tn_l43, tn_l45, tn_l50, tn_l51, tn_l52, tn_l53, tn_l54]
        · simp only [te_154, tb_154_0, tb_154_11, tb_154_22, tb_154_14, tb_154_19, tb_154_25, tb_154_31, tb_154_39, tb_154_48, tb_154_64, tb_154_60, tb_154_75, tb_154_69, tb_154_111, tb_154_86, tb_154_80, tb_154_123, tb_154_119, tb_154_97, tb_154_91, tb_154_133, tb_154_128, tb_154_180, tb_154_108, tb_154_102, tb_154_143, tb_154_138, tb_154_155, tb_154_148, tb_154_172, tb_154_160, tb_154_179, tb_154_168, tw_thf, m_in_5, m_isSaying g7 hC, if_neg hb, if_neg hyb, m_at4 k8, m_at3 k8, m_hangingOf R' hk, r4, r3, Option.bind_some, Option.toList_some, Option.toList_none, List.cons_append, List.nil_append, List.append_nil, eq_self, if_true, if_false, tn_l01, tn_l02, tn_l03, tn_l04, tn_l05, tn_l10, tn_l12, tn_l13, tn_l14, tn_l15, tn_l20, tn_l21, tn_l23, tn_l24, tn_l25, tn_l30, tn_l31, tn_l32, tn_l34, tn_l35, tn_l40, tn_l41, tn_l42, tn_l43, tn_l45, tn_l50, tn_l51, tn_l52, tn_l53, tn_l54]
      · refine tw_J_tr R0 (r := tw_I (2 * (tw_gi μ 2 k 2 - tw_gi μ 2 k 6))) (c := 1011) ?_ ?_
        · simp only [te_93, tb_93_0, tb_93_8, tb_93_8a, tb_93_16, tb_93_13, tb_93_92, tb_93_86, tb_93_80, tb_93_74, tb_93_68, tb_93_62, tb_93_56, tb_93_91, tb_93_85, tb_93_79, tb_93_73, tb_93_67, tb_93_61, es, s_rate3, Option.bind_some, Option.toList_some, Option.toList_none, List.cons_append, List.nil_append, List.append_nil, eq_self, if_true, if_false, tn_l01, tn_l02, tn_l03, tn_l04, tn_l05, tn_l10, tn_l12, tn_l13, tn_l14, tn_l15, tn_l20, tn_l21, tn_l23, tn_l24, tn_l25, tn_l30, tn_l31, tn_l32, tn_l34, tn_l35, tn_l40, tn_l41, tn_l42, tn_l43, tn_l45, tn_l50, tn_l51, tn_l52, tn_l53, tn_l54]
        · simp only [te_154, tb_154_0, tb_154_11, tb_154_22, tb_154_14, tb_154_19, tb_154_25, tb_154_31, tb_154_39, tb_154_48, tb_154_64, tb_154_60, tb_154_75, tb_154_69, tb_154_111, tb_154_86, tb_154_80, tb_154_123, tb_154_119, tb_154_97, tb_154_91, tb_154_133, tb_154_128, tb_154_180, tb_154_108, tb_154_102, tb_154_143, tb_154_138, tb_154_155, tb_154_148, tb_154_172, tb_154_160, tb_154_179, tb_154_168, tw_thf, m_in_5, m_isSaying g7 hC, if_neg hb, if_neg hyb, m_at4 k8, m_at3 k8, m_hangingOf R' hk, r4, r3, Option.bind_some, Option.toList_some, Option.toList_none, List.cons_append, List.nil_append, List.append_nil, eq_self, if_true, if_false, tn_l01, tn_l02, tn_l03, tn_l04, tn_l05, tn_l10, tn_l12, tn_l13, tn_l14, tn_l15, tn_l20, tn_l21, tn_l23, tn_l24, tn_l25, tn_l30, tn_l31, tn_l32, tn_l34, tn_l35, tn_l40, tn_l41, tn_l42, tn_l43, tn_l45, tn_l50, tn_l51, tn_l52, tn_l53, tn_l54]
      · refine tw_J_tr R0 (r := tw_I (tw_gi μ 2 k 2 + nI (tw_hg μ k) + tw_gi μ 2 k 5)) (c := 10101) ?_ ?_
        · simp only [te_93, tb_93_0, tb_93_8, tb_93_8a, tb_93_16, tb_93_13, tb_93_92, tb_93_86, tb_93_80, tb_93_74, tb_93_68, tb_93_62, tb_93_56, tb_93_91, tb_93_85, tb_93_79, tb_93_73, tb_93_67, tb_93_61, es, s_rate4 hl, Option.bind_some, Option.toList_some, Option.toList_none, List.cons_append, List.nil_append, List.append_nil, eq_self, if_true, if_false, tn_l01, tn_l02, tn_l03, tn_l04, tn_l05, tn_l10, tn_l12, tn_l13, tn_l14, tn_l15, tn_l20, tn_l21, tn_l23, tn_l24, tn_l25, tn_l30, tn_l31, tn_l32, tn_l34, tn_l35, tn_l40, tn_l41, tn_l42, tn_l43, tn_l45, tn_l50, tn_l51, tn_l52, tn_l53, tn_l54]
        · have m2 : ∀ v : Int64, tw_call 121 [tw_R 6 0, tw_I (nI k), tw_I 2] (tw_sl (tw_th ν) 6 v) = some (some (tw_I (tw_gi μ 2 k 5)), tw_sl (tw_th ν) 6 v) := by
            intro v
            rw [m_at2 k8, tw_gi_sl, r2]
          simp only [te_154, tb_154_0, tb_154_11, tb_154_22, tb_154_14, tb_154_19, tb_154_25, tb_154_31, tb_154_39, tb_154_48, tb_154_64, tb_154_60, tb_154_75, tb_154_69, tb_154_111, tb_154_86, tb_154_80, tb_154_123, tb_154_119, tb_154_97, tb_154_91, tb_154_133, tb_154_128, tb_154_180, tb_154_108, tb_154_102, tb_154_143, tb_154_138, tb_154_155, tb_154_148, tb_154_172, tb_154_160, tb_154_179, tb_154_168, tw_thf, m_in_5, m_isSaying g7 hC, if_neg hb, if_neg hyb, m_at4 k8, m_at3 k8, m_hangingOf R' hk, r4, r3, m2, Option.bind_some, Option.toList_some, Option.toList_none, List.cons_append, List.nil_append, List.append_nil, eq_self, if_true, if_false, tn_l01, tn_l02, tn_l03, tn_l04, tn_l05, tn_l10, tn_l12, tn_l13, tn_l14, tn_l15, tn_l20, tn_l21, tn_l23, tn_l24, tn_l25, tn_l30, tn_l31, tn_l32, tn_l34, tn_l35, tn_l40, tn_l41, tn_l42, tn_l43, tn_l45, tn_l50, tn_l51, tn_l52, tn_l53, tn_l54]
      · refine tw_J_tr R0 (r := tw_I (tw_gi μ 2 k 2 - tw_gi μ 2 k 4)) (c := 100001) ?_ ?_
        · simp only [te_93, tb_93_0, tb_93_8, tb_93_8a, tb_93_16, tb_93_13, tb_93_92, tb_93_86, tb_93_80, tb_93_74, tb_93_68, tb_93_62, tb_93_56, tb_93_91, tb_93_85, tb_93_79, tb_93_73, tb_93_67, tb_93_61, es, s_rate5, Option.bind_some, Option.toList_some, Option.toList_none, List.cons_append, List.nil_append, List.append_nil, eq_self, if_true, if_false, tn_l01, tn_l02, tn_l03, tn_l04, tn_l05, tn_l10, tn_l12, tn_l13, tn_l14, tn_l15, tn_l20, tn_l21, tn_l23, tn_l24, tn_l25, tn_l30, tn_l31, tn_l32, tn_l34, tn_l35, tn_l40, tn_l41, tn_l42, tn_l43, tn_l45, tn_l50, tn_l51, tn_l52, tn_l53, tn_l54]
        · have m1 : ∀ v : Int64, tw_call 121 [tw_R 6 0, tw_I (nI k), tw_I 1] (tw_sl (tw_th ν) 6 v) = some (some (tw_I (tw_gi μ 2 k 4)), tw_sl (tw_th ν) 6 v) := by
            intro v
            rw [m_at1 k8, tw_gi_sl, r1]
          simp only [te_154, tb_154_0, tb_154_11, tb_154_22, tb_154_14, tb_154_19, tb_154_25, tb_154_31, tb_154_39, tb_154_48, tb_154_64, tb_154_60, tb_154_75, tb_154_69, tb_154_111, tb_154_86, tb_154_80, tb_154_123, tb_154_119, tb_154_97, tb_154_91, tb_154_133, tb_154_128, tb_154_180, tb_154_108, tb_154_102, tb_154_143, tb_154_138, tb_154_155, tb_154_148, tb_154_172, tb_154_160, tb_154_179, tb_154_168, tw_thf, m_in_5, m_isSaying g7 hC, if_neg hb, if_neg hyb, m_at4 k8, m_at3 k8, m_hangingOf R' hk, r4, r3, m1, Option.bind_some, Option.toList_some, Option.toList_none, List.cons_append, List.nil_append, List.append_nil, eq_self, if_true, if_false, tn_l01, tn_l02, tn_l03, tn_l04, tn_l05, tn_l10, tn_l12, tn_l13, tn_l14, tn_l15, tn_l20, tn_l21, tn_l23, tn_l24, tn_l25, tn_l30, tn_l31, tn_l32, tn_l34, tn_l35, tn_l40, tn_l41, tn_l42, tn_l43, tn_l45, tn_l50, tn_l51, tn_l52, tn_l53, tn_l54]
    · have n0 : ¬ y = 0 := tn_not4 (n := 6) (by omega) hy (j := 0) (by omega)
      have n1 : ¬ y = 1 := tn_not4 (n := 6) (by omega) hy (j := 1) (by omega)
      have n2 : ¬ y = 2 := tn_not4 (n := 6) (by omega) hy (j := 2) (by omega)
      have n3 : ¬ y = 3 := tn_not4 (n := 6) (by omega) hy (j := 3) (by omega)
      have n4 : ¬ y = 4 := tn_not4 (n := 6) (by omega) hy (j := 4) (by omega)
      have n5 : ¬ y = 5 := tn_not4 (n := 6) (by omega) hy (j := 5) (by omega)
      refine tw_J_of R0 (r := tw_I (-1000000)) ?_ ?_
      · simp only [te_93, tb_93_0, tb_93_8, tb_93_8a, tb_93_16, tb_93_13, tb_93_92, tb_93_86, tb_93_80, tb_93_74, tb_93_68, tb_93_62, tb_93_56, tb_93_91, tb_93_85, tb_93_79, tb_93_73, tb_93_67, tb_93_61, es, if_neg n0, if_neg n1, if_neg n2, if_neg n3, if_neg n4, if_neg n5, Option.bind_some, Option.toList_some, Option.toList_none, List.cons_append, List.nil_append, List.append_nil]
      · simp only [tb_154_0, tb_154_11, tb_154_22, te_154, tw_thf, m_in_5, if_pos (tw_ib_f hy), Option.bind_some, Option.toList_some, Option.toList_none, List.cons_append, List.nil_append, List.append_nil]
  · refine tw_J_of R0 (r := tw_I (-1000000)) ?_ ?_
    · simp only [tb_93_0, tb_93_8, tb_93_8a, tb_93_13, te_93, s_sayingAt_f g3 g1 hx, Option.bind_some, Option.toList_some, Option.toList_none, List.cons_append, List.nil_append, List.append_nil]
    · by_cases hy : tw_in y 6
      · simp only [tb_154_0, tb_154_11, tb_154_22, tb_154_14, tb_154_19, te_154, tw_thf, m_in_5, m_isSaying g7 hC, if_neg (tw_ib_t hy), if_pos (tw_ib_f hx), Option.bind_some, Option.toList_some, Option.toList_none, List.cons_append, List.nil_append, List.append_nil]
      · simp only [tb_154_0, tb_154_11, tb_154_22, te_154, tw_thf, m_in_5, if_pos (tw_ib_f hy), Option.bind_some, Option.toList_some, Option.toList_none, List.cons_append, List.nil_append, List.append_nil]
end
