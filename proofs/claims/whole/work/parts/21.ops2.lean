section
variable {μ ν : tw_M} {x y z : Int32} {k p h j w P H S N C : Nat}
theorem op_warmth (R0 : tw_Rl μ ν) : tw_Jn 46 126 [tw_I x] μ ν := by
  obtain ⟨P, H, S, N, C, h, T, R, -⟩ := id R0
  have R' := R.th
  obtain ⟨c1, c2, c3, c4, e5, e6, e7, e8, f5, f6, f7, f8⟩ := rn_c R'
  by_cases hx : tw_in x 100
  · have hb := tw_ib_t hx
    obtain ⟨p, hp, rfl⟩ := tn_of_in hx (by omega)
    refine tw_J_of R0 (r := tw_I (tw_wt μ H p)) ?_ ?_
    · simp only [te_46, tb_46_0, tb_46_4, tb_46_18, tb_46_7, tb_46_20, tb_46_15, s_isHour, s_warmthIn e6 c2 (show p < 2 ^ 30 by omega), if_neg hb, Option.bind_some, Option.toList_some, Option.toList_none, List.cons_append, List.nil_append, List.append_nil]
    · simp only [te_126, tb_126_0, tb_126_12, tb_126_23, tb_126_15, tb_126_25, tb_126_20, tw_thf, m_in_99, m_warmthIn R' (show p < 2 ^ 30 by omega), if_neg hb, Option.bind_some, Option.toList_some, Option.toList_none, List.cons_append, List.nil_append, List.append_nil]
  · refine tw_J_of R0 (r := tw_I (-1000000)) ?_ ?_
    · simp only [te_46, tb_46_0, tb_46_4, tb_46_18, tb_46_7, tb_46_20, tb_46_15, s_isHour, if_pos (tw_ib_f hx), Option.bind_some, Option.toList_some, Option.toList_none, List.cons_append, List.nil_append, List.append_nil]
    · simp only [te_126, tb_126_0, tb_126_12, tb_126_23, tb_126_15, tb_126_25, tb_126_20, tw_thf, m_in_99, if_pos (tw_ib_f hx), Option.bind_some, Option.toList_some, Option.toList_none, List.cons_append, List.nil_append, List.append_nil]
theorem op_melts (R0 : tw_Rl μ ν) : tw_Jn 48 128 [tw_I x] μ ν := by
  obtain ⟨P, H, S, N, C, h, T, R, -⟩ := id R0
  have R' := R.th
  obtain ⟨c1, c2, c3, c4, e5, e6, e7, e8, f5, f6, f7, f8⟩ := rn_c R'
  have hS : S < 2 ^ 31 := by omega
  by_cases hx : tw_in x S
  · have hb := tw_ib_t hx
    obtain ⟨p, hp, rfl⟩ := tn_of_in hx (by omega)
    have hcol := R'.2.1.2.2.2.2.2.2.1 p hp
    refine tw_J_of R0 (r := tw_I (tw_gi μ 12 0 p)) ?_ ?_
    · simp only [te_48, tb_48_0, tb_48_8, tb_48_25, tb_48_11, tb_48_27, tb_48_22, s_isSound (c := 0) e7 hS, s_at (k := 12) rfl, tw_rd_p (μ := μ) (k := 12) (n := 0) 5 rfl (show p < 5 by omega), if_neg hb, Option.bind_some, Option.toList_some, Option.toList_none, List.cons_append, List.nil_append, List.append_nil]
    · simp only [te_128, tb_128_0, tb_128_10, tb_128_22, tb_128_13, tb_128_24, tb_128_19, tw_thf, m_isSound f7 hS, if_pos (show tw_in (nI p) (tw_al 33) from tn_in (show p < 10 by omega) (by decide)), show (nI p).toNatClampNeg = p from nI_clamp (by omega), hcol, if_neg hb, Option.bind_some, Option.toList_some, Option.toList_none, List.cons_append, List.nil_append, List.append_nil]
  · refine tw_J_of R0 (r := tw_I (-1000000)) ?_ ?_
    · simp only [te_48, tb_48_0, tb_48_8, tb_48_25, tb_48_11, tb_48_27, tb_48_22, s_isSound (c := 0) e7 hS, if_pos (tw_ib_f hx), Option.bind_some, Option.toList_some, Option.toList_none, List.cons_append, List.nil_append, List.append_nil]
    · simp only [te_128, tb_128_0, tb_128_10, tb_128_22, tb_128_13, tb_128_24, tb_128_19, tw_thf, m_isSound f7 hS, if_pos (tw_ib_f hx), Option.bind_some, Option.toList_some, Option.toList_none, List.cons_append, List.nil_append, List.append_nil]
theorem op_person (R0 : tw_Rl μ ν) : tw_Jn 51 130 [tw_I x, tw_I y] μ ν := by
  obtain ⟨P, H, S, N, C, h, T, R, -⟩ := id R0
  have R' := R.th
  obtain ⟨c1, c2, c3, c4, e5, e6, e7, e8, f5, f6, f7, f8⟩ := rn_c R'
  have hN : N < 2 ^ 31 := by omega
  by_cases hx : tw_in x N
  · have hb := tw_ib_t hx
    obtain ⟨p, hp, rfl⟩ := tn_of_in hx (by omega)
    obtain ⟨q1, q2, q3, q4, q5, q6, q7, -⟩ := rn_p R' hp
    have hcol := (R'.2.1.2.2.2.2.2.2.2 p hp).1
    have i3 : (3 : Int32) + nI p = nI (3 + p) := nI_add 3 p
    have i7 : (7 : Int32) + nI p = nI (7 + p) := nI_add 7 p
    by_cases hy : tw_in y 3
    · have hyb := tw_ib_t hy
      rcases tn_c3 hy with rfl | rfl | rfl
      · refine tw_J_of R0 (r := tw_I (tw_gi μ 13 0 p)) ?_ ?_
        · simp only [te_51, tb_51_0, tb_51_5, tb_51_5a, tb_51_12, tb_51_10, tb_51_69, tb_51_64, tb_51_52, tb_51_40, tb_51_63, tb_51_51, s_earOf_t e8 c4 hp, s_at (k := 13) rfl, tw_rd_p (μ := μ) (k := 13) (n := 0) 4 rfl q1, Option.bind_some, Option.toList_some, Option.toList_none, List.cons_append, List.nil_append, List.append_nil, eq_self, if_true, if_false, tn_l01, tn_l02, tn_l03, tn_l04, tn_l05, tn_l10, tn_l12, tn_l13, tn_l14, tn_l15, tn_l20, tn_l21, tn_l23, tn_l24, tn_l25, tn_l30, tn_l31, tn_l32, tn_l34, tn_l35, tn_l40, tn_l41, tn_l42, tn_l43, tn_l45, tn_l50, tn_l51, tn_l52, tn_l53, tn_l54]
        · simp only [te_130, tb_130_0, tb_130_10, tb_130_22, tb_130_13, tb_130_19, tb_130_24, tb_130_37, tb_130_28, tb_130_53, tb_130_42, tb_130_34, tb_130_62, tb_130_50, tw_thf, m_isPerson f8 hN, m_in_2, if_neg hb, if_neg hyb, if_pos (show tw_in (nI p) (tw_al 34) from tn_in (show p < 8 by omega) (by decide)), show (nI p).toNatClampNeg = p from nI_clamp (by omega), hcol, Option.bind_some, Option.toList_some, Option.toList_none, List.cons_append, List.nil_append, List.append_nil, eq_self, if_true, if_false, tn_l01, tn_l02, tn_l03, tn_l04, tn_l05, tn_l10, tn_l12, tn_l13, tn_l14, tn_l15, tn_l20, tn_l21, tn_l23, tn_l24, tn_l25, tn_l30, tn_l31, tn_l32, tn_l34, tn_l35, tn_l40, tn_l41, tn_l42, tn_l43, tn_l45, tn_l50, tn_l51, tn_l52, tn_l53, tn_l54]
      · refine tw_J_of R0 (r := tw_I (tw_gi μ 19 0 p)) ?_ ?_
        · simp only [te_51, tb_51_0, tb_51_5, tb_51_5a, tb_51_12, tb_51_10, tb_51_69, tb_51_64, tb_51_52, tb_51_40, tb_51_63, tb_51_51, s_earOf_t e8 c4 hp, s_at (k := 19) rfl, tw_rd_p (μ := μ) (k := 19) (n := 0) 4 rfl q1, Option.bind_some, Option.toList_some, Option.toList_none, List.cons_append, List.nil_append, List.append_nil, eq_self, if_true, if_false, tn_l01, tn_l02, tn_l03, tn_l04, tn_l05, tn_l10, tn_l12, tn_l13, tn_l14, tn_l15, tn_l20, tn_l21, tn_l23, tn_l24, tn_l25, tn_l30, tn_l31, tn_l32, tn_l34, tn_l35, tn_l40, tn_l41, tn_l42, tn_l43, tn_l45, tn_l50, tn_l51, tn_l52, tn_l53, tn_l54]
        · simp only [te_130, tb_130_0, tb_130_10, tb_130_22, tb_130_13, tb_130_19, tb_130_24, tb_130_37, tb_130_28, tb_130_53, tb_130_42, tb_130_34, tb_130_62, tb_130_50, tw_thf, m_isPerson f8 hN, m_in_2, if_neg hb, if_neg hyb, i3, if_pos (show tw_in (nI (3 + p)) (tw_al 36) from tn_in (show 3 + p < 363 by omega) (by decide)), show (nI (3 + p)).toNatClampNeg = 3 + p from nI_clamp (by omega), q6, Option.bind_some, Option.toList_some, Option.toList_none, List.cons_append, List.nil_append, List.append_nil, eq_self, if_true, if_false, tn_l01, tn_l02, tn_l03, tn_l04, tn_l05, tn_l10, tn_l12, tn_l13, tn_l14, tn_l15, tn_l20, tn_l21, tn_l23, tn_l24, tn_l25, tn_l30, tn_l31, tn_l32, tn_l34, tn_l35, tn_l40, tn_l41, tn_l42, tn_l43, tn_l45, tn_l50, tn_l51, tn_l52, tn_l53, tn_l54]
      · refine tw_J_of R0 (r := tw_I (tw_gi μ 1 p 2)) ?_ ?_
        · simp only [te_51, tb_51_0, tb_51_5, tb_51_5a, tb_51_12, tb_51_10, tb_51_69, tb_51_64, tb_51_52, tb_51_40, tb_51_63, tb_51_51, s_earOf_t e8 c4 hp, Option.bind_some, Option.toList_some, Option.toList_none, List.cons_append, List.nil_append, List.append_nil, eq_self, if_true, if_false, tn_l01, tn_l02, tn_l03, tn_l04, tn_l05, tn_l10, tn_l12, tn_l13, tn_l14, tn_l15, tn_l20, tn_l21, tn_l23, tn_l24, tn_l25, tn_l30, tn_l31, tn_l32, tn_l34, tn_l35, tn_l40, tn_l41, tn_l42, tn_l43, tn_l45, tn_l50, tn_l51, tn_l52, tn_l53, tn_l54]
        · simp only [te_130, tb_130_0, tb_130_10, tb_130_22, tb_130_13, tb_130_19, tb_130_24, tb_130_37, tb_130_28, tb_130_53, tb_130_42, tb_130_34, tb_130_62, tb_130_50, tw_thf, m_isPerson f8 hN, m_in_2, if_neg hb, if_neg hyb, i7, if_pos (show tw_in (nI (7 + p)) (tw_al 36) from tn_in (show 7 + p < 363 by omega) (by decide)), show (nI (7 + p)).toNatClampNeg = 7 + p from nI_clamp (by omega), q7, Option.bind_some, Option.toList_some, Option.toList_none, List.cons_append, List.nil_append, List.append_nil, eq_self, if_true, if_false, tn_l01, tn_l02, tn_l03, tn_l04, tn_l05, tn_l10, tn_l12, tn_l13, tn_l14, tn_l15, tn_l20, tn_l21, tn_l23, tn_l24, tn_l25, tn_l30, tn_l31, tn_l32, tn_l34, tn_l35, tn_l40, tn_l41, tn_l42, tn_l43, tn_l45, tn_l50, tn_l51, tn_l52, tn_l53, tn_l54]
    · have n0 : ¬ y = 0 := tn_not4 (n := 3) (by omega) hy (j := 0) (by omega)
      have n1 : ¬ y = 1 := tn_not4 (n := 3) (by omega) hy (j := 1) (by omega)
      have n2 : ¬ y = 2 := tn_not4 (n := 3) (by omega) hy (j := 2) (by omega)
      refine tw_J_of R0 (r := tw_I (-1)) ?_ ?_
      · simp only [te_51, tb_51_0, tb_51_5, tb_51_5a, tb_51_12, tb_51_10, tb_51_69, tb_51_64, tb_51_52, tb_51_40, tb_51_63, tb_51_51, s_earOf_t e8 c4 hp, if_neg n0, if_neg n1, if_neg n2, Option.bind_some, Option.toList_some, Option.toList_none, List.cons_append, List.nil_append, List.append_nil]
      · simp only [te_130, tb_130_0, tb_130_10, tb_130_22, tb_130_13, tb_130_19, tb_130_24, tb_130_37, tb_130_28, tb_130_53, tb_130_42, tb_130_34, tb_130_62, tb_130_50, tw_thf, m_isPerson f8 hN, m_in_2, if_neg hb, if_pos (tw_ib_f hy), Option.bind_some, Option.toList_some, Option.toList_none, List.cons_append, List.nil_append, List.append_nil]
  · refine tw_J_of R0 (r := tw_I (-1)) ?_ ?_
    · simp only [te_51, tb_51_0, tb_51_5, tb_51_5a, tb_51_12, tb_51_10, tb_51_69, tb_51_64, tb_51_52, tb_51_40, tb_51_63, tb_51_51, s_earOf_f e8 c4 hx, Option.bind_some, Option.toList_some, Option.toList_none, List.cons_append, List.nil_append, List.append_nil]
    · simp only [te_130, tb_130_0, tb_130_10, tb_130_22, tb_130_13, tb_130_19, tb_130_24, tb_130_37, tb_130_28, tb_130_53, tb_130_42, tb_130_34, tb_130_62, tb_130_50, tw_thf, m_isPerson f8 hN, if_pos (tw_ib_f hx), Option.bind_some, Option.toList_some, Option.toList_none, List.cons_append, List.nil_append, List.append_nil]
theorem op_saying (R0 : tw_Rl μ ν) : tw_Jn 66 138 [tw_I x, tw_I y] μ ν := by
  obtain ⟨P, H, S, N, C, h, T, R, -⟩ := id R0
  have R' := R.th
  obtain ⟨g1, g2, g3, g4, g5, g6, g7⟩ := rn_0 R'
  have hC : C < 2 ^ 31 := by omega
  by_cases hx : tw_in x C
  · have hb := tw_ib_t hx
    obtain ⟨k, hk, rfl⟩ := tn_of_in hx (by omega)
    obtain ⟨k8, q1, q2, q3, q4, q5, q6, -⟩ := rn_k R' hk
    obtain ⟨r0, r1, r2, r3, r4, -, -⟩ := rn_ke R' hk
    have es := s_sayingAt_t (i := 0) g3 g1 hk
    rw [Nat.mul_zero, Nat.zero_add] at es
    by_cases hy : tw_in y 6
    · have hyb := tw_ib_t hy
      rcases tn_c6 hy with rfl | rfl | rfl | rfl | rfl | rfl
      · refine tw_J_of R0 (r := tw_I (tw_gi μ 2 k 3)) ?_ ?_
        · simp only [te_66, tb_66_0, tb_66_8, tb_66_8a, tb_66_15, tb_66_13, tb_66_86, tb_66_81, tb_66_76, tb_66_71, tb_66_66, tb_66_61, tb_66_56, tb_66_85, es, Option.bind_some, Option.toList_some, Option.toList_none, List.cons_append, List.nil_append, List.append_nil, eq_self, if_true, if_false, tn_l01, tn_l02, tn_l03, tn_l04, tn_l05, tn_l10, tn_l12, tn_l13, tn_l14, tn_l15, tn_l20, tn_l21, tn_l23, tn_l24, tn_l25, tn_l30, tn_l31, tn_l32, tn_l34, tn_l35, tn_l40, tn_l41, tn_l42, tn_l43, tn_l45, tn_l50, tn_l51, tn_l52, tn_l53, tn_l54]
        · simp only [te_138, tb_138_0, tb_138_10, tb_138_22, tb_138_13, tb_138_19, tb_138_24, tb_138_37, tb_138_29, tb_138_43, tb_138_34, tw_thf, m_isSaying g7 hC, m_in_5, if_neg hb, if_neg hyb, m_at0 k8, r0, Option.bind_some, Option.toList_some, Option.toList_none, List.cons_append, List.nil_append, List.append_nil, eq_self, if_true, if_false, tn_l01, tn_l02, tn_l03, tn_l04, tn_l05, tn_l10, tn_l12, tn_l13, tn_l14, tn_l15, tn_l20, tn_l21, tn_l23, tn_l24, tn_l25, tn_l30, tn_l31, tn_l32, tn_l34, tn_l35, tn_l40, tn_l41, tn_l42, tn_l43, tn_l45, tn_l50, tn_l51, tn_l52, tn_l53, tn_l54]
      · refine tw_J_of R0 (r := tw_I (tw_gi μ 2 k 4)) ?_ ?_
        · simp only [te_66, tb_66_0, tb_66_8, tb_66_8a, tb_66_15, tb_66_13, tb_66_86, tb_66_81, tb_66_76, tb_66_71, tb_66_66, tb_66_61, tb_66_56, tb_66_85, es, Option.bind_some, Option.toList_some, Option.toList_none, List.cons_append, List.nil_append, List.append_nil, eq_self, if_true, if_false, tn_l01, tn_l02, tn_l03, tn_l04, tn_l05, tn_l10, tn_l12, tn_l13, tn_l14, tn_l15, tn_l20, tn_l21, tn_l23, tn_l24, tn_l25, tn_l30, tn_l31, tn_l32, tn_l34, tn_l35, tn_l40, tn_l41, tn_l42, tn_l43, tn_l45, tn_l50, tn_l51, tn_l52, tn_l53, tn_l54]
        · simp only [te_138, tb_138_0, tb_138_10, tb_138_22, tb_138_13, tb_138_19, tb_138_24, tb_138_37, tb_138_29, tb_138_43, tb_138_34, tw_thf, m_isSaying g7 hC, m_in_5, if_neg hb, if_neg hyb, m_at1 k8, r1, Option.bind_some, Option.toList_some, Option.toList_none, List.cons_append, List.nil_append, List.append_nil, eq_self, if_true, if_false, tn_l01, tn_l02, tn_l03, tn_l04, tn_l05, tn_l10, tn_l12, tn_l13, tn_l14, tn_l15, tn_l20, tn_l21, tn_l23, tn_l24, tn_l25, tn_l30, tn_l31, tn_l32, tn_l34, tn_l35, tn_l40, tn_l41, tn_l42, tn_l43, tn_l45, tn_l50, tn_l51, tn_l52, tn_l53, tn_l54]
      · refine tw_J_of R0 (r := tw_I (tw_gi μ 2 k 5)) ?_ ?_
        · simp only [te_66, tb_66_0, tb_66_8, tb_66_8a, tb_66_15, tb_66_13, tb_66_86, tb_66_81, tb_66_76, tb_66_71, tb_66_66, tb_66_61, tb_66_56, tb_66_85, es, Option.bind_some, Option.toList_some, Option.toList_none, List.cons_append, List.nil_append, List.append_nil, eq_self, if_true, if_false, tn_l01, tn_l02, tn_l03, tn_l04, tn_l05, tn_l10, tn_l12, tn_l13, tn_l14, tn_l15, tn_l20, tn_l21, tn_l23, tn_l24, tn_l25, tn_l30, tn_l31, tn_l32, tn_l34, tn_l35, tn_l40, tn_l41, tn_l42, tn_l43, tn_l45, tn_l50, tn_l51, tn_l52, tn_l53, tn_l54]
        · simp only [te_138, tb_138_0, tb_138_10, tb_138_22, tb_138_13, tb_138_19, tb_138_24, tb_138_37, tb_138_29, tb_138_43, tb_138_34, tw_thf, m_isSaying g7 hC, m_in_5, if_neg hb, if_neg hyb, m_at2 k8, r2, Option.bind_some, Option.toList_some, Option.toList_none, List.cons_append, List.nil_append, List.append_nil, eq_self, if_true, if_false, tn_l01, tn_l02, tn_l03, tn_l04, tn_l05, tn_l10, tn_l12, tn_l13, tn_l14, tn_l15, tn_l20, tn_l21, tn_l23, tn_l24, tn_l25, tn_l30, tn_l31, tn_l32, tn_l34, tn_l35, tn_l40, tn_l41, tn_l42, tn_l43, tn_l45, tn_l50, tn_l51, tn_l52, tn_l53, tn_l54]
      · refine tw_J_of R0 (r := tw_I (tw_gi μ 2 k 6)) ?_ ?_
        · simp only [te_66, tb_66_0, tb_66_8, tb_66_8a, tb_66_15, tb_66_13, tb_66_86, tb_66_81, tb_66_76, tb_66_71, tb_66_66, tb_66_61, tb_66_56, tb_66_85, es, Option.bind_some, Option.toList_some, Option.toList_none, List.cons_append, List.nil_append, List.append_nil, eq_self, if_true, if_false, tn_l01, tn_l02, tn_l03, tn_l04, tn_l05, tn_l10, tn_l12, tn_l13, tn_l14, tn_l15, tn_l20, tn_l21, tn_l23, tn_l24, tn_l25, tn_l30, tn_l31, tn_l32, tn_l34, tn_l35, tn_l40, tn_l41, tn_l42, tn_l43, tn_l45, tn_l50, tn_l51, tn_l52, tn_l53, tn_l54]
        · simp only [te_138, tb_138_0, tb_138_10, tb_138_22, tb_138_13, tb_138_19, tb_138_24, tb_138_37, tb_138_29, tb_138_43, tb_138_34, tw_thf, m_isSaying g7 hC, m_in_5, if_neg hb, if_neg hyb, m_at3 k8, r3, Option.bind_some, Option.toList_some, Option.toList_none, List.cons_append, List.nil_append, List.append_nil, eq_self, if_true, if_false, tn_l01, tn_l02, tn_l03, tn_l04, tn_l05, tn_l10, tn_l12, tn_l13, tn_l14, tn_l15, tn_l20, tn_l21, tn_l23, tn_l24, tn_l25, tn_l30, tn_l31, tn_l32, tn_l34, tn_l35, tn_l40, tn_l41, tn_l42, tn_l43, tn_l45, tn_l50, tn_l51, tn_l52, tn_l53, tn_l54]
      · refine tw_J_of R0 (r := tw_I (tw_gi μ 2 k 2)) ?_ ?_
        · simp only [te_66, tb_66_0, tb_66_8, tb_66_8a, tb_66_15, tb_66_13, tb_66_86, tb_66_81, tb_66_76, tb_66_71, tb_66_66, tb_66_61, tb_66_56, tb_66_85, es, Option.bind_some, Option.toList_some, Option.toList_none, List.cons_append, List.nil_append, List.append_nil, eq_self, if_true, if_false, tn_l01, tn_l02, tn_l03, tn_l04, tn_l05, tn_l10, tn_l12, tn_l13, tn_l14, tn_l15, tn_l20, tn_l21, tn_l23, tn_l24, tn_l25, tn_l30, tn_l31, tn_l32, tn_l34, tn_l35, tn_l40, tn_l41, tn_l42, tn_l43, tn_l45, tn_l50, tn_l51, tn_l52, tn_l53, tn_l54]
        · simp only [te_138, tb_138_0, tb_138_10, tb_138_22, tb_138_13, tb_138_19, tb_138_24, tb_138_37, tb_138_29, tb_138_43, tb_138_34, tw_thf, m_isSaying g7 hC, m_in_5, if_neg hb, if_neg hyb, m_at4 k8, r4, Option.bind_some, Option.toList_some, Option.toList_none, List.cons_append, List.nil_append, List.append_nil, eq_self, if_true, if_false, tn_l01, tn_l02, tn_l03, tn_l04, tn_l05, tn_l10, tn_l12, tn_l13, tn_l14, tn_l15, tn_l20, tn_l21, tn_l23, tn_l24, tn_l25, tn_l30, tn_l31, tn_l32, tn_l34, tn_l35, tn_l40, tn_l41, tn_l42, tn_l43, tn_l45, tn_l50, tn_l51, tn_l52, tn_l53, tn_l54]
      · refine tw_J_of R0 (r := tw_I (nI (tw_hg μ k))) ?_ ?_
        · simp only [te_66, tb_66_0, tb_66_8, tb_66_8a, tb_66_15, tb_66_13, tb_66_86, tb_66_81, tb_66_76, tb_66_71, tb_66_66, tb_66_61, tb_66_56, tb_66_85, es, s_hanging (n := k) ⟨_, q5, q4⟩, Option.bind_some, Option.toList_some, Option.toList_none, List.cons_append, List.nil_append, List.append_nil, eq_self, if_true, if_false, tn_l01, tn_l02, tn_l03, tn_l04, tn_l05, tn_l10, tn_l12, tn_l13, tn_l14, tn_l15, tn_l20, tn_l21, tn_l23, tn_l24, tn_l25, tn_l30, tn_l31, tn_l32, tn_l34, tn_l35, tn_l40, tn_l41, tn_l42, tn_l43, tn_l45, tn_l50, tn_l51, tn_l52, tn_l53, tn_l54]
        · simp only [te_138, tb_138_0, tb_138_10, tb_138_22, tb_138_13, tb_138_19, tb_138_24, tb_138_37, tb_138_29, tb_138_43, tb_138_34, tw_thf, m_isSaying g7 hC, m_in_5, if_neg hb, if_neg hyb, m_hangingOf R' hk, Option.bind_some, Option.toList_some, Option.toList_none, List.cons_append, List.nil_append, List.append_nil, eq_self, if_true, if_false, tn_l01, tn_l02, tn_l03, tn_l04, tn_l05, tn_l10, tn_l12, tn_l13, tn_l14, tn_l15, tn_l20, tn_l21, tn_l23, tn_l24, tn_l25, tn_l30, tn_l31, tn_l32, tn_l34, tn_l35, tn_l40, tn_l41, tn_l42, tn_l43, tn_l45, tn_l50, tn_l51, tn_l52, tn_l53, tn_l54]
    · have n0 : ¬ y = 0 := tn_not4 (n := 6) (by omega) hy (j := 0) (by omega)
      have n1 : ¬ y = 1 := tn_not4 (n := 6) (by omega) hy (j := 1) (by omega)
      have n2 : ¬ y = 2 := tn_not4 (n := 6) (by omega) hy (j := 2) (by omega)
      have n3 : ¬ y = 3 := tn_not4 (n := 6) (by omega) hy (j := 3) (by omega)
      have n4 : ¬ y = 4 := tn_not4 (n := 6) (by omega) hy (j := 4) (by omega)
      have n5 : ¬ y = 5 := tn_not4 (n := 6) (by omega) hy (j := 5) (by omega)
      refine tw_J_of R0 (r := tw_I (-1)) ?_ ?_
      · simp only [te_66, tb_66_0, tb_66_8, tb_66_8a, tb_66_15, tb_66_13, tb_66_86, tb_66_81, tb_66_76, tb_66_71, tb_66_66, tb_66_61, tb_66_56, tb_66_85, es, if_neg n0, if_neg n1, if_neg n2, if_neg n3, if_neg n4, if_neg n5, Option.bind_some, Option.toList_some, Option.toList_none, List.cons_append, List.nil_append, List.append_nil]
      · simp only [te_138, tb_138_0, tb_138_10, tb_138_22, tb_138_13, tb_138_19, tb_138_24, tb_138_37, tb_138_29, tb_138_43, tb_138_34, tw_thf, m_isSaying g7 hC, m_in_5, if_neg hb, if_pos (tw_ib_f hy), Option.bind_some, Option.toList_some, Option.toList_none, List.cons_append, List.nil_append, List.append_nil]
  · refine tw_J_of R0 (r := tw_I (-1)) ?_ ?_
    · simp only [te_66, tb_66_0, tb_66_8, tb_66_8a, tb_66_15, tb_66_13, tb_66_86, tb_66_81, tb_66_76, tb_66_71, tb_66_66, tb_66_61, tb_66_56, tb_66_85, s_sayingAt_f g3 g1 hx, Option.bind_some, Option.toList_some, Option.toList_none, List.cons_append, List.nil_append, List.append_nil]
    · simp only [te_138, tb_138_0, tb_138_10, tb_138_22, tb_138_13, tb_138_19, tb_138_24, tb_138_37, tb_138_29, tb_138_43, tb_138_34, tw_thf, m_isSaying g7 hC, if_pos (tw_ib_f hx), Option.bind_some, Option.toList_some, Option.toList_none, List.cons_append, List.nil_append, List.append_nil]
theorem op_soundOf (R0 : tw_Rl μ ν) : tw_Jn 67 139 [tw_I x, tw_I y] μ ν := by
  obtain ⟨P, H, S, N, C, h, T, R, -⟩ := id R0
  have R' := R.th
  obtain ⟨g1, g2, g3, g4, g5, g6, g7⟩ := rn_0 R'
  have hC : C < 2 ^ 31 := by omega
  by_cases hx : tw_in x C
  · have hb := tw_ib_t hx
    obtain ⟨k, hk, rfl⟩ := tn_of_in hx (by omega)
    obtain ⟨k8, q1, q2, q3, q4, q5, q6, -⟩ := rn_k R' hk
    obtain ⟨r0, r1, r2, r3, r4, -, r6⟩ := rn_ke R' hk
    have es := s_sayingAt_t (i := 0) g3 g1 hk
    rw [Nat.mul_zero, Nat.zero_add] at es
    by_cases hy0 : y < 0
    · refine tw_J_of R0 (r := tw_I (-1)) ?_ ?_
      · simp only [te_67, tb_67_0, tb_67_8, tb_67_8a, tb_67_13, tb_67_17, tb_67_19, tb_67_38, tb_67_27, tb_67_40, tb_67_35, es, if_pos hy0, if_neg (tn_nl hy0), Option.bind_some, Option.toList_some, Option.toList_none, List.cons_append, List.nil_append, List.append_nil]
      · simp only [te_139, tb_139_0, tb_139_10, tb_139_17, tb_139_13, tb_139_19, tb_139_26, tb_139_40, tb_139_29, tb_139_42, tb_139_37, tw_thf, m_isSaying g7 hC, if_neg hb, if_pos hy0, if_neg (tn_nl hy0), Option.bind_some, Option.toList_some, Option.toList_none, List.cons_append, List.nil_append, List.append_nil]
    · obtain ⟨j, hj, rfl⟩ := nI_of hy0
      by_cases hl : j < tw_ln μ k
      · have e1 : ¬ nI (tw_ln μ k) ≤ nI j := nI_ge hl (by omega)
        refine tw_J_of R0 (r := tw_I (tw_gi μ 17 k j)) ?_ ?_
        · simp only [te_67, tb_67_0, tb_67_8, tb_67_8a, tb_67_13, tb_67_17, tb_67_19, tb_67_38, tb_67_27, tb_67_40, tb_67_35, es, if_neg hy0, if_pos (nI_pos' hj), q4, if_neg e1, s_at (k := 17) rfl, tw_rd_p (μ := μ) (k := 17) (n := k) 4 rfl (show j < 4 by omega), Option.bind_some, Option.toList_some, Option.toList_none, List.cons_append, List.nil_append, List.append_nil]
        · simp only [te_139, tb_139_0, tb_139_10, tb_139_17, tb_139_13, tb_139_19, tb_139_26, tb_139_40, tb_139_29, tb_139_42, tb_139_37, tw_thf, m_isSaying g7 hC, if_neg hb, if_neg hy0, if_pos (nI_pos' hj), m_at4 k8, r4, q4, if_neg e1, m_at5 k8 (show j < 4 by omega), (r6 j hl).1, Option.bind_some, Option.toList_some, Option.toList_none, List.cons_append, List.nil_append, List.append_nil]
      · have e1 : nI (tw_ln μ k) ≤ nI j := nI_le (by omega) (by omega)
        refine tw_J_of R0 (r := tw_I (-5)) ?_ ?_
        · simp only [te_67, tb_67_0, tb_67_8, tb_67_8a, tb_67_13, tb_67_17, tb_67_19, tb_67_38, tb_67_27, tb_67_40, tb_67_35, es, if_neg hy0, if_pos (nI_pos' hj), q4, if_pos e1, Option.bind_some, Option.toList_some, Option.toList_none, List.cons_append, List.nil_append, List.append_nil]
        · simp only [te_139, tb_139_0, tb_139_10, tb_139_17, tb_139_13, tb_139_19, tb_139_26, tb_139_40, tb_139_29, tb_139_42, tb_139_37, tw_thf, m_isSaying g7 hC, if_neg hb, if_neg hy0, if_pos (nI_pos' hj), m_at4 k8, r4, q4, if_pos e1, Option.bind_some, Option.toList_some, Option.toList_none, List.cons_append, List.nil_append, List.append_nil]
  · refine tw_J_of R0 (r := tw_I (-1)) ?_ ?_
    · simp only [te_67, tb_67_0, tb_67_8, tb_67_8a, tb_67_13, tb_67_17, tb_67_19, tb_67_38, tb_67_27, tb_67_40, tb_67_35, s_sayingAt_f g3 g1 hx, Option.bind_some, Option.toList_some, Option.toList_none, List.cons_append, List.nil_append, List.append_nil]
    · simp only [te_139, tb_139_0, tb_139_10, tb_139_17, tb_139_13, tb_139_19, tb_139_26, tb_139_40, tb_139_29, tb_139_42, tb_139_37, tw_thf, m_isSaying g7 hC, if_pos (tw_ib_f hx), Option.bind_some, Option.toList_some, Option.toList_none, List.cons_append, List.nil_append, List.append_nil]
theorem op_count (R0 : tw_Rl μ ν) : tw_Jn 100 157 [tw_I y] μ ν := by
  obtain ⟨P, H, S, N, C, h, T, R, RT, -⟩ := id R0
  have R' := R.th
  have RT' := RT.th
  obtain ⟨c1, c2, c3, c4, e5, e6, e7, e8, f5, f6, f7, f8⟩ := rn_c R'
  obtain ⟨t1, t2, t3, -⟩ := RT'
  by_cases hy : tw_in y 5
  · rcases tn_c5 hy with rfl | rfl | rfl | rfl | rfl
    · refine tw_J_of R0 (r := tw_I (nI P)) ?_ ?_
      · simp only [te_100, tb_100_0, tb_100_76, tb_100_68, tb_100_60, tb_100_52, tb_100_44, tb_100_36, e5, eq_self, if_true, if_false, tn_l01, tn_l02, tn_l03, tn_l04, tn_l05, tn_l10, tn_l12, tn_l13, tn_l14, tn_l15, tn_l20, tn_l21, tn_l23, tn_l24, tn_l25, tn_l30, tn_l31, tn_l32, tn_l34, tn_l35, tn_l40, tn_l41, tn_l42, tn_l43, tn_l45, tn_l50, tn_l51, tn_l52, tn_l53, tn_l54]
      · simp only [te_157, tb_157_0, tb_157_16, tb_157_9, tb_157_28, tb_157_21, tb_157_65, tb_157_40, tb_157_33, tb_157_52, tb_157_45, tb_157_64, tb_157_57, tw_thf, f5, eq_self, if_true, if_false, tn_l01, tn_l02, tn_l03, tn_l04, tn_l05, tn_l10, tn_l12, tn_l13, tn_l14, tn_l15, tn_l20, tn_l21, tn_l23, tn_l24, tn_l25, tn_l30, tn_l31, tn_l32, tn_l34, tn_l35, tn_l40, tn_l41, tn_l42, tn_l43, tn_l45, tn_l50, tn_l51, tn_l52, tn_l53, tn_l54]
    · refine tw_J_of R0 (r := tw_I (nI H)) ?_ ?_
      · simp only [te_100, tb_100_0, tb_100_76, tb_100_68, tb_100_60, tb_100_52, tb_100_44, tb_100_36, e6, eq_self, if_true, if_false, tn_l01, tn_l02, tn_l03, tn_l04, tn_l05, tn_l10, tn_l12, tn_l13, tn_l14, tn_l15, tn_l20, tn_l21, tn_l23, tn_l24, tn_l25, tn_l30, tn_l31, tn_l32, tn_l34, tn_l35, tn_l40, tn_l41, tn_l42, tn_l43, tn_l45, tn_l50, tn_l51, tn_l52, tn_l53, tn_l54]
      · simp only [te_157, tb_157_0, tb_157_16, tb_157_9, tb_157_28, tb_157_21, tb_157_65, tb_157_40, tb_157_33, tb_157_52, tb_157_45, tb_157_64, tb_157_57, tw_thf, f6, eq_self, if_true, if_false, tn_l01, tn_l02, tn_l03, tn_l04, tn_l05, tn_l10, tn_l12, tn_l13, tn_l14, tn_l15, tn_l20, tn_l21, tn_l23, tn_l24, tn_l25, tn_l30, tn_l31, tn_l32, tn_l34, tn_l35, tn_l40, tn_l41, tn_l42, tn_l43, tn_l45, tn_l50, tn_l51, tn_l52, tn_l53, tn_l54]
    · refine tw_J_of R0 (r := tw_I (nI S)) ?_ ?_
      · simp only [te_100, tb_100_0, tb_100_76, tb_100_68, tb_100_60, tb_100_52, tb_100_44, tb_100_36, e7, eq_self, if_true, if_false, tn_l01, tn_l02, tn_l03, tn_l04, tn_l05, tn_l10, tn_l12, tn_l13, tn_l14, tn_l15, tn_l20, tn_l21, tn_l23, tn_l24, tn_l25, tn_l30, tn_l31, tn_l32, tn_l34, tn_l35, tn_l40, tn_l41, tn_l42, tn_l43, tn_l45, tn_l50, tn_l51, tn_l52, tn_l53, tn_l54]
      · simp only [te_157, tb_157_0, tb_157_16, tb_157_9, tb_157_28, tb_157_21, tb_157_65, tb_157_40, tb_157_33, tb_157_52, tb_157_45, tb_157_64, tb_157_57, tw_thf, f7, eq_self, if_true, if_false, tn_l01, tn_l02, tn_l03, tn_l04, tn_l05, tn_l10, tn_l12, tn_l13, tn_l14, tn_l15, tn_l20, tn_l21, tn_l23, tn_l24, tn_l25, tn_l30, tn_l31, tn_l32, tn_l34, tn_l35, tn_l40, tn_l41, tn_l42, tn_l43, tn_l45, tn_l50, tn_l51, tn_l52, tn_l53, tn_l54]
    · refine tw_J_of R0 (r := tw_I (nI N)) ?_ ?_
      · simp only [te_100, tb_100_0, tb_100_76, tb_100_68, tb_100_60, tb_100_52, tb_100_44, tb_100_36, e8, eq_self, if_true, if_false, tn_l01, tn_l02, tn_l03, tn_l04, tn_l05, tn_l10, tn_l12, tn_l13, tn_l14, tn_l15, tn_l20, tn_l21, tn_l23, tn_l24, tn_l25, tn_l30, tn_l31, tn_l32, tn_l34, tn_l35, tn_l40, tn_l41, tn_l42, tn_l43, tn_l45, tn_l50, tn_l51, tn_l52, tn_l53, tn_l54]
      · simp only [te_157, tb_157_0, tb_157_16, tb_157_9, tb_157_28, tb_157_21, tb_157_65, tb_157_40, tb_157_33, tb_157_52, tb_157_45, tb_157_64, tb_157_57, tw_thf, f8, eq_self, if_true, if_false, tn_l01, tn_l02, tn_l03, tn_l04, tn_l05, tn_l10, tn_l12, tn_l13, tn_l14, tn_l15, tn_l20, tn_l21, tn_l23, tn_l24, tn_l25, tn_l30, tn_l31, tn_l32, tn_l34, tn_l35, tn_l40, tn_l41, tn_l42, tn_l43, tn_l45, tn_l50, tn_l51, tn_l52, tn_l53, tn_l54]
    · refine tw_J_of R0 (r := tw_I (nI T)) ?_ ?_
      · simp only [te_100, tb_100_0, tb_100_76, tb_100_68, tb_100_60, tb_100_52, tb_100_44, tb_100_36, t2, eq_self, if_true, if_false, tn_l01, tn_l02, tn_l03, tn_l04, tn_l05, tn_l10, tn_l12, tn_l13, tn_l14, tn_l15, tn_l20, tn_l21, tn_l23, tn_l24, tn_l25, tn_l30, tn_l31, tn_l32, tn_l34, tn_l35, tn_l40, tn_l41, tn_l42, tn_l43, tn_l45, tn_l50, tn_l51, tn_l52, tn_l53, tn_l54]
      · simp only [te_157, tb_157_0, tb_157_16, tb_157_9, tb_157_28, tb_157_21, tb_157_65, tb_157_40, tb_157_33, tb_157_52, tb_157_45, tb_157_64, tb_157_57, tw_thf, t3, eq_self, if_true, if_false, tn_l01, tn_l02, tn_l03, tn_l04, tn_l05, tn_l10, tn_l12, tn_l13, tn_l14, tn_l15, tn_l20, tn_l21, tn_l23, tn_l24, tn_l25, tn_l30, tn_l31, tn_l32, tn_l34, tn_l35, tn_l40, tn_l41, tn_l42, tn_l43, tn_l45, tn_l50, tn_l51, tn_l52, tn_l53, tn_l54]
  · have n0 : ¬ y = 0 := tn_not4 (n := 5) (by omega) hy (j := 0) (by omega)
    have n1 : ¬ y = 1 := tn_not4 (n := 5) (by omega) hy (j := 1) (by omega)
    have n2 : ¬ y = 2 := tn_not4 (n := 5) (by omega) hy (j := 2) (by omega)
    have n3 : ¬ y = 3 := tn_not4 (n := 5) (by omega) hy (j := 3) (by omega)
    have n4 : ¬ y = 4 := tn_not4 (n := 5) (by omega) hy (j := 4) (by omega)
    refine tw_J_of R0 (r := tw_I (-1)) ?_ ?_
    · simp only [te_100, tb_100_0, tb_100_76, tb_100_68, tb_100_60, tb_100_52, tb_100_44, tb_100_36, if_neg n0, if_neg n1, if_neg n2, if_neg n3, if_neg n4]
    · simp only [te_157, tb_157_0, tb_157_16, tb_157_9, tb_157_28, tb_157_21, tb_157_65, tb_157_40, tb_157_33, tb_157_52, tb_157_45, tb_157_64, tb_157_57, if_neg n0, if_neg n1, if_neg n2, if_neg n3, if_neg n4]
      rfl
theorem op_trace (R0 : tw_Rl μ ν) : tw_Jn 101 158 [] μ ν := by
  obtain ⟨P, H, S, N, C, h, T, R, RT, RE, e⟩ := id R0
  refine tw_J_of R0 (r := tw_J (tw_gl μ 5)) ?_ ?_
  · simp only [te_101, tb_101_0]
  · simp only [te_158, tb_158_0, tw_thf]
    rw [e]
    rfl
theorem op_heard (R0 : tw_Rl μ ν) : tw_Jn 68 140 [tw_I x, tw_I y, tw_I z] μ ν := by
  obtain ⟨P, H, S, N, C, h, T, R, -⟩ := id R0
  have R' := R.th
  obtain ⟨c1, c2, c3, c4, e5, e6, e7, e8, f5, f6, f7, f8⟩ := rn_c R'
  have hN : N < 2 ^ 31 := by omega
  by_cases hx : tw_in x N
  · have hb := tw_ib_t hx
    obtain ⟨p, hp, rfl⟩ := tn_of_in hx (by omega)
    obtain ⟨q1, q2, q3, q4, q5, q6, q7, q8⟩ := rn_p R' hp
    by_cases hy0 : y < 0
    · refine tw_J_of R0 (r := tw_I (-1)) ?_ ?_
      · simp only [te_68, tb_68_0, tb_68_5, tb_68_5a, tb_68_12, tb_68_25, tb_68_16, tb_68_20, tb_68_27, tb_68_39, tb_68_36, tb_68_55, tb_68_43, tb_68_64, tb_68_52, s_earOf_t e8 c4 hp, if_pos hy0, if_neg (tn_nl hy0), Option.bind_some, Option.toList_some, Option.toList_none, List.cons_append, List.nil_append, List.append_nil]
      · simp only [te_140, tb_140_0, tb_140_10, tb_140_26, tb_140_13, tb_140_17, tb_140_23, tb_140_28, tb_140_38, tb_140_44, tb_140_41, tb_140_58, tb_140_72, tb_140_64, tb_140_77, tw_thf, m_isPerson f8 hN, if_neg hb, if_pos hy0, if_neg (tn_nl hy0), Option.bind_some, Option.toList_some, Option.toList_none, List.cons_append, List.nil_append, List.append_nil]
    · obtain ⟨j, hj, rfl⟩ := nI_of hy0
      by_cases hz : tw_in z 2
      · have hzb := tw_ib_t hz
        have i7 : (7 : Int32) + nI p = nI (7 + p) := nI_add 7 p
        have j7 : tw_in (nI (7 + p)) (tw_al 36) := tn_in (show 7 + p < 363 by omega) (by decide)
        have k7 : (nI (7 + p)).toNatClampNeg = 7 + p := nI_clamp (by omega)
        have z0 : ¬ z < 0 := (tn_in_lt (n := 2) (by omega) hz).1
        have z1 : ¬ (1 : Int32) < z := by rcases tn_c2 hz with rfl | rfl <;> decide
        have z2 : z ≤ (1 : Int32) := by rcases tn_c2 hz with rfl | rfl <;> decide
        have z3 : (0 : Int32) ≤ z := by rcases tn_c2 hz with rfl | rfl <;> decide
        by_cases hl : j < tw_er μ p
        · have e1 : ¬ nI (tw_er μ p) ≤ nI j := nI_ge hl (by omega)
          have e2 : nI j < nI (tw_er μ p) := nI_lt hl (by omega)
          obtain ⟨⟨a, ha, ea⟩, ⟨b, hb2, eb⟩⟩ := q5 j hl
          have hv : (8 : Int32) * tw_gi μ 15 p j + tw_gi μ 16 p j = nI (8 * a + b) := by
            rw [ea, eb]
            show nI 8 * nI a + nI b = _
            rw [pk_mul, nI_add]
          have iv : (123 : Int32) + 60 * nI p + nI j = nI (123 + 60 * p + j) := by
            show nI 123 + nI 60 * nI p + nI j = _
            rw [pk_mul, nI_add, nI_add]
          have jv : tw_in (nI (123 + 60 * p + j)) (tw_al 36) := tn_in (show 123 + 60 * p + j < 363 by omega) (by decide)
          have kv : (nI (123 + 60 * p + j)).toNatClampNeg = 123 + 60 * p + j := nI_clamp (by omega)
          have d8 : nI (8 * a + b) / 8 = nI a := by
            have := pk_div (a := 8 * a + b) (d := 8) (by omega) (by omega) (by omega)
            rw [show (8 * a + b) / 8 = a by omega] at this
            exact this
          have m8 : nI (8 * a + b) - nI (8 * a + b) / 8 * 8 = nI b := by
            have := pk_rem (a := 8 * a + b) (d := 8) (by omega) (by omega) (by omega)
            rw [show (8 * a + b) % 8 = b by omega] at this
            exact this
          rcases tn_c2 hz with rfl | rfl
          · refine tw_J_of R0 (r := tw_I (nI a)) ?_ ?_
            · simp only [te_68, tb_68_0, tb_68_5, tb_68_5a, tb_68_12, tb_68_25, tb_68_16, tb_68_20, tb_68_27, tb_68_39, tb_68_36, tb_68_55, tb_68_43, tb_68_64, tb_68_52, s_earOf_t e8 c4 hp, if_neg hy0, if_pos (nI_pos' hj), if_neg z0, if_neg z1, if_pos z2, if_pos z3, q3, if_neg e1, if_pos e2, s_at (k := 15) rfl, tw_rd_p (μ := μ) (k := 15) (n := p) 60 rfl (show j < 60 by omega), ea, Option.bind_some, Option.toList_some, Option.toList_none, List.cons_append, List.nil_append, List.append_nil, eq_self, if_true, if_false, tn_l01, tn_l02, tn_l03, tn_l04, tn_l05, tn_l10, tn_l12, tn_l13, tn_l14, tn_l15, tn_l20, tn_l21, tn_l23, tn_l24, tn_l25, tn_l30, tn_l31, tn_l32, tn_l34, tn_l35, tn_l40, tn_l41, tn_l42, tn_l43, tn_l45, tn_l50, tn_l51, tn_l52, tn_l53, tn_l54]
            · simp only [te_140, tb_140_0, tb_140_10, tb_140_26, tb_140_13, tb_140_17, tb_140_23, tb_140_28, tb_140_38, tb_140_44, tb_140_41, tb_140_58, tb_140_72, tb_140_64, tb_140_77, tw_thf, m_isPerson f8 hN, m_in_1, if_neg hb, if_neg hzb, if_neg hy0, if_pos (nI_pos' hj), i7, if_pos j7, k7, q7, q3, if_neg e1, if_pos e2, iv, if_pos jv, kv, q8 j hl, hv, d8, Option.bind_some, Option.toList_some, Option.toList_none, List.cons_append, List.nil_append, List.append_nil, eq_self, if_true, if_false, tn_l01, tn_l02, tn_l03, tn_l04, tn_l05, tn_l10, tn_l12, tn_l13, tn_l14, tn_l15, tn_l20, tn_l21, tn_l23, tn_l24, tn_l25, tn_l30, tn_l31, tn_l32, tn_l34, tn_l35, tn_l40, tn_l41, tn_l42, tn_l43, tn_l45, tn_l50, tn_l51, tn_l52, tn_l53, tn_l54]
          · refine tw_J_of R0 (r := tw_I (nI b)) ?_ ?_
            · simp only [te_68, tb_68_0, tb_68_5, tb_68_5a, tb_68_12, tb_68_25, tb_68_16, tb_68_20, tb_68_27, tb_68_39, tb_68_36, tb_68_55, tb_68_43, tb_68_64, tb_68_52, s_earOf_t e8 c4 hp, if_neg hy0, if_pos (nI_pos' hj), if_neg z0, if_neg z1, if_pos z2, if_pos z3, q3, if_neg e1, if_pos e2, s_at (k := 16) rfl, tw_rd_p (μ := μ) (k := 16) (n := p) 60 rfl (show j < 60 by omega), eb, Option.bind_some, Option.toList_some, Option.toList_none, List.cons_append, List.nil_append, List.append_nil, eq_self, if_true, if_false, tn_l01, tn_l02, tn_l03, tn_l04, tn_l05, tn_l10, tn_l12, tn_l13, tn_l14, tn_l15, tn_l20, tn_l21, tn_l23, tn_l24, tn_l25, tn_l30, tn_l31, tn_l32, tn_l34, tn_l35, tn_l40, tn_l41, tn_l42, tn_l43, tn_l45, tn_l50, tn_l51, tn_l52, tn_l53, tn_l54]
            · simp only [te_140, tb_140_0, tb_140_10, tb_140_26, tb_140_13, tb_140_17, tb_140_23, tb_140_28, tb_140_38, tb_140_44, tb_140_41, tb_140_58, tb_140_72, tb_140_64, tb_140_77, tw_thf, m_isPerson f8 hN, m_in_1, if_neg hb, if_neg hzb, if_neg hy0, if_pos (nI_pos' hj), i7, if_pos j7, k7, q7, q3, if_neg e1, if_pos e2, iv, if_pos jv, kv, q8 j hl, hv, m8, Option.bind_some, Option.toList_some, Option.toList_none, List.cons_append, List.nil_append, List.append_nil, eq_self, if_true, if_false, tn_l01, tn_l02, tn_l03, tn_l04, tn_l05, tn_l10, tn_l12, tn_l13, tn_l14, tn_l15, tn_l20, tn_l21, tn_l23, tn_l24, tn_l25, tn_l30, tn_l31, tn_l32, tn_l34, tn_l35, tn_l40, tn_l41, tn_l42, tn_l43, tn_l45, tn_l50, tn_l51, tn_l52, tn_l53, tn_l54]
        · have e1 : nI (tw_er μ p) ≤ nI j := nI_le (by omega) hj
          have e2 : ¬ nI j < nI (tw_er μ p) := nI_nlt (by omega) hj
          refine tw_J_of R0 (r := tw_I (-5)) ?_ ?_
          · simp only [te_68, tb_68_0, tb_68_5, tb_68_5a, tb_68_12, tb_68_25, tb_68_16, tb_68_20, tb_68_27, tb_68_39, tb_68_36, tb_68_55, tb_68_43, tb_68_64, tb_68_52, s_earOf_t e8 c4 hp, if_neg hy0, if_pos (nI_pos' hj), if_neg z0, if_neg z1, if_pos z2, if_pos z3, q3, if_pos e1, if_neg e2, Option.bind_some, Option.toList_some, Option.toList_none, List.cons_append, List.nil_append, List.append_nil]
          · simp only [te_140, tb_140_0, tb_140_10, tb_140_26, tb_140_13, tb_140_17, tb_140_23, tb_140_28, tb_140_38, tb_140_44, tb_140_41, tb_140_58, tb_140_72, tb_140_64, tb_140_77, tw_thf, m_isPerson f8 hN, m_in_1, if_neg hb, if_neg hzb, if_neg hy0, if_pos (nI_pos' hj), i7, if_pos j7, k7, q7, q3, if_pos e1, if_neg e2, Option.bind_some, Option.toList_some, Option.toList_none, List.cons_append, List.nil_append, List.append_nil]
      · refine tw_J_of R0 (r := tw_I (-1)) ?_ ?_
        · by_cases z0 : z < 0
          · simp only [te_68, tb_68_0, tb_68_5, tb_68_5a, tb_68_12, tb_68_25, tb_68_16, tb_68_20, tb_68_27, tb_68_39, tb_68_36, tb_68_55, tb_68_43, tb_68_64, tb_68_52, s_earOf_t e8 c4 hp, if_neg hy0, if_pos (nI_pos' hj), if_pos z0, if_neg (tn_nl z0), Option.bind_some, Option.toList_some, Option.toList_none, List.cons_append, List.nil_append, List.append_nil]
          · have z1 : ¬ z ≤ (1 : Int32) := by
              rw [Int32.le_iff_toInt_le]
              have h2 : nI 2 ≤ z := by
                by_cases q : nI 2 ≤ z
                · exact q
                · exact absurd (tn_out (by omega) z0 q) hz
              rw [Int32.le_iff_toInt_le, nI_toInt (by omega)] at h2
              have : (1 : Int32).toInt = 1 := rfl
              omega
            simp only [te_68, tb_68_0, tb_68_5, tb_68_5a, tb_68_12, tb_68_25, tb_68_16, tb_68_20, tb_68_27, tb_68_39, tb_68_36, tb_68_55, tb_68_43, tb_68_64, tb_68_52, s_earOf_t e8 c4 hp, if_neg hy0, if_pos (nI_pos' hj), if_neg z0, if_neg z1, Option.bind_some, Option.toList_some, Option.toList_none, List.cons_append, List.nil_append, List.append_nil]
        · simp only [te_140, tb_140_0, tb_140_10, tb_140_26, tb_140_13, tb_140_17, tb_140_23, tb_140_28, tb_140_38, tb_140_44, tb_140_41, tb_140_58, tb_140_72, tb_140_64, tb_140_77, tw_thf, m_isPerson f8 hN, m_in_1, if_neg hb, if_neg hy0, if_pos (nI_pos' hj), if_pos (tw_ib_f hz), Option.bind_some, Option.toList_some, Option.toList_none, List.cons_append, List.nil_append, List.append_nil]
  · refine tw_J_of R0 (r := tw_I (-1)) ?_ ?_
    · simp only [te_68, tb_68_0, tb_68_5, tb_68_5a, tb_68_12, tb_68_25, tb_68_16, tb_68_20, tb_68_27, tb_68_39, tb_68_36, tb_68_55, tb_68_43, tb_68_64, tb_68_52, s_earOf_f e8 c4 hx, Option.bind_some, Option.toList_some, Option.toList_none, List.cons_append, List.nil_append, List.append_nil]
    · simp only [te_140, tb_140_0, tb_140_10, tb_140_26, tb_140_13, tb_140_17, tb_140_23, tb_140_28, tb_140_38, tb_140_44, tb_140_41, tb_140_58, tb_140_72, tb_140_64, tb_140_77, tw_thf, m_isPerson f8 hN, if_pos (tw_ib_f hx), Option.bind_some, Option.toList_some, Option.toList_none, List.cons_append, List.nil_append, List.append_nil]
end
