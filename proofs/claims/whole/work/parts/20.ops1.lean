/-- the reference's first step: no fault is told -/
def tw_th (ν : tw_M) : tw_M := tw_si ν 6 0 0 0
theorem tw_th_gi {ν : tw_M} {k n j : Nat} (h : ¬ (k = 6 ∧ n = 0 ∧ j = 0)) : tw_gi (tw_th ν) k n j = tw_gi ν k n j := by
  unfold tw_th
  rw [tw_gi_si, if_neg h]
section
variable {μ ν : tw_M} {x : Int32} {k p h j w P H S N C : Nat}
theorem tw_Es.th {i : Nat} {ν : tw_M} (h : tw_Es N μ i (tw_f0 ν) C) : tw_Es N μ i (tw_f0 (tw_th ν)) C := by
  have e : tw_f0 (tw_th ν) = tw_f0 ν := by
    funext j
    exact tw_th_gi (by omega)
  rw [e]
  exact h
theorem tw_Rn.th (R : tw_Rn P H S N C h μ ν) : tw_Rn P H S N C h μ (tw_th ν) := by
  obtain ⟨h1, h2, h3, h4⟩ := R
  refine ⟨h1, ?_, h3, h4.th⟩
  obtain ⟨a1, a2, a3, a4, a5, a6, a7, a8⟩ := h2
  exact ⟨by rw [tw_th_gi (by omega)]; exact a1, by rw [tw_th_gi (by omega)]; exact a2, by rw [tw_th_gi (by omega)]; exact a3, by rw [tw_th_gi (by omega)]; exact a4, fun p hp => by rw [tw_th_gi (by omega)]; exact a5 p hp, fun p hp => by rw [tw_th_gi (by omega)]; exact a6 p hp, fun p hp => by rw [tw_th_gi (by omega)]; exact a7 p hp, fun p hp => by rw [tw_th_gi (by omega), tw_th_gi (by omega)]; exact a8 p hp⟩
theorem tw_Et.th {T : Nat} (R : tw_Et T μ ν) : tw_Et T μ (tw_th ν) :=
  ⟨R.1, R.2.1, by rw [tw_th_gi (by omega)]; exact R.2.2.1, fun j hj => ⟨(R.2.2.2 j hj).1, by rw [tw_th_gi (by omega)]; exact (R.2.2.2 j hj).2⟩⟩
theorem tw_Ei.th (R : tw_Ei P S N μ ν) : tw_Ei P S N μ (tw_th ν) := by
  intro m hm
  obtain ⟨h1, h2⟩ := R m hm
  refine ⟨by rw [tw_th_gi (by omega)]; exact h1, ?_⟩
  rcases h2 with h2 | ⟨h2, C, h, h3, h4⟩
  · exact Or.inl h2
  · refine Or.inr ⟨h2, C, h, h3, ?_⟩
    have e : tw_f1 (tw_th ν) m = tw_f1 ν m := by
      funext j
      exact tw_th_gi (by omega)
    rw [e]
    exact h4
theorem tw_Rl.th (R : tw_Rl μ ν) : tw_Rl μ (tw_th ν) := by
  obtain ⟨P, H, S, N, C, h, T, h1, h2, h3, h4⟩ := R
  exact ⟨P, H, S, N, C, h, T, h1.th, h2.th, h3.th, h4⟩
end
/-- both answer alike, and hold the same behind it -/
def tw_Jn (j m : Nat) (as : List tw_V) (μ ν : tw_M) : Prop := ∃ r μ' ν', tw_call j (tw_R 5 0 :: as) μ = some (some r, μ') ∧ tw_call m (tw_R 6 0 :: as) ν = some (some r, ν') ∧ tw_Rl μ' ν'
theorem tw_J_of {j m : Nat} {as : List tw_V} {μ ν : tw_M} {r : tw_V} (R : tw_Rl μ ν) (h1 : tw_call j (tw_R 5 0 :: as) μ = some (some r, μ)) (h2 : tw_call m (tw_R 6 0 :: as) ν = some (some r, tw_th ν)) : tw_Jn j m as μ ν := ⟨r, μ, _, h1, h2, R.th⟩
theorem tn_ib1 {x : Int32} {n : Nat} (h : tw_in x n) : tw_ib x n = 1 := by
  unfold tw_ib
  rw [if_pos h]
section
variable {μ ν : tw_M} {x y z : Int32} {k p h j w P H S N C : Nat}
theorem s_hangingAt (R : tw_Rn P H S N C h μ ν) : tw_call 43 [tw_R 3 0, tw_I x] μ = some (some (tw_I (nI (tw_hp μ x C))), μ) := by
  obtain ⟨c8, -, e2, -, -, -, -⟩ := rn_0 R
  have loop : ∀ (d k : Nat) (o : Option tw_V), k + d = C → tw_run 43 4 [some (tw_R 3 0), some (tw_I x), some (tw_I (nI (tw_hp μ x k))), some (tw_I (nI k)), o] [] μ = some (some (tw_I (nI (tw_hp μ x C))), μ) := by
    intro d
    induction d with
    | zero =>
      intro k o hk
      have hk2 : k = C := by omega
      subst hk2
      rw [tb_43_4, e2, if_pos (nI_le (Nat.le_refl _) (by omega)), tb_43_47]
    | succ d ih =>
      intro k o hk
      have hk2 : k < C := by omega
      obtain ⟨k8, -, hbp, -, hl1, hl2, -⟩ := rn_k R hk2
      have ih2 := ih (k + 1) (some (tw_R 2 k)) (by omega)
      have e3 : ¬ nI C ≤ nI k := nI_ge hk2 (by omega)
      rw [show tw_hp μ x (k + 1) = tw_hp μ x k + (if tw_gi μ 2 k 4 = x then tw_hg μ k else 0) from rfl, ← nI_add] at ih2
      rw [tb_43_4, e2, if_neg e3, tb_43_12, s_sayingAt_t e2 c8 hk2, Nat.mul_zero, Nat.zero_add]
      by_cases z : tw_gi μ 2 k 4 = x
      · rw [if_pos z] at ih2
        simp only [Option.bind_some, Option.toList_some, Option.toList_none, List.cons_append, List.nil_append, List.append_nil, tb_43_17, tb_43_24, if_pos z, tb_43_33, s_hanging (n := k) ⟨_, hl2, hl1⟩, tb_43_39, tb_43_41, nI_1]
        exact ih2
      · rw [if_neg z] at ih2
        simp only [Option.bind_some, Option.toList_some, Option.toList_none, List.cons_append, List.nil_append, List.append_nil, tb_43_17, tb_43_24, if_neg z, tb_43_41, nI_1]
        rw [show nI 0 = 0 from rfl, show nI (tw_hp μ x k) + (0 : Int32) = nI (tw_hp μ x k) from by simp] at ih2
        exact ih2
  rw [te_43, tb_43_0]
  exact loop C 0 _ (by omega)
theorem tn_not4 {n : Nat} (hn : n < 2 ^ 31) (h : ¬ tw_in y n) {j : Nat} (hj : j < n) : ¬ y = nI j := fun z => h (by rw [z]; exact tn_in hj hn)
theorem tn_c2 (h : tw_in y 2) : y = 0 ∨ y = 1 := by
  obtain ⟨j, hj, rfl⟩ := tn_of_in h (by omega)
  match j, hj with
  | 0, _ => exact Or.inl rfl
  | 1, _ => exact Or.inr rfl
  | n + 2, h => exact absurd h (by omega)
theorem tn_c3 (h : tw_in y 3) : y = 0 ∨ y = 1 ∨ y = 2 := by
  obtain ⟨j, hj, rfl⟩ := tn_of_in h (by omega)
  match j, hj with
  | 0, _ => exact Or.inl rfl
  | 1, _ => exact Or.inr (Or.inl rfl)
  | 2, _ => exact Or.inr (Or.inr rfl)
  | n + 3, h => exact absurd h (by omega)
theorem tn_c4 (h : tw_in y 4) : y = 0 ∨ y = 1 ∨ y = 2 ∨ y = 3 := by
  obtain ⟨j, hj, rfl⟩ := tn_of_in h (by omega)
  match j, hj with
  | 0, _ => exact Or.inl rfl
  | 1, _ => exact Or.inr (Or.inl rfl)
  | 2, _ => exact Or.inr (Or.inr (Or.inl rfl))
  | 3, _ => exact Or.inr (Or.inr (Or.inr rfl))
  | n + 4, h => exact absurd h (by omega)
theorem tn_c5 (h : tw_in y 5) : y = 0 ∨ y = 1 ∨ y = 2 ∨ y = 3 ∨ y = 4 := by
  obtain ⟨j, hj, rfl⟩ := tn_of_in h (by omega)
  match j, hj with
  | 0, _ => exact Or.inl rfl
  | 1, _ => exact Or.inr (Or.inl rfl)
  | 2, _ => exact Or.inr (Or.inr (Or.inl rfl))
  | 3, _ => exact Or.inr (Or.inr (Or.inr (Or.inl rfl)))
  | 4, _ => exact Or.inr (Or.inr (Or.inr (Or.inr rfl)))
  | n + 5, h => exact absurd h (by omega)
theorem tn_c6 (h : tw_in y 6) : y = 0 ∨ y = 1 ∨ y = 2 ∨ y = 3 ∨ y = 4 ∨ y = 5 := by
  obtain ⟨j, hj, rfl⟩ := tn_of_in h (by omega)
  match j, hj with
  | 0, _ => exact Or.inl rfl
  | 1, _ => exact Or.inr (Or.inl rfl)
  | 2, _ => exact Or.inr (Or.inr (Or.inl rfl))
  | 3, _ => exact Or.inr (Or.inr (Or.inr (Or.inl rfl)))
  | 4, _ => exact Or.inr (Or.inr (Or.inr (Or.inr (Or.inl rfl))))
  | 5, _ => exact Or.inr (Or.inr (Or.inr (Or.inr (Or.inr rfl))))
  | n + 6, h => exact absurd h (by omega)
theorem tw_thf : tw_si ν 6 0 0 0 = tw_th ν := rfl
theorem tw_rd_p {k n j : Nat} (a : Nat) (ha : tw_al k = a) (h : j < a) : tw_rd μ k n (nI j) = tw_gi μ k n j := tw_rd_n (by rw [ha]; exact h)
theorem op_place (R0 : tw_Rl μ ν) : tw_Jn 44 125 [tw_I x, tw_I y] μ ν := by
  obtain ⟨P, H, S, N, C, h, T, R, -⟩ := id R0
  have R' := R.th
  obtain ⟨c1, c2, c3, c4, e5, e6, e7, e8, f5, f6, f7, f8⟩ := rn_c R'
  obtain ⟨g1, g2, g3, g4, g5, g6, g7⟩ := rn_0 R'
  have hP : P < 2 ^ 31 := by omega
  by_cases hx : tw_in x P
  · obtain ⟨p, hp, rfl⟩ := tn_of_in hx (by omega)
    have hcol := R'.2.1.2.2.2.2.1 p hp
    have e1 := tw_rd_p (μ := μ) (k := 10) (n := 0) 4 rfl (show p < 4 by omega)
    have e2 : tw_in (nI p) (tw_al 31) := tn_in (show p < 8 by omega) (by decide)
    have e3 : (nI p).toNatClampNeg = p := nI_clamp (by omega)
    by_cases hy : tw_in y 4
    · have hyb := tw_ib_t hy
      rcases tn_c4 hy with rfl | rfl | rfl | rfl
      · refine tw_J_of R0 (r := tw_I (tw_gi μ 10 0 p)) ?_ ?_
        · simp only [te_44, tb_44_0, tb_44_8, tb_44_14, tb_44_11, tb_44_102, tb_44_85, tb_44_76, tb_44_56, tb_44_44, tb_44_93, tb_44_84, tb_44_75, tb_44_55, tb_44_100, tb_44_96, tb_44_101, s_isPlace (c := 0) e5 hP, s_at (k := 10) rfl, e1, if_neg (tw_ib_t hx), Option.bind_some, Option.toList_some, Option.toList_none, List.cons_append, List.nil_append, List.append_nil, eq_self, if_true, if_false, tn_l01, tn_l02, tn_l03, tn_l04, tn_l05, tn_l10, tn_l12, tn_l13, tn_l14, tn_l15, tn_l20, tn_l21, tn_l23, tn_l24, tn_l25, tn_l30, tn_l31, tn_l32, tn_l34, tn_l35, tn_l40, tn_l41, tn_l42, tn_l43, tn_l45, tn_l50, tn_l51, tn_l52, tn_l53, tn_l54]
        · simp only [te_125, tb_125_0, tb_125_10, tb_125_22, tb_125_13, tb_125_19, tb_125_25, tb_125_38, tb_125_29, tb_125_51, tb_125_43, tb_125_35, tb_125_64, tb_125_56, tb_125_48, tb_125_77, tb_125_69, tb_125_61, tb_125_76, tb_125_72, tw_thf, m_isPlace f5 hP, m_in_3, if_neg (tw_ib_t hx), if_neg hyb, if_pos e2, e3, hcol, Option.bind_some, Option.toList_some, Option.toList_none, List.cons_append, List.nil_append, List.append_nil, eq_self, if_true, if_false, tn_l01, tn_l02, tn_l03, tn_l04, tn_l05, tn_l10, tn_l12, tn_l13, tn_l14, tn_l15, tn_l20, tn_l21, tn_l23, tn_l24, tn_l25, tn_l30, tn_l31, tn_l32, tn_l34, tn_l35, tn_l40, tn_l41, tn_l42, tn_l43, tn_l45, tn_l50, tn_l51, tn_l52, tn_l53, tn_l54]
      · refine tw_J_of R0 (r := tw_I (tw_ai μ H p h)) ?_ ?_
        · simp only [te_44, tb_44_0, tb_44_8, tb_44_14, tb_44_11, tb_44_102, tb_44_85, tb_44_76, tb_44_56, tb_44_44, tb_44_93, tb_44_84, tb_44_75, tb_44_55, tb_44_100, tb_44_96, tb_44_101, s_isPlace (c := 0) e5 hP, g4, s_airIn e6 c2 (show h < 2 ^ 30 by omega) (show p < 4 by omega), if_neg (tw_ib_t hx), Option.bind_some, Option.toList_some, Option.toList_none, List.cons_append, List.nil_append, List.append_nil, eq_self, if_true, if_false, tn_l01, tn_l02, tn_l03, tn_l04, tn_l05, tn_l10, tn_l12, tn_l13, tn_l14, tn_l15, tn_l20, tn_l21, tn_l23, tn_l24, tn_l25, tn_l30, tn_l31, tn_l32, tn_l34, tn_l35, tn_l40, tn_l41, tn_l42, tn_l43, tn_l45, tn_l50, tn_l51, tn_l52, tn_l53, tn_l54]
        · simp only [te_125, tb_125_0, tb_125_10, tb_125_22, tb_125_13, tb_125_19, tb_125_25, tb_125_38, tb_125_29, tb_125_51, tb_125_43, tb_125_35, tb_125_64, tb_125_56, tb_125_48, tb_125_77, tb_125_69, tb_125_61, tb_125_76, tb_125_72, tw_thf, m_isPlace f5 hP, m_in_3, if_neg (tw_ib_t hx), if_neg hyb, m_air R' hp, Option.bind_some, Option.toList_some, Option.toList_none, List.cons_append, List.nil_append, List.append_nil, eq_self, if_true, if_false, tn_l01, tn_l02, tn_l03, tn_l04, tn_l05, tn_l10, tn_l12, tn_l13, tn_l14, tn_l15, tn_l20, tn_l21, tn_l23, tn_l24, tn_l25, tn_l30, tn_l31, tn_l32, tn_l34, tn_l35, tn_l40, tn_l41, tn_l42, tn_l43, tn_l45, tn_l50, tn_l51, tn_l52, tn_l53, tn_l54]
      · refine tw_J_of R0 (r := tw_I (nI (tw_hp μ (nI p) C))) ?_ ?_
        · simp only [te_44, tb_44_0, tb_44_8, tb_44_14, tb_44_11, tb_44_102, tb_44_85, tb_44_76, tb_44_56, tb_44_44, tb_44_93, tb_44_84, tb_44_75, tb_44_55, tb_44_100, tb_44_96, tb_44_101, s_isPlace (c := 0) e5 hP, s_hangingAt R', if_neg (tw_ib_t hx), Option.bind_some, Option.toList_some, Option.toList_none, List.cons_append, List.nil_append, List.append_nil, eq_self, if_true, if_false, tn_l01, tn_l02, tn_l03, tn_l04, tn_l05, tn_l10, tn_l12, tn_l13, tn_l14, tn_l15, tn_l20, tn_l21, tn_l23, tn_l24, tn_l25, tn_l30, tn_l31, tn_l32, tn_l34, tn_l35, tn_l40, tn_l41, tn_l42, tn_l43, tn_l45, tn_l50, tn_l51, tn_l52, tn_l53, tn_l54]
        · simp only [te_125, tb_125_0, tb_125_10, tb_125_22, tb_125_13, tb_125_19, tb_125_25, tb_125_38, tb_125_29, tb_125_51, tb_125_43, tb_125_35, tb_125_64, tb_125_56, tb_125_48, tb_125_77, tb_125_69, tb_125_61, tb_125_76, tb_125_72, tw_thf, m_isPlace f5 hP, m_in_3, if_neg (tw_ib_t hx), if_neg hyb, m_hangingAt R' (show p < 2 ^ 31 by omega), Option.bind_some, Option.toList_some, Option.toList_none, List.cons_append, List.nil_append, List.append_nil, eq_self, if_true, if_false, tn_l01, tn_l02, tn_l03, tn_l04, tn_l05, tn_l10, tn_l12, tn_l13, tn_l14, tn_l15, tn_l20, tn_l21, tn_l23, tn_l24, tn_l25, tn_l30, tn_l31, tn_l32, tn_l34, tn_l35, tn_l40, tn_l41, tn_l42, tn_l43, tn_l45, tn_l50, tn_l51, tn_l52, tn_l53, tn_l54]
      · refine tw_J_of R0 (r := tw_I (if tw_bv (tw_gi μ 3 0 5) (nI p) = 0 then 0 else 1)) ?_ ?_
        · simp only [te_44, tb_44_0, tb_44_8, tb_44_14, tb_44_11, tb_44_102, tb_44_85, tb_44_76, tb_44_56, tb_44_44, tb_44_93, tb_44_84, tb_44_75, tb_44_55, tb_44_100, tb_44_96, tb_44_101, s_isPlace (c := 0) e5 hP, s_isLit, if_neg (tw_ib_t hx), Option.bind_some, Option.toList_some, Option.toList_none, List.cons_append, List.nil_append, List.append_nil, eq_self, if_true, if_false, tn_l01, tn_l02, tn_l03, tn_l04, tn_l05, tn_l10, tn_l12, tn_l13, tn_l14, tn_l15, tn_l20, tn_l21, tn_l23, tn_l24, tn_l25, tn_l30, tn_l31, tn_l32, tn_l34, tn_l35, tn_l40, tn_l41, tn_l42, tn_l43, tn_l45, tn_l50, tn_l51, tn_l52, tn_l53, tn_l54]
          split <;> rfl
        · simp only [te_125, tb_125_0, tb_125_10, tb_125_22, tb_125_13, tb_125_19, tb_125_25, tb_125_38, tb_125_29, tb_125_51, tb_125_43, tb_125_35, tb_125_64, tb_125_56, tb_125_48, tb_125_77, tb_125_69, tb_125_61, tb_125_76, tb_125_72, tw_thf, m_isPlace f5 hP, m_in_3, if_neg (tw_ib_t hx), if_neg hyb, m_isLit R', Option.bind_some, Option.toList_some, Option.toList_none, List.cons_append, List.nil_append, List.append_nil, eq_self, if_true, if_false, tn_l01, tn_l02, tn_l03, tn_l04, tn_l05, tn_l10, tn_l12, tn_l13, tn_l14, tn_l15, tn_l20, tn_l21, tn_l23, tn_l24, tn_l25, tn_l30, tn_l31, tn_l32, tn_l34, tn_l35, tn_l40, tn_l41, tn_l42, tn_l43, tn_l45, tn_l50, tn_l51, tn_l52, tn_l53, tn_l54]
          split <;> rfl
    · have n0 : ¬ y = 0 := tn_not4 (n := 4) (by omega) hy (j := 0) (by omega)
      have n1 : ¬ y = 1 := tn_not4 (n := 4) (by omega) hy (j := 1) (by omega)
      have n2 : ¬ y = 2 := tn_not4 (n := 4) (by omega) hy (j := 2) (by omega)
      have n3 : ¬ y = 3 := tn_not4 (n := 4) (by omega) hy (j := 3) (by omega)
      refine tw_J_of R0 (r := tw_I (-1000000)) ?_ ?_
      · simp only [te_44, tb_44_0, tb_44_8, tb_44_14, tb_44_11, tb_44_102, tb_44_85, tb_44_76, tb_44_56, tb_44_44, tb_44_93, tb_44_84, tb_44_75, tb_44_55, tb_44_100, tb_44_96, tb_44_101, s_isPlace (c := 0) e5 hP, if_neg (tw_ib_t hx), if_neg n0, if_neg n1, if_neg n2, if_neg n3, Option.bind_some, Option.toList_some, Option.toList_none, List.cons_append, List.nil_append, List.append_nil]
      · simp only [te_125, tb_125_0, tb_125_10, tb_125_22, tb_125_13, tb_125_19, tb_125_25, tb_125_38, tb_125_29, tb_125_51, tb_125_43, tb_125_35, tb_125_64, tb_125_56, tb_125_48, tb_125_77, tb_125_69, tb_125_61, tb_125_76, tb_125_72, tw_thf, m_isPlace f5 hP, m_in_3, if_neg (tw_ib_t hx), if_pos (tw_ib_f hy), Option.bind_some, Option.toList_some, Option.toList_none, List.cons_append, List.nil_append, List.append_nil]
  · refine tw_J_of R0 (r := tw_I (-1000000)) ?_ ?_
    · simp only [te_44, tb_44_0, tb_44_8, tb_44_14, tb_44_11, tb_44_102, tb_44_85, tb_44_76, tb_44_56, tb_44_44, tb_44_93, tb_44_84, tb_44_75, tb_44_55, tb_44_100, tb_44_96, tb_44_101, s_isPlace (c := 0) e5 hP, if_pos (tw_ib_f hx), Option.bind_some, Option.toList_some, Option.toList_none, List.cons_append, List.nil_append, List.append_nil]
    · simp only [te_125, tb_125_0, tb_125_10, tb_125_22, tb_125_13, tb_125_19, tb_125_25, tb_125_38, tb_125_29, tb_125_51, tb_125_43, tb_125_35, tb_125_64, tb_125_56, tb_125_48, tb_125_77, tb_125_69, tb_125_61, tb_125_76, tb_125_72, tw_thf, m_isPlace f5 hP, if_pos (tw_ib_f hx), Option.bind_some, Option.toList_some, Option.toList_none, List.cons_append, List.nil_append, List.append_nil]
end
