/-! goes, clear, anew, type -/
def ux_txt (k n _j : Nat) : Prop := n = 0 ∧ (k = 4 ∨ k = 20)
def ux_mtx (k _n j : Nat) : Prop := (k = 6 ∧ j = 3) ∨ k = 30
section
variable {μ μ' ν ν' : tw_M} {x y z u v : Int32} {s k p h j t w n P H S N C T i : Nat}
theorem tw_Rn.fr (R : tw_Rn P H S N C h μ ν) (f : ∀ k n j, (ux_c k n ∨ ux_s 0 k n) → tw_gi μ' k n j = tw_gi μ k n j) (g : ∀ k j, ((k = 6 ∧ 14 ≤ j ∧ j ≤ 17) ∨ (31 ≤ k ∧ k ≤ 35) ∨ k = 36) → tw_gi ν' k 0 j = tw_gi ν k 0 j) : tw_Rn P H S N C h μ' ν' := by
  obtain ⟨h1, h2, h3, h4⟩ := R
  have hN := h1.2.2.2.1
  have e := ux_eq.of (μ := μ) (μ' := μ') (i := 0) h3.1 (fun k n j q => f k n j (Or.inr q))
  exact ⟨h1.fr (fun k n j q => f k n j (Or.inl q)), h2.fr (fun k n j q => f k n j (Or.inl q)) (fun k j q => g k j (by omega)), h3.tf hN e, h4.tf h3 hN e (fun j _ => g 36 j (by omega))⟩
theorem tw_Rl.txt (R : tw_Rl μ ν) (f : ux_fr ux_txt μ μ') (g : ux_fr ux_mtx ν ν') (h3 : tw_Et T μ' ν') : tw_Rl μ' ν' := by
  obtain ⟨P, H, S, N, C, h, T', h1, h2, h4, h5⟩ := R
  refine ⟨P, H, S, N, C, h, T, h1.fr (fun k n j q => f.1 k n j ?_) (fun k j q => g.1 k 0 j ?_), h3, h4.fr h1.1.2.2.2.1 (fun m k n j hm q => f.1 k n j ?_) (fun k j q => g.1 k 0 j ?_), ?_⟩
  · unfold ux_txt; unfold ux_c ux_s at q; omega
  · unfold ux_mtx; omega
  · unfold ux_txt; unfold ux_s at q; omega
  · unfold ux_mtx; omega
  · rw [f.2, g.2]; exact h5
theorem ux_f0 {a : Nat} {v : Int32} : tw_f0 (tw_si ν 36 0 a v) j = if j = a then v else tw_f0 ν j := by
  unfold tw_f0
  rw [tw_gi_si]
  by_cases z : j = a
  · rw [if_pos ⟨rfl, rfl, z⟩, if_pos z]
  · rw [if_neg (fun q => z q.2.2), if_neg z]
theorem op_clear (R0 : tw_Rl μ ν) : tw_Jn 3 105 [] μ ν := by
  obtain ⟨P, H, S, N, C, h, T, R, Tt, -⟩ := id R0
  refine ⟨tw_I (nI T), tw_si μ 4 0 1 0, tw_si (tw_th ν) 6 0 3 0, ?_, ?_, ?_⟩
  · rw [te_3, tb_3_0, Tt.2.1]
  · rw [te_105, tb_105_0, tw_thf, Tt.th.2.2.1]
  · refine R0.th.txt (T := 0) (ux_fr.rf.si ⟨rfl, Or.inl rfl⟩) (ux_fr.rf.si (Or.inl ⟨rfl, rfl⟩)) ?_
    exact ⟨Nat.zero_le _, tw_gi_eq, tw_gi_eq, fun j hj => absurd hj (Nat.not_lt_zero _)⟩
theorem op_goes (R0 : tw_Rl μ ν) : tw_Jn 60 133 [tw_I x, tw_I y] μ ν := by
  obtain ⟨P, H, S, N, C, h, T, R, Tt, Ei, Tr⟩ := id R0
  have R' := R.th
  obtain ⟨c1, c2, c3, c4, e5, e6, e7, e8, f5, f6, f7, f8⟩ := rn_c R'
  have hP : P < 2 ^ 31 := by omega
  have hN : N < 2 ^ 31 := by omega
  by_cases hx : tw_in x N
  · have hxb := tw_ib_t hx
    by_cases hy : tw_in y P
    · have hyb := tw_ib_t hy
      obtain ⟨p, hp, rfl⟩ := tn_of_in hx hN
      obtain ⟨t, ht, rfl⟩ := tn_of_in hy hP
      obtain ⟨p4, q2, q3, q4, q5, q6, q7, q8⟩ := rn_p R' hp
      have ia : (3 : Int32) + nI p = nI (3 + p) := nI_add 3 p
      have ib : tw_in (nI (3 + p)) (tw_al 36) := tn_in (show 3 + p < 363 by omega) (by decide)
      have ic : (nI (3 + p)).toNatClampNeg = 3 + p := nI_clamp (by omega)
      by_cases z : tw_gi μ 19 0 p = nI t
      · refine tw_J_of R0 (r := tw_I (-2)) ?_ ?_
        · simp only [te_60, tb_60_0, tb_60_8, tb_60_22, tb_60_11, tb_60_19, tb_60_24, tb_60_35, tb_60_44, tb_60_41, tb_60_56, s_isPerson (c := 0) e8 hN, s_isPlace (c := 0) e5 hP, s_at (k := 19) rfl, tw_rd_p (μ := μ) (k := 19) (n := 0) 4 rfl p4, if_neg hxb, if_neg hyb, if_pos z, Option.bind_some, Option.toList_some, Option.toList_none, List.cons_append, List.nil_append, List.append_nil]
        · simp only [te_133, tb_133_0, tb_133_10, tb_133_21, tb_133_13, tb_133_18, tb_133_23, tb_133_31, tb_133_38, tb_133_35, tb_133_46, tb_133_56, tw_thf, m_isPerson f8 hN, m_isPlace f5 hP, if_neg hxb, if_neg hyb, ia, if_pos ib, ic, q6, if_pos z, Option.bind_some, Option.toList_some, Option.toList_none, List.cons_append, List.nil_append, List.append_nil]
      · refine ⟨tw_I (tw_gi μ 19 0 p), tw_si μ 19 0 p (nI t), tw_si (tw_th ν) 36 0 (3 + p) (nI t), ?_, ?_, ?_⟩
        · simp only [te_60, tb_60_0, tb_60_8, tb_60_22, tb_60_11, tb_60_19, tb_60_24, tb_60_35, tb_60_44, tb_60_41, tb_60_56, s_isPerson (c := 0) e8 hN, s_isPlace (c := 0) e5 hP, s_at (k := 19) rfl, tw_rd_p (μ := μ) (k := 19) (n := 0) 4 rfl p4, if_neg hxb, if_neg hyb, if_neg z, s_put (k := 19) rfl, tw_wr_n (k := 19) (show p < tw_al 19 from p4), Option.bind_some, Option.toList_some, Option.toList_none, List.cons_append, List.nil_append, List.append_nil]
        · simp only [te_133, tb_133_0, tb_133_10, tb_133_21, tb_133_13, tb_133_18, tb_133_23, tb_133_31, tb_133_38, tb_133_35, tb_133_46, tb_133_56, tw_thf, m_isPerson f8 hN, m_isPlace f5 hP, if_neg hxb, if_neg hyb, ia, if_pos ib, ic, q6, if_neg z, Option.bind_some, Option.toList_some, Option.toList_none, List.cons_append, List.nil_append, List.append_nil]
        · refine ux_rest (P := P) (H := H) (S := S) (N := N) (C := C) (h := h) R'.1 R'.2.1 Tt.th Ei.th Tr (ux_fr.rf.si (by unfold ux_now ux_s; omega)) (ux_fr.rf.si rfl) ?_ ?_
          · obtain ⟨-, -, ⟨i1, i2, i3, i4, i5, i6, i7, i8⟩, -⟩ := R'
            unfold tw_Is tw_er tw_ln
            rw [ux_ne (k' := 3) (by decide), ux_ne (k' := 1) (by decide), ux_ne (k' := 15) (by decide), ux_ne (k' := 16) (by decide), ux_ne (k' := 2) (by decide), ux_ne (k' := 17) (by decide), ux_ne (k' := 18) (by decide)]
            refine ⟨i1, i2, i3, i4, fun p' hp' => ?_, fun p' h1 h2 => ?_, i7, i8⟩
            · by_cases e : p' = p
              · subst e
                rw [tw_gi_eq]
                exact ⟨t, ht, rfl⟩
              · rw [tw_gi_ne (by omega)]
                exact i5 p' hp'
            · rw [tw_gi_ne (by omega)]
              exact i6 p' h1 h2
          · obtain ⟨-, -, ⟨i1, i2, i3, i4, i5, i6, i7, i8⟩, ⟨j1, j2, j3, j4, j5⟩⟩ := R'
            unfold tw_Es tw_er tw_ln
            rw [ux_ne (k' := 3) (by decide), ux_ne (k' := 1) (by decide), ux_ne (k' := 15) (by decide), ux_ne (k' := 16) (by decide), ux_ne (k' := 2) (by decide), ux_ne (k' := 17) (by decide), ux_ne (k' := 18) (by decide)]
            refine ⟨?_, ?_, ?_, fun p' hp' => ?_, fun k hk => ?_⟩
            · rw [ux_f0, if_neg (by omega)]; exact j1
            · rw [ux_f0, if_neg (by omega)]; exact j2
            · rw [ux_f0, if_neg (by omega)]; exact j3
            · obtain ⟨l1, l2, l3⟩ := j4 p' hp'
              refine ⟨?_, ?_, fun j hj => ?_⟩
              · by_cases e : p' = p
                · subst e
                  rw [tw_gi_eq, ux_f0, if_pos rfl]
                · rw [tw_gi_ne (by omega), ux_f0, if_neg (by omega)]
                  exact l1
              · rw [ux_f0, if_neg (by omega)]; exact l2
              · rw [ux_f0, if_neg (by omega)]; exact l3 j hj
            · obtain ⟨l0, l1, l2, l3, l4, l5, l6⟩ := j5 k hk
              refine ⟨?_, ?_, ?_, ?_, ?_, ?_, fun j hj => ⟨?_, ?_⟩⟩
              · rw [ux_f0, if_neg (by omega)]; exact l0
              · rw [ux_f0, if_neg (by omega)]; exact l1
              · rw [ux_f0, if_neg (by omega)]; exact l2
              · rw [ux_f0, if_neg (by omega)]; exact l3
              · rw [ux_f0, if_neg (by omega)]; exact l4
              · rw [ux_f0, if_neg (by omega)]; exact l5
              · rw [ux_f0, if_neg (by omega)]; exact (l6 j hj).1
              · rw [ux_f0, if_neg (by omega)]; exact (l6 j hj).2
    · refine tw_J_of R0 (r := tw_I (-1)) ?_ ?_
      · simp only [te_60, tb_60_0, tb_60_8, tb_60_22, tb_60_11, tb_60_19, tb_60_24, tb_60_35, tb_60_44, tb_60_41, tb_60_56, s_isPerson (c := 0) e8 hN, s_isPlace (c := 0) e5 hP, if_neg hxb, if_pos (tw_ib_f hy), Option.bind_some, Option.toList_some, Option.toList_none, List.cons_append, List.nil_append, List.append_nil]
      · simp only [te_133, tb_133_0, tb_133_10, tb_133_21, tb_133_13, tb_133_18, tb_133_23, tb_133_31, tb_133_38, tb_133_35, tb_133_46, tb_133_56, tw_thf, m_isPerson f8 hN, m_isPlace f5 hP, if_neg hxb, if_pos (tw_ib_f hy), Option.bind_some, Option.toList_some, Option.toList_none, List.cons_append, List.nil_append, List.append_nil]
  · refine tw_J_of R0 (r := tw_I (-1)) ?_ ?_
    · simp only [te_60, tb_60_0, tb_60_8, tb_60_22, tb_60_11, tb_60_19, tb_60_24, tb_60_35, tb_60_44, tb_60_41, tb_60_56, s_isPerson (c := 0) e8 hN, if_pos (tw_ib_f hx), Option.bind_some, Option.toList_some, Option.toList_none, List.cons_append, List.nil_append, List.append_nil]
    · simp only [te_133, tb_133_0, tb_133_10, tb_133_21, tb_133_13, tb_133_18, tb_133_23, tb_133_31, tb_133_38, tb_133_35, tb_133_46, tb_133_56, tw_thf, m_isPerson f8 hN, if_pos (tw_ib_f hx), Option.bind_some, Option.toList_some, Option.toList_none, List.cons_append, List.nil_append, List.append_nil]
theorem s_begin (e8 : tw_gi μ 0 0 8 = nI N) (hN : N ≤ 4) : ∃ μ', tw_call 32 [tw_R 3 0, tw_R 0 0] μ = some (none, μ') ∧ ux_fr ux_now μ μ' ∧ tw_gi μ' 3 0 3 = 0 ∧ tw_gi μ' 3 0 4 = 0 ∧ tw_gi μ' 3 0 5 = 0 ∧ (∀ w, w ≠ 3 → w ≠ 4 → w ≠ 5 → tw_gi μ' 3 0 w = tw_gi μ 3 0 w) ∧ ∀ p, p < 4 → tw_gi μ' 19 0 p = (if p < N then tw_gi μ 14 0 p else -1) ∧ tw_gi μ' 1 p 2 = 0 := by
  have loop : ∀ (d p : Nat) (μ : tw_M) (o : Option tw_V), p + d = 4 → tw_gi μ 0 0 8 = nI N → ∃ μ', tw_run 32 17 [some (tw_R 3 0), some (tw_R 0 0), some (tw_I (nI p)), o] [] μ = some (none, μ') ∧ ux_fr ux_now μ μ' ∧ (∀ w, tw_gi μ' 3 0 w = tw_gi μ 3 0 w) ∧ ∀ q, q < 4 → tw_gi μ' 19 0 q = (if q < p then tw_gi μ 19 0 q else if q < N then tw_gi μ 14 0 q else -1) ∧ tw_gi μ' 1 q 2 = (if q < p then tw_gi μ 1 q 2 else 0) := by
    intro d
    induction d with
    | zero =>
      intro p μ o hp e8
      refine ⟨μ, ?_, ux_fr.rf, fun _ => rfl, fun q hq => ?_⟩
      · rw [tb_32_17, if_pos (show (4 : Int32) ≤ nI p from nI_le (a := 4) (by omega) (by omega)), tb_32_76]
      · rw [if_pos (by omega), if_pos (by omega)]
        exact ⟨rfl, rfl⟩
    | succ d ih =>
      intro p μ o hp e8
      have p4 : p < 4 := by omega
      have ib : tw_in (nI p) 4 := tn_in p4 (by omega)
      have ic : (nI p).toNatClampNeg = p := nI_clamp (by omega)
      obtain ⟨v, hv⟩ : ∃ v, v = (if p < N then tw_gi μ 14 0 p else -1) := ⟨_, rfl⟩
      obtain ⟨μ', h1, h2, h3, h4⟩ := ih (p + 1) (tw_si (tw_si μ 19 0 p v) 1 p 2 0) (some (tw_R 1 p)) (by omega) e8
      refine ⟨μ', ?_, ?_, fun w => ?_, fun q hq => ?_⟩
      · have put : tw_run 32 51 [some (tw_R 3 0), some (tw_R 0 0), some (tw_I (nI p)), o] [tw_I v, tw_I (nI p), tw_R 19 0] μ = some (none, μ') := by
          rw [tb_32_51, s_put (k := 19) rfl, tw_wr_n (k := 19) (show p < tw_al 19 from p4)]
          simp only [Option.bind_some, Option.toList_some, Option.toList_none, List.cons_append, List.nil_append, List.append_nil, tb_32_54]
          rw [if_pos ib, ic, Nat.mul_zero, Nat.zero_add, tb_32_60, tb_32_65, tb_32_70, nI_1]
          exact h1
        rw [tb_32_17, if_neg (show ¬ (4 : Int32) ≤ nI p from nI_ge (b := 4) p4 (by omega)), tb_32_26, s_isPerson (c := 0) e8 (by omega)]
        simp only [Option.bind_some, Option.toList_some, Option.toList_none, List.cons_append, List.nil_append, List.append_nil, tb_32_36]
        by_cases z : p < N
        · rw [if_pos z] at hv
          rw [if_neg (tw_ib_t (tn_in z (by omega))), tb_32_39, s_at (k := 14) rfl, tw_rd_p (μ := μ) (k := 14) (n := 0) 4 rfl p4]
          simp only [Option.bind_some, Option.toList_some, Option.toList_none, List.cons_append, List.nil_append, List.append_nil, tb_32_47, ← hv]
          exact put
        · rw [if_neg z] at hv
          rw [if_pos (tw_ib_f (fun q => (tn_in_lt (by omega) q).2 (nI_le (by omega) (by omega)))), tb_32_50, ← hv]
          exact put
      · exact ((ux_fr.rf.si (by unfold ux_now ux_s; omega)).si (by unfold ux_now ux_s; omega)).tr h2
      · rw [h3, tw_gi_ne (by omega), tw_gi_ne (by omega)]
      · obtain ⟨q1, q2⟩ := h4 q hq
        rw [q1, q2, tw_gi_ne (k' := 14) (by omega), tw_gi_ne (k' := 14) (by omega), tw_gi_ne (k' := 19) (by omega)]
        by_cases z : q = p
        · subst z
          have t1 : q < q + 1 := by omega
          have t2 : ¬ q < q := by omega
          rw [if_pos t1, if_neg t2, if_pos t1, if_neg t2, tw_gi_eq, tw_gi_eq]
          exact ⟨hv, rfl⟩
        · by_cases z2 : q < p
          · have t1 : q < p + 1 := by omega
            rw [if_pos t1, if_pos z2, if_pos t1, if_pos z2, tw_gi_ne (k' := 19) (by omega), tw_gi_ne (k' := 1) (by omega), tw_gi_ne (k' := 1) (by omega)]
            exact ⟨rfl, rfl⟩
          · have t1 : ¬ q < p + 1 := by omega
            rw [if_neg t1, if_neg z2, if_neg t1, if_neg z2]
            exact ⟨rfl, rfl⟩
  obtain ⟨μ', h1, h2, h3, h4⟩ := loop 4 0 (tw_si (tw_si (tw_si μ 3 0 4 0) 3 0 5 0) 3 0 3 0) none rfl e8
  refine ⟨μ', ?_, ?_, ?_, ?_, ?_, fun w w3 w4 w5 => ?_, fun p hp => ?_⟩
  · rw [te_32, tb_32_0]
    exact h1
  · exact (((ux_fr.rf.si (by unfold ux_now ux_s; omega)).si (by unfold ux_now ux_s; omega)).si (by unfold ux_now ux_s; omega)).tr h2
  · rw [h3, tw_gi_eq]
  · rw [h3, tw_gi_ne (by omega), tw_gi_ne (by omega), tw_gi_eq]
  · rw [h3, tw_gi_ne (by omega), tw_gi_eq]
  · rw [h3, tw_gi_ne (by omega), tw_gi_ne (by omega), tw_gi_ne (by omega)]
  · obtain ⟨q1, q2⟩ := h4 p hp
    have t0 : ¬ p < 0 := Nat.not_lt_zero p
    rw [q1, q2, if_neg t0, if_neg t0]
    exact ⟨rfl, rfl⟩
theorem m_begins (f8 : tw_gi ν 6 0 17 = nI N) (hN : N ≤ 4) : ∃ ν', tw_call 102 [tw_R 6 0] ν = some (none, ν') ∧ ux_fr ux_m36 ν ν' ∧ ∀ j, j < 363 → tw_gi ν' 36 0 j = if 3 ≤ j ∧ j < 3 + N then tw_gi ν 35 0 (j - 3) else 0 := by
  have l1 : ∀ (d k : Nat) (ν : tw_M), k + d = 363 → ∃ ν', tw_run 102 2 [some (tw_R 6 0), some (tw_I (nI k))] [] ν = tw_run 102 22 [some (tw_R 6 0), some (tw_I (nI 363))] [] ν' ∧ ux_fr ux_m36 ν ν' ∧ ∀ j, j < 363 → tw_gi ν' 36 0 j = if j < k then tw_gi ν 36 0 j else 0 := by
    intro d
    induction d with
    | zero =>
      intro k ν hk
      have hk2 : k = 363 := by omega
      subst hk2
      exact ⟨ν, by rw [tb_102_2, if_pos (show (363 : Int32) ≤ nI 363 by decide)], ux_fr.rf, fun j hj => by rw [if_pos hj]⟩
    | succ d ih =>
      intro k ν hk
      obtain ⟨ν', h1, h2, h3⟩ := ih (k + 1) (tw_si ν 36 0 k 0) (by omega)
      refine ⟨ν', ?_, (ux_fr.rf.si rfl).tr h2, fun j hj => ?_⟩
      · rw [tb_102_2, if_neg (show ¬ (363 : Int32) ≤ nI k from nI_ge (b := 363) (by omega) (by omega)), tb_102_9, if_pos (show tw_in (nI k) (tw_al 36) from tn_in (show k < 363 by omega) (by decide)), nI_clamp (by omega), tb_102_16, nI_1]
        exact h1
      · rw [h3 j hj]
        by_cases z : j = k
        · subst z
          rw [if_pos (by omega), if_neg (by omega), tw_gi_eq]
        · rw [tw_gi_ne (by omega)]
          by_cases z2 : j < k
          · rw [if_pos (by omega), if_pos z2]
          · rw [if_neg (by omega), if_neg z2]
  have l2 : ∀ (d p : Nat) (ν : tw_M), p + d = N → tw_gi ν 6 0 17 = nI N → ∃ ν', tw_run 102 24 [some (tw_R 6 0), some (tw_I (nI p))] [] ν = some (none, ν') ∧ ux_fr ux_m36 ν ν' ∧ ∀ j, j < 363 → tw_gi ν' 36 0 j = if 3 + p ≤ j ∧ j < 3 + N then tw_gi ν 35 0 (j - 3) else tw_gi ν 36 0 j := by
    intro d
    induction d with
    | zero =>
      intro p ν hp f8
      refine ⟨ν, ?_, ux_fr.rf, fun j hj => ?_⟩
      · rw [tb_102_24, f8, if_pos (nI_le (by omega) (by omega)), tb_102_52]
      · rw [if_neg (by omega)]
    | succ d ih =>
      intro p ν hp f8
      have ia : (3 : Int32) + nI p = nI (3 + p) := nI_add 3 p
      obtain ⟨ν', h1, h2, h3⟩ := ih (p + 1) (tw_si ν 36 0 (3 + p) (tw_gi ν 35 0 p)) (by omega) f8
      refine ⟨ν', ?_, (ux_fr.rf.si rfl).tr h2, fun j hj => ?_⟩
      · rw [tb_102_24, f8, if_neg (nI_ge (by omega) (by omega)), tb_102_32, if_pos (show tw_in (nI p) (tw_al 35) from tn_in (show p < 8 by omega) (by decide)), nI_clamp (by omega), ia, tb_102_45, if_pos (show tw_in (nI (3 + p)) (tw_al 36) from tn_in (show 3 + p < 363 by omega) (by decide)), nI_clamp (by omega), tb_102_46, nI_1]
        exact h1
      · rw [h3 j hj, tw_gi_ne (k' := 35) (by omega)]
        by_cases z : j = 3 + p
        · subst z
          rw [if_neg (by omega), if_pos (by omega), tw_gi_eq, show 3 + p - 3 = p by omega]
        · rw [tw_gi_ne (by omega)]
          by_cases z2 : 3 + p ≤ j ∧ j < 3 + N
          · rw [if_pos (by omega), if_pos z2]
          · rw [if_neg (by omega), if_neg z2]
  obtain ⟨ν1, a1, a2, a3⟩ := l1 363 0 ν rfl
  obtain ⟨ν2, b1, b2, b3⟩ := l2 N 0 ν1 (by omega) (by rw [a2.1 6 0 17 (by unfold ux_m36; omega)]; exact f8)
  refine ⟨ν2, ?_, a2.tr b2, fun j hj => ?_⟩
  · rw [te_102, tb_102_0, show (0 : Int32) = nI 0 from rfl, a1, tb_102_22]
    exact b1
  · rw [b3 j hj, a2.1 35 0 (j - 3) (by unfold ux_m36; omega), a3 j hj, if_neg (show ¬ j < 0 by omega)]
/-- both begin -/
theorem ux_begin (h1 : tw_Ic P H S N μ) (h2 : tw_Ec P H S N μ ν) : ∃ μ' ν', tw_call 32 [tw_R 3 0, tw_R 0 0] μ = some (none, μ') ∧ tw_call 102 [tw_R 6 0] ν = some (none, ν') ∧ ux_fr ux_now μ μ' ∧ ux_fr ux_m36 ν ν' ∧ tw_Is P S N μ' 0 0 0 ∧ tw_Es N μ' 0 (tw_f0 ν') 0 := by
  have hN := h1.2.2.2.1
  obtain ⟨μ', a1, a2, a3, a4, a5, -, a6⟩ := s_begin h1.2.2.2.2.2.2.2.1 hN
  obtain ⟨ν', b1, b2, b3⟩ := m_begins h2.2.2.2.1 hN
  refine ⟨μ', ν', a1, b1, a2, b2, ?_, ?_⟩
  · refine ⟨by omega, by omega, a3, a4, fun p hp => ?_, fun p p1 p2 => ?_, fun p hp => ?_, fun k hk => absurd hk (Nat.not_lt_zero _)⟩
    · rw [(a6 p (by omega)).1, if_pos hp]
      exact (h1.2.2.2.2.2.2.2.2.2.2.2 p hp).2
    · rw [(a6 p p2).1, if_neg (by omega)]
    · have e : tw_gi μ' 1 (4 * 0 + p) 2 = 0 := by rw [Nat.mul_zero, Nat.zero_add]; exact (a6 p (by omega)).2
      have er : tw_er μ' (4 * 0 + p) = 0 := by unfold tw_er; rw [e]; rfl
      exact ⟨⟨0, by omega, e⟩, fun j hj => by rw [er] at hj; exact absurd hj (Nat.not_lt_zero _)⟩
  · refine ⟨?_, ?_, ?_, fun p hp => ?_, fun k hk => absurd hk (Nat.not_lt_zero _)⟩
    · rw [a4]; exact (b3 0 (by omega)).trans (if_neg (by omega))
    · rw [a5]; exact (b3 1 (by omega)).trans (if_neg (by omega))
    · rw [a3]; exact (b3 2 (by omega)).trans (if_neg (by omega))
    · have e : tw_gi μ' 1 (4 * 0 + p) 2 = 0 := by rw [Nat.mul_zero, Nat.zero_add]; exact (a6 p (by omega)).2
      have er : tw_er μ' (4 * 0 + p) = 0 := by unfold tw_er; rw [e]; rfl
      refine ⟨?_, ?_, fun j hj => by rw [er] at hj; exact absurd hj (Nat.not_lt_zero _)⟩
      · rw [(a6 p (by omega)).1, if_pos hp]
        refine (b3 (3 + p) (by omega)).trans ?_
        rw [if_pos (by omega), show 3 + p - 3 = p by omega]
        exact (h2.2.2.2.2.2.2.2 p hp).2
      · rw [e]; exact (b3 (7 + p) (by omega)).trans (if_neg (by omega))
theorem op_anew (R0 : tw_Rl μ ν) : tw_Jn 71 142 [] μ ν := by
  obtain ⟨P, H, S, N, C, h, T, R, Tt, Ei, Tr⟩ := id R0
  have R' := R.th
  obtain ⟨g1, g2, g3, g4, g5, g6, g7⟩ := rn_0 R'
  obtain ⟨μ', ν', a1, a2, a3, a4, a5, a6⟩ := ux_begin R'.1 R'.2.1
  refine ⟨tw_I (nI h), μ', ν', ?_, ?_, ux_rest R'.1 R'.2.1 Tt.th Ei.th Tr a3 a4 a5 a6⟩
  · rw [te_71, tb_71_0, a1, g4]
    simp only [Option.bind_some, Option.toList_some, Option.toList_none, List.cons_append, List.nil_append, List.append_nil, tb_71_19]
  · rw [te_142, tb_142_0, tw_thf, a2, g5]
    simp only [Option.bind_some, Option.toList_some, Option.toList_none, List.cons_append, List.nil_append, List.append_nil, tb_142_16]
end
