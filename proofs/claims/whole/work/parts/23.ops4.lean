theorem tn_bv0 {b i : Int32} : tw_bv b i = 0 ↔ (b >>> (i &&& 31)) &&& 1 = 0 := by
  unfold tw_bv
  split
  · rename_i z; exact ⟨fun _ => z, fun _ => rfl⟩
  · rename_i z; exact ⟨fun q => absurd q (by decide), fun q => absurd q z⟩
theorem tn_bv1 {b i : Int32} : ((b >>> (i &&& 31)) &&& 1 = 1) ↔ ¬ tw_bv b i = 0 := by
  rw [tn_bv0]
  exact tn_and1 _
theorem tw_ff_done {l : Nat} {m : Nat → Nat → Bool} : True := trivial
/-- which sounds of a saying are found, from place e on, f of them already -/
def tw_ff (l : Nat) (m : Nat → Nat → Bool) : Nat → Nat → Nat → Nat
  | 0, _, f => f
  | d + 1, e, f => tw_ff l m d (e + 1) (if f < l ∧ m e f = true then f + 1 else f)
theorem tw_ff_l {l : Nat} {m : Nat → Nat → Bool} : ∀ (d e : Nat), tw_ff l m d e l = l
  | 0, _ => rfl
  | d + 1, e => by
    rw [tw_ff, if_neg (by omega)]
    exact tw_ff_l d (e + 1)
theorem tw_ff_le {l : Nat} {m : Nat → Nat → Bool} : ∀ (d e f : Nat), f ≤ l → tw_ff l m d e f ≤ l
  | 0, _, f, h => h
  | d + 1, e, f, h => by
    rw [tw_ff]
    apply tw_ff_le
    split <;> omega
def tw_mt (μ : tw_M) (p k e f : Nat) : Bool := decide (tw_gi μ 16 p e = tw_gi μ 17 k f)
section
variable {μ ν : tw_M} {x y z : Int32} {s k p h j t w P H S N C : Nat}
theorem op_now (R0 : tw_Rl μ ν) : tw_Jn 70 141 [tw_I y] μ ν := by
  obtain ⟨P, H, S, N, C, h, T, R, -⟩ := id R0
  have R' := R.th
  obtain ⟨c1, c2, c3, c4, e5, e6, e7, e8, f5, f6, f7, f8⟩ := rn_c R'
  obtain ⟨g1, g2, g3, g4, g5, g6, g7⟩ := rn_0 R'
  by_cases hy : tw_in y 4
  · rcases tn_c4 hy with rfl | rfl | rfl | rfl
    · refine tw_J_of R0 (r := tw_I (nI h)) ?_ ?_
      · simp only [te_70, tb_70_0, tb_70_64, tb_70_56, tb_70_48, tb_70_40, tb_70_32, tb_70_47, g4, eq_self, if_true, if_false, tn_l01, tn_l02, tn_l03, tn_l04, tn_l05, tn_l10, tn_l12, tn_l13, tn_l14, tn_l15, tn_l20, tn_l21, tn_l23, tn_l24, tn_l25, tn_l30, tn_l31, tn_l32, tn_l34, tn_l35, tn_l40, tn_l41, tn_l42, tn_l43, tn_l45, tn_l50, tn_l51, tn_l52, tn_l53, tn_l54]
      · simp only [te_141, tb_141_0, tb_141_18, tb_141_9, tb_141_31, tb_141_23, tb_141_60, tb_141_45, tb_141_36, tb_141_28, tb_141_59, tb_141_50, tw_thf, g5, eq_self, if_true, if_false, tn_l01, tn_l02, tn_l03, tn_l04, tn_l05, tn_l10, tn_l12, tn_l13, tn_l14, tn_l15, tn_l20, tn_l21, tn_l23, tn_l24, tn_l25, tn_l30, tn_l31, tn_l32, tn_l34, tn_l35, tn_l40, tn_l41, tn_l42, tn_l43, tn_l45, tn_l50, tn_l51, tn_l52, tn_l53, tn_l54]
    · -- how many hang, place by place, and saying by saying
      have hs : ∀ C', C' ≤ C → tw_hp μ 0 C' + tw_hp μ 1 C' + tw_hp μ 2 C' + tw_hp μ 3 C' = tw_sm (tw_hg μ) C' := by
        intro C'
        induction C' with
        | zero => intro _; rfl
        | succ k ih =>
          intro hk
          have ih2 := ih (by omega)
          obtain ⟨p1, p2, -⟩ := rn_s R' (show k < C by omega)
          have hp4 : tw_pl μ k < 4 := by omega
          have st : ∀ w : Int32, tw_hp μ w (k + 1) = tw_hp μ w k + (if tw_gi μ 2 k 4 = w then tw_hg μ k else 0) := fun _ => rfl
          rw [st, st, st, st, tw_sm, p1]
          have hc : tw_in (nI (tw_pl μ k)) 4 := tn_in hp4 (by omega)
          rcases tn_c4 hc with q | q | q | q <;> rw [q]
          · rw [if_pos rfl, if_neg (by decide), if_neg (by decide), if_neg (by decide)]; omega
          · rw [if_neg (by decide), if_pos rfl, if_neg (by decide), if_neg (by decide)]; omega
          · rw [if_neg (by decide), if_neg (by decide), if_pos rfl, if_neg (by decide)]; omega
          · rw [if_neg (by decide), if_neg (by decide), if_neg (by decide), if_pos rfl]; omega
      refine tw_J_of R0 (r := tw_I (nI (tw_sm (tw_hg μ) C))) ?_ ?_
      · have e0 : ¬ (4 : Int32) ≤ 0 := by decide
        have e1 : ¬ (4 : Int32) ≤ 0 + 1 := by decide
        have e2 : ¬ (4 : Int32) ≤ 0 + 1 + 1 := by decide
        have e3 : ¬ (4 : Int32) ≤ 0 + 1 + 1 + 1 := by decide
        have e4 : (4 : Int32) ≤ 0 + 1 + 1 + 1 + 1 := by decide
        have z1 : (0 : Int32) + 1 = 1 := by decide
        have z2 : (0 : Int32) + 1 + 1 = 2 := by decide
        have z3 : (0 : Int32) + 1 + 1 + 1 = 3 := by decide
        rw [te_70, tb_70_0, if_neg (by decide), if_pos rfl, tb_70_40, te_69, tb_69_0]
        rw [tb_69_4, if_neg e0, tb_69_9, s_hangingAt R']
        simp only [Option.bind_some, Option.toList_some, Option.toList_none, List.cons_append, List.nil_append, List.append_nil, tb_69_15]
        rw [tb_69_4, if_neg e1, tb_69_9, s_hangingAt R']
        simp only [Option.bind_some, Option.toList_some, Option.toList_none, List.cons_append, List.nil_append, List.append_nil, tb_69_15]
        rw [tb_69_4, if_neg e2, tb_69_9, s_hangingAt R']
        simp only [Option.bind_some, Option.toList_some, Option.toList_none, List.cons_append, List.nil_append, List.append_nil, tb_69_15]
        rw [tb_69_4, if_neg e3, tb_69_9, s_hangingAt R']
        simp only [Option.bind_some, Option.toList_some, Option.toList_none, List.cons_append, List.nil_append, List.append_nil, tb_69_15]
        rw [tb_69_4, if_pos e4, tb_69_23]
        simp only [Option.bind_some, Option.toList_some, Option.toList_none, List.cons_append, List.nil_append, List.append_nil, tb_70_47]
        rw [z1, show (1 : Int32) + 1 = 2 by decide, show (2 : Int32) + 1 = 3 by decide, ← hs C (Nat.le_refl _), ← nI_add, ← nI_add, ← nI_add]
        simp
      · have loop : ∀ (d k : Nat), k + d = C → tw_run 124 4 [some (tw_R 6 0), some (tw_I (-1)), some (tw_I (nI (tw_sm (tw_hg μ) k))), some (tw_I (nI k))] [] (tw_th ν) = some (some (tw_I (nI (tw_sm (tw_hg μ) C))), tw_th ν) := by
          intro d
          induction d with
          | zero =>
            intro k hk
            have hk2 : k = C := by omega
            subst hk2
            simp only [tb_124_4, g7]
            rw [if_pos (nI_le (Nat.le_refl _) (by omega)), tb_124_46]
          | succ d ih =>
            intro k hk
            have hk2 : k < C := by omega
            have e3 : ¬ nI C ≤ nI k := nI_ge hk2 (by omega)
            have e4 : (-1 : Int32) < 0 := by decide
            have ih2 := ih (k + 1) (by omega)
            rw [tw_sm, ← nI_add] at ih2
            simp only [te_124, tb_124_4, tb_124_46, tb_124_14, tb_124_29, tb_124_19, tb_124_34, tb_124_25, tb_124_38, tb_124_37, g7, if_neg e3, if_pos e4, m_hangingOf R' hk2, Option.bind_some, Option.toList_some, Option.toList_none, List.cons_append, List.nil_append, List.append_nil, nI_1] at ih2 ⊢
            exact ih2
        have := loop C 0 (by omega)
        simp only [te_141, tb_141_0, tb_141_18, tb_141_9, tb_141_31, tb_141_23, tb_141_60, tb_141_45, tb_141_36, tb_141_28, tb_141_59, tb_141_50, tw_thf, te_124, tb_124_0, Option.bind_some, Option.toList_some, Option.toList_none, List.cons_append, List.nil_append, List.append_nil, eq_self, if_true, if_false, tn_l01, tn_l02, tn_l03, tn_l04, tn_l05, tn_l10, tn_l12, tn_l13, tn_l14, tn_l15, tn_l20, tn_l21, tn_l23, tn_l24, tn_l25, tn_l30, tn_l31, tn_l32, tn_l34, tn_l35, tn_l40, tn_l41, tn_l42, tn_l43, tn_l45, tn_l50, tn_l51, tn_l52, tn_l53, tn_l54]
        rw [show tw_run 124 4 [some (tw_R 6 0), some (tw_I (-1)), some (tw_I 0), some (tw_I 0)] [] (tw_th ν) = _ from this]
        simp only [te_141, tb_141_0, tb_141_18, tb_141_9, tb_141_31, tb_141_23, tb_141_60, tb_141_45, tb_141_36, tb_141_28, tb_141_59, tb_141_50, Option.bind_some, Option.toList_some, Option.toList_none, List.cons_append, List.nil_append, List.append_nil]
    · refine tw_J_of R0 (r := tw_I (nI C)) ?_ ?_
      · simp only [te_70, tb_70_0, tb_70_64, tb_70_56, tb_70_48, tb_70_40, tb_70_32, tb_70_47, g3, eq_self, if_true, if_false, tn_l01, tn_l02, tn_l03, tn_l04, tn_l05, tn_l10, tn_l12, tn_l13, tn_l14, tn_l15, tn_l20, tn_l21, tn_l23, tn_l24, tn_l25, tn_l30, tn_l31, tn_l32, tn_l34, tn_l35, tn_l40, tn_l41, tn_l42, tn_l43, tn_l45, tn_l50, tn_l51, tn_l52, tn_l53, tn_l54]
      · simp only [te_141, tb_141_0, tb_141_18, tb_141_9, tb_141_31, tb_141_23, tb_141_60, tb_141_45, tb_141_36, tb_141_28, tb_141_59, tb_141_50, tw_thf, g7, eq_self, if_true, if_false, tn_l01, tn_l02, tn_l03, tn_l04, tn_l05, tn_l10, tn_l12, tn_l13, tn_l14, tn_l15, tn_l20, tn_l21, tn_l23, tn_l24, tn_l25, tn_l30, tn_l31, tn_l32, tn_l34, tn_l35, tn_l40, tn_l41, tn_l42, tn_l43, tn_l45, tn_l50, tn_l51, tn_l52, tn_l53, tn_l54]
    · refine tw_J_of R0 (r := tw_I (tw_gi μ 3 0 5)) ?_ ?_
      · simp only [te_70, tb_70_0, tb_70_64, tb_70_56, tb_70_48, tb_70_40, tb_70_32, tb_70_47, eq_self, if_true, if_false, tn_l01, tn_l02, tn_l03, tn_l04, tn_l05, tn_l10, tn_l12, tn_l13, tn_l14, tn_l15, tn_l20, tn_l21, tn_l23, tn_l24, tn_l25, tn_l30, tn_l31, tn_l32, tn_l34, tn_l35, tn_l40, tn_l41, tn_l42, tn_l43, tn_l45, tn_l50, tn_l51, tn_l52, tn_l53, tn_l54]
      · simp only [te_141, tb_141_0, tb_141_18, tb_141_9, tb_141_31, tb_141_23, tb_141_60, tb_141_45, tb_141_36, tb_141_28, tb_141_59, tb_141_50, tw_thf, g6, eq_self, if_true, if_false, tn_l01, tn_l02, tn_l03, tn_l04, tn_l05, tn_l10, tn_l12, tn_l13, tn_l14, tn_l15, tn_l20, tn_l21, tn_l23, tn_l24, tn_l25, tn_l30, tn_l31, tn_l32, tn_l34, tn_l35, tn_l40, tn_l41, tn_l42, tn_l43, tn_l45, tn_l50, tn_l51, tn_l52, tn_l53, tn_l54]
  · have n0 : ¬ y = 0 := tn_not4 (n := 4) (by omega) hy (j := 0) (by omega)
    have n1 : ¬ y = 1 := tn_not4 (n := 4) (by omega) hy (j := 1) (by omega)
    have n2 : ¬ y = 2 := tn_not4 (n := 4) (by omega) hy (j := 2) (by omega)
    have n3 : ¬ y = 3 := tn_not4 (n := 4) (by omega) hy (j := 3) (by omega)
    refine tw_J_of R0 (r := tw_I (-1)) ?_ ?_
    · simp only [te_70, tb_70_0, tb_70_64, tb_70_56, tb_70_48, tb_70_40, tb_70_32, tb_70_47, if_neg n0, if_neg n1, if_neg n2, if_neg n3]
    · simp only [te_141, tb_141_0, tb_141_18, tb_141_9, tb_141_31, tb_141_23, tb_141_60, tb_141_45, tb_141_36, tb_141_28, tb_141_59, tb_141_50, tw_thf, if_neg n0, if_neg n1, if_neg n2, if_neg n3]
theorem s_holds (R : tw_Rn P H S N C h μ ν) (hp : p < N) (hk : k < C) : tw_call 77 [tw_R 1 p, tw_R 2 k] μ = some (some (tw_I (if tw_ff (tw_ln μ k) (tw_mt μ p k) (tw_er μ p) 0 0 = tw_ln μ k then 1 else 0)), μ) := by
  obtain ⟨p4, -, q3, q4, -⟩ := rn_p R hp
  obtain ⟨k8, -, -, -, l4, l5, l6, -⟩ := rn_k R hk
  have fin : ∀ (f : Nat) (e : Int32), f ≤ tw_ln μ k → tw_run 77 48 [some (tw_R 1 p), some (tw_R 2 k), some (tw_I (nI f)), some (tw_I e)] [] μ = some (some (tw_I (if f = tw_ln μ k then 1 else 0)), μ) := by
    intro f e hf
    rw [tb_77_48, l4]
    by_cases z : f = tw_ln μ k
    · rw [z, if_pos rfl, if_pos rfl, tb_77_56, tb_77_61, tn_bo1]
    · rw [if_neg (fun q => z ((nI_eq (by omega) (by omega)).mp q)), if_neg z, tb_77_60, tb_77_61, tn_bo0]
  have loop : ∀ (d e f : Nat), e + d = tw_er μ p → f ≤ tw_ln μ k → tw_run 77 4 [some (tw_R 1 p), some (tw_R 2 k), some (tw_I (nI f)), some (tw_I (nI e))] [] μ = some (some (tw_I (if tw_ff (tw_ln μ k) (tw_mt μ p k) d e f = tw_ln μ k then 1 else 0)), μ) := by
    intro d
    induction d with
    | zero =>
      intro e f he hf
      rw [tb_77_4, q3, if_pos (nI_le (by omega) (by omega)), fin f _ hf]
      rfl
    | succ d ih =>
      intro e f he hf
      rw [tb_77_4, q3, if_neg (nI_ge (by omega) (by omega)), tb_77_12, l4]
      by_cases z : f < tw_ln μ k
      · rw [if_neg (nI_ge z (by omega)), tb_77_20, s_at (k := 16) rfl, tw_rd_p (μ := μ) (k := 16) (n := p) 60 rfl (show e < 60 by omega)]
        simp only [Option.bind_some, Option.toList_some, Option.toList_none, List.cons_append, List.nil_append, List.append_nil, tb_77_28, s_at (k := 17) rfl, tw_rd_p (μ := μ) (k := 17) (n := k) 4 rfl (show f < 4 by omega), tb_77_36]
        rw [tw_ff]
        by_cases m : tw_gi μ 16 p e = tw_gi μ 17 k f
        · have m2 : tw_mt μ p k e f = true := decide_eq_true m
          have ef : (if f < tw_ln μ k ∧ tw_mt μ p k e f = true then f + 1 else f) = f + 1 := if_pos ⟨z, m2⟩
          rw [ef, if_pos m, tb_77_39, tb_77_42, nI_1, nI_1]
          exact ih (e + 1) (f + 1) (by omega) (by omega)
        · have m2 : ¬ tw_mt μ p k e f = true := fun q => m (of_decide_eq_true q)
          have ef : (if f < tw_ln μ k ∧ tw_mt μ p k e f = true then f + 1 else f) = f := if_neg (fun q => m2 q.2)
          rw [ef, if_neg m, tb_77_42, nI_1]
          exact ih (e + 1) f (by omega) (by omega)
      · have hf2 : f = tw_ln μ k := by omega
        subst hf2
        rw [if_pos (nI_le (Nat.le_refl _) (by omega)), fin _ _ (Nat.le_refl _), tw_ff_l]
  rw [te_77, tb_77_0]
  exact loop (tw_er μ p) 0 0 (by omega) (Nat.zero_le _)
theorem op_fits (R0 : tw_Rl μ ν) : tw_Jn 78 148 [tw_I x] μ ν := by
  obtain ⟨P, H, S, N, C, h, T, R, -⟩ := id R0
  have R' := R.th
  obtain ⟨c1, c2, c3, c4, e5, e6, e7, e8, f5, f6, f7, f8⟩ := rn_c R'
  obtain ⟨g1, g2, g3, g4, g5, g6, g7⟩ := rn_0 R'
  have hN : N < 2 ^ 31 := by omega
  by_cases hx : tw_in x N
  · have hb := tw_ib_t hx
    obtain ⟨p, hp, rfl⟩ := tn_of_in hx (by omega)
    obtain ⟨p4, -, q3, q4, q5, q6, q7, q8⟩ := rn_p R' hp
    have inner : ∀ (k : Nat), k < C → ∀ (d e f : Nat) (b : Int32), e + d = tw_er μ p → f ≤ tw_ln μ k → tw_run 148 35 [some (tw_R 6 0), some (tw_I (nI p)), some (tw_I b), some (tw_I (nI k)), some (tw_I (nI f)), some (tw_I (nI e))] [] (tw_th ν) =
        tw_run 148 19 [some (tw_R 6 0), some (tw_I (nI p)), some (tw_I (b ||| (if tw_ff (tw_ln μ k) (tw_mt μ p k) d e f = tw_ln μ k then (1 : Int32) <<< (nI k &&& 31) else 0))), some (tw_I (nI k + 1)), some (tw_I (nI (tw_ff (tw_ln μ k) (tw_mt μ p k) d e f))), some (tw_I (nI (tw_er μ p)))] [] (tw_th ν) := by
      intro k hk d
      obtain ⟨k8, -, -, -, l4, l5, l6, l7⟩ := rn_k R' hk
      obtain ⟨r0, r1, r2, r3, r4, -, r6⟩ := rn_ke R' hk
      have i7 : (7 : Int32) + nI p = nI (7 + p) := nI_add 7 p
      have j7 : tw_in (nI (7 + p)) (tw_al 36) := tn_in (show 7 + p < 363 by omega) (by decide)
      have k7 : (nI (7 + p)).toNatClampNeg = 7 + p := nI_clamp (by omega)
      induction d with
      | zero =>
        intro e f b he hf
        have he2 : e = tw_er μ p := by omega
        subst he2
        rw [tb_148_35, i7, if_pos j7, k7, tb_148_46, q7, q3, if_pos (nI_le (Nat.le_refl _) (by omega)), tb_148_106, m_at4 k8]
        simp only [Option.bind_some, Option.toList_some, Option.toList_none, List.cons_append, List.nil_append, List.append_nil, tb_148_115, r4, l4]
        rw [tw_ff]
        by_cases z : f = tw_ln μ k
        · rw [z, if_pos rfl, if_pos rfl, tb_148_118, tb_148_125]
        · rw [if_neg (fun q => z ((nI_eq (by omega) (by omega)).mp q)), if_neg z, tb_148_124, tb_148_125]
      | succ d ih =>
        intro e f b he hf
        have iv : (123 : Int32) + 60 * nI p + nI e = nI (123 + 60 * p + e) := by
          show nI 123 + nI 60 * nI p + nI e = _
          rw [pk_mul, nI_add, nI_add]
        have jv : tw_in (nI (123 + 60 * p + e)) (tw_al 36) := tn_in (show 123 + 60 * p + e < 363 by omega) (by decide)
        have kv : (nI (123 + 60 * p + e)).toNatClampNeg = 123 + 60 * p + e := nI_clamp (by omega)
        rw [tb_148_35, i7, if_pos j7, k7, tb_148_46, q7, q3, if_neg (nI_ge (by omega) (by omega)), tb_148_49, m_at4 k8]
        simp only [Option.bind_some, Option.toList_some, Option.toList_none, List.cons_append, List.nil_append, List.append_nil, tb_148_59, r4, l4]
        rw [tw_ff]
        by_cases z : f < tw_ln μ k
        · rw [if_neg (nI_ge z (by omega)), tb_148_62, iv, if_pos jv, kv, tb_148_77, m_at5 k8 (show f < 4 by omega)]
          obtain ⟨⟨a, ha, ea⟩, ⟨bb, hb2, eb⟩⟩ := q5 e (by omega)
          have hv : tw_gi (tw_th ν) 36 0 (123 + 60 * p + e) = nI (8 * a + bb) := by
            rw [q8 e (by omega), ea, eb]
            show nI 8 * nI a + nI bb = _
            rw [pk_mul, nI_add]
          have m8 : nI (8 * a + bb) - nI (8 * a + bb) / 8 * 8 = nI bb := by
            have := pk_rem (a := 8 * a + bb) (d := 8) (by omega) (by omega) (by omega)
            rw [show (8 * a + bb) % 8 = bb by omega] at this
            exact this
          simp only [Option.bind_some, Option.toList_some, Option.toList_none, List.cons_append, List.nil_append, List.append_nil, tb_148_89, hv, m8, (r6 f z).1]
          by_cases m : nI bb = tw_gi μ 17 k f
          · have m2 : tw_mt μ p k e f = true := decide_eq_true (by rw [eb]; exact m)
            have ef : (if f < tw_ln μ k ∧ tw_mt μ p k e f = true then f + 1 else f) = f + 1 := if_pos ⟨z, m2⟩
            rw [ef, if_pos m, tb_148_92, tb_148_97, nI_1, nI_1]
            exact ih (e + 1) (f + 1) b (by omega) (by omega)
          · have m2 : ¬ tw_mt μ p k e f = true := fun q => m (by rw [← eb]; exact of_decide_eq_true q)
            have ef : (if f < tw_ln μ k ∧ tw_mt μ p k e f = true then f + 1 else f) = f := if_neg (fun q => m2 q.2)
            rw [ef, if_neg m, tb_148_96, tb_148_97, nI_1, show nI f + (0 : Int32) = nI f by simp]
            exact ih (e + 1) f b (by omega) (by omega)
        · have hf2 : f = tw_ln μ k := by omega
          have ef : (if f < tw_ln μ k ∧ tw_mt μ p k e f = true then f + 1 else f) = f := if_neg (fun q => z q.1)
          rw [ef, if_pos (nI_le (by omega) (by omega)), tb_148_96, tb_148_97, nI_1, show nI f + (0 : Int32) = nI f by simp]
          exact ih (e + 1) f b (by omega) hf
    have loop : ∀ (d k : Nat) (b : Int32) (o1 o5 o4 o6 : Option tw_V), k + d = C → ∃ r : Int32, tw_run 78 17 [some (tw_R 5 0), o1, some (tw_R 1 p), some (tw_I b), some (tw_I (nI k)), o5] [] μ = some (some (tw_I r), μ) ∧ tw_run 148 19 [some (tw_R 6 0), some (tw_I (nI p)), some (tw_I b), some (tw_I (nI k)), o4, o6] [] (tw_th ν) = some (some (tw_I r), tw_th ν) := by
      intro d
      induction d with
      | zero =>
        intro k b o1 o5 o4 o6 hk
        have hk2 : k = C := by omega
        subst hk2
        have e1 : nI k ≤ nI k := nI_le (Nat.le_refl _) (by omega)
        exact ⟨b, by rw [tb_78_17, g3, if_pos e1, tb_78_67], by rw [tb_148_19, g7, if_pos e1, tb_148_133]⟩
      | succ d ih =>
        intro k b o1 o5 o4 o6 hk
        have hk2 : k < C := by omega
        have e1 : ¬ nI C ≤ nI k := nI_ge hk2 (by omega)
        have es := s_sayingAt_t (i := 0) g3 g1 hk2
        rw [Nat.mul_zero, Nat.zero_add] at es
        rw [tb_148_19, g7, if_neg e1, tb_148_29]
        have hin := inner k hk2 (tw_er μ p) 0 0 b (by omega) (Nat.zero_le _)
        rw [show nI 0 = (0 : Int32) from rfl] at hin
        rw [hin, tb_78_17, g3, if_neg e1, tb_78_29, es]
        simp only [Option.bind_some, Option.toList_some, Option.toList_none, List.cons_append, List.nil_append, List.append_nil, tb_78_38, tb_78_45, s_holds R' hp hk2, tb_78_51, tn_z, nI_1]
        by_cases z : tw_ff (tw_ln μ k) (tw_mt μ p k) (tw_er μ p) 0 0 = tw_ln μ k
        · rw [if_neg (fun q => q z), if_pos z, tb_78_54, tb_78_61, nI_1]
          exact ih (k + 1) _ _ _ _ _ (by omega)
        · rw [if_pos z, if_neg z, tb_78_61, nI_1, show b ||| (0 : Int32) = b by simp]
          exact ih (k + 1) _ _ _ _ _ (by omega)
    obtain ⟨r, h1, h2⟩ := loop C 0 0 (tw_k (some (tw_I (nI p)))) none none none (by omega)
    refine tw_J_of R0 (r := tw_I r) ?_ ?_
    · simp only [tb_78_0, tb_78_5, tb_78_5a, tb_78_12, te_78, s_earOf_t e8 c4 hp, Option.bind_some, Option.toList_some, Option.toList_none, List.cons_append, List.nil_append, List.append_nil]
      exact h1
    · simp only [tb_148_0, tb_148_10, tb_148_15, te_148, tw_thf, m_isPerson f8 hN, if_neg hb, Option.bind_some, Option.toList_some, Option.toList_none, List.cons_append, List.nil_append, List.append_nil]
      exact h2
  · refine tw_J_of R0 (r := tw_I (-1)) ?_ ?_
    · simp only [tb_78_0, tb_78_5, tb_78_5a, tb_78_10, te_78, s_earOf_f e8 c4 hx, Option.bind_some, Option.toList_some, Option.toList_none, List.cons_append, List.nil_append, List.append_nil]
    · simp only [tb_148_0, tb_148_10, tb_148_13, te_148, tw_thf, m_isPerson f8 hN, if_pos (tw_ib_f hx), Option.bind_some, Option.toList_some, Option.toList_none, List.cons_append, List.nil_append, List.append_nil]
end
