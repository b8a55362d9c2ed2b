/-! what melts; lantern; go -/
def ux_q (μ μ' : tw_M) : Prop := ∀ k n j, k ≠ 1 → k ≠ 15 → k ≠ 16 → k ≠ 18 → tw_gi μ' k n j = tw_gi μ k n j
section
variable {μ μ' ν ν' : tw_M} {x y z u v A l : Int32} {s k p h j t w n P H S N C T i a b m : Nat}
theorem ux_q.ln (q : ux_q μ μ') : tw_ln μ' k = tw_ln μ k := by unfold tw_ln; rw [q 2 k 2 (by omega) (by omega) (by omega) (by omega)]
theorem ux_q.pl (q : ux_q μ μ') : tw_pl μ' k = tw_pl μ k := by unfold tw_pl; rw [q 2 k 4 (by omega) (by omega) (by omega) (by omega)]
theorem ux_q.sd (q : ux_q μ μ') : tw_sd μ' k i = tw_sd μ k i := by unfold tw_sd; rw [q 17 k i (by omega) (by omega) (by omega) (by omega)]
theorem ux_q.ai (q : ux_q μ μ') : tw_ai μ' H w h = tw_ai μ H w h := by
  have e11 : tw_gi μ' 11 0 = tw_gi μ 11 0 := funext (fun j => q 11 0 j (by omega) (by omega) (by omega) (by omega))
  have e3 : tw_gi μ' 3 0 = tw_gi μ 3 0 := funext (fun j => q 3 0 j (by omega) (by omega) (by omega) (by omega))
  have e10 : tw_gi μ' 10 0 = tw_gi μ 10 0 := funext (fun j => q 10 0 j (by omega) (by omega) (by omega) (by omega))
  unfold tw_ai tw_lt tw_ac tw_wt
  rw [e11, e3, e10]
theorem ux_q.of (f : ux_fr ux_h μ μ') : ux_q μ μ' := fun k n j h1 h2 h3 h4 => f.1 k n j (by unfold ux_h; omega)
theorem ux_thaw (hk : k < C) : ∀ (d i : Nat) (μ ν : tw_M), i + d = tw_ln μ k → tw_Rn P H S N C h μ ν → tw_ai μ H w h = A → tw_pl μ k = w → tw_gi μ 2 k 6 = l → ∃ μ' ν' c,
    (∀ m o7, tw_run 57 6 [some (tw_R 3 0), some (tw_R 0 0), some (tw_I (nI k)), some (tw_R 2 k), some (tw_I A), some (tw_I (nI m)), some (tw_I (nI i)), o7] [] μ = some (some (tw_I (nI (m + c))), μ')) ∧
    (∀ m, tw_run 134 26 [some (tw_R 6 0), some (tw_I (nI w)), some (tw_I (nI m)), some (tw_I l), some (tw_I (nI k)), some (tw_I (nI i))] [] ν = tw_run 134 105 [some (tw_R 6 0), some (tw_I (nI w)), some (tw_I (nI (m + c))), some (tw_I l), some (tw_I (nI k)), some (tw_I (nI 4))] [] ν') ∧
    tw_Rn P H S N C h μ' ν' ∧ ux_fr ux_h μ μ' ∧ ux_fr ux_m36 ν ν' := by
  intro d
  induction d with
  | zero =>
    intro i μ ν hi R hA hw hl
    obtain ⟨k8, b1, b2, b3, b4, b5, b6, b7⟩ := rn_k R hk
    obtain ⟨r0, r1, r2, r3, r4, r5, r6⟩ := rn_ke R hk
    obtain ⟨p1, p2, p3⟩ := rn_s R hk
    rw [hw] at p1
    have skip : ∀ (e i m : Nat), i + e = 4 → tw_ln μ k ≤ i → tw_run 134 26 [some (tw_R 6 0), some (tw_I (nI w)), some (tw_I (nI m)), some (tw_I l), some (tw_I (nI k)), some (tw_I (nI i))] [] ν = tw_run 134 105 [some (tw_R 6 0), some (tw_I (nI w)), some (tw_I (nI m)), some (tw_I l), some (tw_I (nI k)), some (tw_I (nI 4))] [] ν := by
      intro e
      induction e with
      | zero =>
        intro i m hi hl2
        have : i = 4 := by omega
        subst this
        rw [tb_134_26, if_pos (show (4 : Int32) ≤ nI 4 by decide)]
      | succ e ih =>
        intro i m hi hl2
        rw [tb_134_26, if_neg (show ¬ (4 : Int32) ≤ nI i from nI_ge (b := 4) (by omega) (by omega)), tb_134_32, m_at3 k8]
        simp only [Option.bind_some, Option.toList_some, Option.toList_none, List.cons_append, List.nil_append, List.append_nil, tb_134_39]
        rw [r3, hl, if_pos rfl, tb_134_43, m_at1 k8]
        simp only [Option.bind_some, Option.toList_some, Option.toList_none, List.cons_append, List.nil_append, List.append_nil, tb_134_50]
        rw [r1, p1, if_pos rfl, tb_134_54, m_hangs R hk (by omega), if_neg (show ¬ (i < tw_ln μ k ∧ tw_gi μ 18 k i = -1) from fun q => absurd q.1 (by omega))]
        simp only [Option.bind_some, Option.toList_some, Option.toList_none, List.cons_append, List.nil_append, List.append_nil, tb_134_62]
        rw [if_pos trivial, tb_134_99, nI_1]
        exact ih (i + 1) m (by omega) (by omega)
    refine ⟨μ, ν, 0, fun m o7 => ?_, fun m => ?_, R, ux_fr.rf, ux_fr.rf⟩
    · rw [tb_57_6, b4, if_pos (nI_le (by omega) (by omega)), tb_57_85, Nat.add_zero]
    · rw [Nat.add_zero]
      exact skip (4 - i) i m (by omega) (by omega)
  | succ d ih =>
    intro i μ ν hi R hA hw hl
    obtain ⟨k8, b1, b2, b3, b4, b5, b6, b7⟩ := rn_k R hk
    obtain ⟨r0, r1, r2, r3, r4, r5, r6⟩ := rn_ke R hk
    obtain ⟨p1, p2, p3⟩ := rn_s R hk
    rw [hw] at p1 p2
    obtain ⟨c1, c2, c3, c4, -⟩ := rn_c R
    obtain ⟨g1, g2, g3, g4, g5, g6, g7⟩ := rn_0 R
    have hi2 : i < tw_ln μ k := by omega
    obtain ⟨s1, s2⟩ := p3 i hi2
    have i4 : i < 4 := by omega
    have hmel := R.2.1.2.2.2.2.2.2.1 _ s2
    have e1 : ¬ nI (tw_ln μ k) ≤ nI i := nI_ge hi2 (by omega)
    -- up to the question whether it hangs
    have hc : ∀ m o7, tw_run 57 6 [some (tw_R 3 0), some (tw_R 0 0), some (tw_I (nI k)), some (tw_R 2 k), some (tw_I A), some (tw_I (nI m)), some (tw_I (nI i)), o7] [] μ = if ¬ tw_gi μ 18 k i = -1 then tw_run 57 79 [some (tw_R 3 0), some (tw_R 0 0), some (tw_I (nI k)), some (tw_R 2 k), some (tw_I A), some (tw_I (nI m)), some (tw_I (nI i)), some (tw_I (nI (tw_sd μ k i)))] [] μ else tw_run 57 35 [some (tw_R 3 0), some (tw_R 0 0), some (tw_I (nI k)), some (tw_R 2 k), some (tw_I A), some (tw_I (nI m)), some (tw_I (nI i)), some (tw_I (nI (tw_sd μ k i)))] [] μ := by
      intro m o7
      rw [tb_57_6, b4, if_neg e1, tb_57_15, s_at (k := 17) rfl, tw_rd_p (μ := μ) (k := 17) (n := k) 4 rfl i4, s1]
      simp only [Option.bind_some, Option.toList_some, Option.toList_none, List.cons_append, List.nil_append, List.append_nil, tb_57_24, s_hangs i4, tb_57_32, tn_z]
    have hr : ∀ m, tw_run 134 26 [some (tw_R 6 0), some (tw_I (nI w)), some (tw_I (nI m)), some (tw_I l), some (tw_I (nI k)), some (tw_I (nI i))] [] ν = if ¬ (i < tw_ln μ k ∧ tw_gi μ 18 k i = -1) then tw_run 134 99 [some (tw_R 6 0), some (tw_I (nI w)), some (tw_I (nI m)), some (tw_I l), some (tw_I (nI k)), some (tw_I (nI i))] [] ν else tw_run 134 65 [some (tw_R 6 0), some (tw_I (nI w)), some (tw_I (nI m)), some (tw_I l), some (tw_I (nI k)), some (tw_I (nI i))] [] ν := by
      intro m
      rw [tb_134_26, if_neg (show ¬ (4 : Int32) ≤ nI i from nI_ge (b := 4) i4 (by omega)), tb_134_32, m_at3 k8]
      simp only [Option.bind_some, Option.toList_some, Option.toList_none, List.cons_append, List.nil_append, List.append_nil, tb_134_39]
      rw [r3, hl, if_pos rfl, tb_134_43, m_at1 k8]
      simp only [Option.bind_some, Option.toList_some, Option.toList_none, List.cons_append, List.nil_append, List.append_nil, tb_134_50]
      rw [r1, p1, if_pos rfl, tb_134_54, m_hangs R hk i4]
      simp only [Option.bind_some, Option.toList_some, Option.toList_none, List.cons_append, List.nil_append, List.append_nil, tb_134_62, tn_z]
    -- nothing happens
    have stay : (∀ m o7, ∃ q7, tw_run 57 6 [some (tw_R 3 0), some (tw_R 0 0), some (tw_I (nI k)), some (tw_R 2 k), some (tw_I A), some (tw_I (nI m)), some (tw_I (nI i)), o7] [] μ = tw_run 57 6 [some (tw_R 3 0), some (tw_R 0 0), some (tw_I (nI k)), some (tw_R 2 k), some (tw_I A), some (tw_I (nI m)), some (tw_I (nI (i + 1))), q7] [] μ) → (∀ m, tw_run 134 26 [some (tw_R 6 0), some (tw_I (nI w)), some (tw_I (nI m)), some (tw_I l), some (tw_I (nI k)), some (tw_I (nI i))] [] ν = tw_run 134 26 [some (tw_R 6 0), some (tw_I (nI w)), some (tw_I (nI m)), some (tw_I l), some (tw_I (nI k)), some (tw_I (nI (i + 1)))] [] ν) → ∃ μ' ν' c,
        (∀ m o7, tw_run 57 6 [some (tw_R 3 0), some (tw_R 0 0), some (tw_I (nI k)), some (tw_R 2 k), some (tw_I A), some (tw_I (nI m)), some (tw_I (nI i)), o7] [] μ = some (some (tw_I (nI (m + c))), μ')) ∧
        (∀ m, tw_run 134 26 [some (tw_R 6 0), some (tw_I (nI w)), some (tw_I (nI m)), some (tw_I l), some (tw_I (nI k)), some (tw_I (nI i))] [] ν = tw_run 134 105 [some (tw_R 6 0), some (tw_I (nI w)), some (tw_I (nI (m + c))), some (tw_I l), some (tw_I (nI k)), some (tw_I (nI 4))] [] ν') ∧
        tw_Rn P H S N C h μ' ν' ∧ ux_fr ux_h μ μ' ∧ ux_fr ux_m36 ν ν' := by
      intro t1 t2
      obtain ⟨μ', ν', c, h1, h2, h3, h4, h5⟩ := ih (i + 1) μ ν (by omega) R hA hw hl
      refine ⟨μ', ν', c, fun m o7 => ?_, fun m => ?_, h3, h4, h5⟩
      · obtain ⟨q7, t3⟩ := t1 m o7
        rw [t3]
        exact h1 m q7
      · rw [t2]
        exact h2 m
    by_cases z1 : tw_gi μ 18 k i = -1
    · have hair : tw_ai μ H w h = A := hA
      have hr2 : ∀ m, tw_run 134 65 [some (tw_R 6 0), some (tw_I (nI w)), some (tw_I (nI m)), some (tw_I l), some (tw_I (nI k)), some (tw_I (nI i))] [] ν = if A < tw_gi μ 12 0 (tw_sd μ k i) then tw_run 134 99 [some (tw_R 6 0), some (tw_I (nI w)), some (tw_I (nI m)), some (tw_I l), some (tw_I (nI k)), some (tw_I (nI i))] [] ν else tw_run 134 88 [some (tw_R 6 0), some (tw_I (nI w)), some (tw_I (nI m)), some (tw_I l), some (tw_I (nI k)), some (tw_I (nI i))] [] ν := by
        intro m
        rw [tb_134_65, m_at5 k8 i4]
        simp only [Option.bind_some, Option.toList_some, Option.toList_none, List.cons_append, List.nil_append, List.append_nil, tb_134_79]
        rw [(r6 i hi2).1, s1, if_pos (show tw_in (nI (tw_sd μ k i)) (tw_al 33) from tn_in (show tw_sd μ k i < 10 by omega) (by decide)), nI_clamp (by omega), tb_134_80, hmel, m_air R p2]
        simp only [Option.bind_some, Option.toList_some, Option.toList_none, List.cons_append, List.nil_append, List.append_nil, tb_134_85]
        rw [hair]
      have hc2 : ∀ m, tw_run 57 35 [some (tw_R 3 0), some (tw_R 0 0), some (tw_I (nI k)), some (tw_R 2 k), some (tw_I A), some (tw_I (nI m)), some (tw_I (nI i)), some (tw_I (nI (tw_sd μ k i)))] [] μ = if tw_gi μ 12 0 (tw_sd μ k i) ≤ A then tw_run 57 52 [some (tw_R 3 0), some (tw_R 0 0), some (tw_I (nI k)), some (tw_R 2 k), some (tw_I A), some (tw_I (nI m)), some (tw_I (nI i)), some (tw_I (nI (tw_sd μ k i)))] [] μ else tw_run 57 49 [some (tw_R 3 0), some (tw_R 0 0), some (tw_I (nI k)), some (tw_R 2 k), some (tw_I A), some (tw_I (nI m)), some (tw_I (nI i)), some (tw_I (nI (tw_sd μ k i)))] [] μ := by
        intro m
        rw [tb_57_35, s_at (k := 12) rfl, tw_rd_p (μ := μ) (k := 12) (n := 0) 5 rfl (show tw_sd μ k i < 5 by omega)]
        simp only [Option.bind_some, Option.toList_some, Option.toList_none, List.cons_append, List.nil_append, List.append_nil, tb_57_44]
      by_cases z2 : tw_gi μ 12 0 (tw_sd μ k i) ≤ A
      · -- it is heard
        obtain ⟨μ1, ν1, t1, t2, t3, t4, t5⟩ := ux_heard R hk hi2
        have t4' : ux_fr ux_h μ μ1 := t4.mo (fun k n j q => by unfold ux_h; unfold ux_hk at q; omega)
        have q := ux_q.of t4'
        obtain ⟨μ', ν', c, h1, h2, h3, h4, h5⟩ := ih (i + 1) μ1 ν1 (by rw [q.ln]; omega) t3 (by rw [q.ai]; exact hA) (by rw [q.pl]; exact hw) (by rw [q 2 k 6 (by omega) (by omega) (by omega) (by omega)]; exact hl)
        refine ⟨μ', ν', c + 1, fun m o7 => ?_, fun m => ?_, h3, t4'.tr h4, t5.tr h5⟩
        · rw [hc, if_neg (fun q => q z1), hc2, if_pos z2, tb_57_52, g4, s_put (k := 18) rfl, tw_wr_n (k := 18) (show i < tw_al 18 from i4)]
          simp only [Option.bind_some, Option.toList_some, Option.toList_none, List.cons_append, List.nil_append, List.append_nil, tb_57_65]
          rw [tw_gi_ne (k' := 2) (by omega), p1]
          rw [hw] at t1
          rw [t1]
          simp only [Option.bind_some, Option.toList_some, Option.toList_none, List.cons_append, List.nil_append, List.append_nil, tb_57_76, tb_57_79, nI_1]
          rw [h1 (m + 1), show m + 1 + c = m + (c + 1) by omega]
        · rw [hr, if_neg (fun q => q ⟨hi2, z1⟩), hr2, if_neg (tn_l1 z2), tb_134_88, t2]
          simp only [Option.bind_some, Option.toList_some, Option.toList_none, List.cons_append, List.nil_append, List.append_nil, tb_134_96, tb_134_99, nI_1]
          rw [h2 (m + 1), show m + 1 + c = m + (c + 1) by omega]
      · refine stay (fun m o7 => ⟨some (tw_I (nI (tw_sd μ k i))), ?_⟩) (fun m => ?_)
        · rw [hc, if_neg (fun q => q z1), hc2, if_neg z2, tb_57_49, tb_57_79, nI_1]
        · rw [hr, if_neg (fun q => q ⟨hi2, z1⟩), hr2, if_pos (tn_l2 z2), tb_134_99, nI_1]
    · refine stay (fun m o7 => ⟨some (tw_I (nI (tw_sd μ k i))), ?_⟩) (fun m => ?_)
      · rw [hc, if_pos z1, tb_57_79, nI_1]
      · rw [hr, if_pos (fun q => z1 q.2), tb_134_99, nI_1]
theorem ux_thk (hw : w < P) : ∀ (d k : Nat) (μ ν : tw_M), k + d = C → tw_Rn P H S N C h μ ν → tw_ai μ H w h = A → ∃ μ' ν' c,
    (∀ m o7, ∃ q7, tw_run 61 27 [some (tw_R 3 0), some (tw_R 0 0), some (tw_I (nI w)), some (tw_I A), some (tw_I (nI m)), some (tw_I l), some (tw_I (nI k)), o7] [] μ = tw_run 61 92 [some (tw_R 3 0), some (tw_R 0 0), some (tw_I (nI w)), some (tw_I A), some (tw_I (nI (m + c))), some (tw_I l), some (tw_I (nI C)), q7] [] μ') ∧
    (∀ m o5, ∃ q5, tw_run 134 12 [some (tw_R 6 0), some (tw_I (nI w)), some (tw_I (nI m)), some (tw_I l), some (tw_I (nI k)), o5] [] ν = tw_run 134 111 [some (tw_R 6 0), some (tw_I (nI w)), some (tw_I (nI (m + c))), some (tw_I l), some (tw_I (nI C)), q5] [] ν') ∧
    tw_Rn P H S N C h μ' ν' ∧ ux_fr ux_h μ μ' ∧ ux_fr ux_m36 ν ν' := by
  intro d
  induction d with
  | zero =>
    intro k μ ν hk R hA
    have hk2 : k = C := by omega
    subst hk2
    obtain ⟨g1, g2, g3, g4, g5, g6, g7⟩ := rn_0 R
    refine ⟨μ, ν, 0, fun m o7 => ⟨o7, ?_⟩, fun m o5 => ⟨o5, ?_⟩, R, ux_fr.rf, ux_fr.rf⟩
    · rw [tb_61_27, g3, if_pos (nI_le (Nat.le_refl _) (by omega)), Nat.add_zero]
    · rw [tb_134_12, g7, if_pos (nI_le (Nat.le_refl _) (by omega)), Nat.add_zero]
  | succ d ih =>
    intro k μ ν hk R hA
    have hkC : k < C := by omega
    obtain ⟨k8, b1, b2, b3, b4, b5, b6, b7⟩ := rn_k R hkC
    obtain ⟨r0, r1, r2, r3, r4, r5, r6⟩ := rn_ke R hkC
    obtain ⟨p1, p2, p3⟩ := rn_s R hkC
    obtain ⟨g1, g2, g3, g4, g5, g6, g7⟩ := rn_0 R
    obtain ⟨c1, c2, c3, c4, -⟩ := rn_c R
    have e1 : ¬ nI C ≤ nI k := nI_ge hkC (by omega)
    have es := s_sayingAt_t (i := 0) g3 g1 hkC
    rw [Nat.mul_zero, Nat.zero_add] at es
    have hc : ∀ m o7, tw_run 61 27 [some (tw_R 3 0), some (tw_R 0 0), some (tw_I (nI w)), some (tw_I A), some (tw_I (nI m)), some (tw_I l), some (tw_I (nI k)), o7] [] μ = if tw_gi μ 2 k 4 = nI w then tw_run 61 58 [some (tw_R 3 0), some (tw_R 0 0), some (tw_I (nI w)), some (tw_I A), some (tw_I (nI m)), some (tw_I l), some (tw_I (nI k)), some (tw_R 2 k)] [] μ else tw_run 61 86 [some (tw_R 3 0), some (tw_R 0 0), some (tw_I (nI w)), some (tw_I A), some (tw_I (nI m)), some (tw_I l), some (tw_I (nI k)), some (tw_R 2 k)] [] μ := by
      intro m o7
      rw [tb_61_27, g3, if_neg e1, tb_61_36, es]
      simp only [Option.bind_some, Option.toList_some, Option.toList_none, List.cons_append, List.nil_append, List.append_nil, tb_61_42, tb_61_49]
    have hr : ∀ m o5, tw_run 134 12 [some (tw_R 6 0), some (tw_I (nI w)), some (tw_I (nI m)), some (tw_I l), some (tw_I (nI k)), o5] [] ν = tw_run 134 26 [some (tw_R 6 0), some (tw_I (nI w)), some (tw_I (nI m)), some (tw_I l), some (tw_I (nI k)), some (tw_I (nI 0))] [] ν := by
      intro m o5
      rw [tb_134_12, g7, if_neg e1, tb_134_23]
      rfl
    by_cases z : tw_gi μ 2 k 4 = nI w ∧ tw_gi μ 2 k 6 = l
    · have hpl : tw_pl μ k = w := by unfold tw_pl; rw [z.1, nI_clamp (by omega)]
      obtain ⟨μ1, ν1, e, t1, t2, t3, t4, t5⟩ := ux_thaw (w := w) (A := A) (l := l) hkC (tw_ln μ k) 0 μ ν (by omega) R hA hpl z.2
      have q := ux_q.of t4
      obtain ⟨μ', ν', c, h1, h2, h3, h4, h5⟩ := ih (k + 1) μ1 ν1 (by omega) t3 (by rw [q.ai]; exact hA)
      refine ⟨μ', ν', e + c, fun m o7 => ?_, fun m o5 => ?_, h3, t4.tr h4, t5.tr h5⟩
      · obtain ⟨q7, h6⟩ := h1 (m + e) (some (tw_R 2 k))
        refine ⟨q7, ?_⟩
        have t6 := t1 0 none
        rw [Nat.zero_add] at t6
        rw [hc, if_pos z.1, tb_61_58, if_pos z.2, tb_61_71, te_57, tb_57_0]
        rw [show tw_run 57 6 [some (tw_R 3 0), some (tw_R 0 0), some (tw_I (nI k)), some (tw_R 2 k), some (tw_I A), some (tw_I 0), some (tw_I 0), none] [] μ = _ from t6]
        simp only [Option.bind_some, Option.toList_some, Option.toList_none, List.cons_append, List.nil_append, List.append_nil, tb_61_83, tb_61_86, nI_add, nI_1]
        rw [h6, Nat.add_assoc]
      · obtain ⟨q5, h6⟩ := h2 (m + e) (some (tw_I (nI 4)))
        refine ⟨q5, ?_⟩
        rw [hr, t2 m, tb_134_105, nI_1, h6, Nat.add_assoc]
    · have skip : ∀ (e i m : Nat), i + e = 4 → tw_run 134 26 [some (tw_R 6 0), some (tw_I (nI w)), some (tw_I (nI m)), some (tw_I l), some (tw_I (nI k)), some (tw_I (nI i))] [] ν = tw_run 134 105 [some (tw_R 6 0), some (tw_I (nI w)), some (tw_I (nI m)), some (tw_I l), some (tw_I (nI k)), some (tw_I (nI 4))] [] ν := by
        intro e
        induction e with
        | zero =>
          intro i m hi
          have : i = 4 := by omega
          subst this
          rw [tb_134_26, if_pos (show (4 : Int32) ≤ nI 4 by decide)]
        | succ e ih =>
          intro i m hi
          have ih2 := ih (i + 1) m (by omega)
          rw [tb_134_26, if_neg (show ¬ (4 : Int32) ≤ nI i from nI_ge (b := 4) (by omega) (by omega)), tb_134_32, m_at3 k8]
          simp only [Option.bind_some, Option.toList_some, Option.toList_none, List.cons_append, List.nil_append, List.append_nil, tb_134_39]
          rw [r3]
          by_cases z2 : tw_gi μ 2 k 6 = l
          · rw [if_pos z2, tb_134_43, m_at1 k8]
            simp only [Option.bind_some, Option.toList_some, Option.toList_none, List.cons_append, List.nil_append, List.append_nil, tb_134_50]
            rw [r1, if_neg (fun q => z ⟨q, z2⟩), tb_134_99, nI_1]
            exact ih2
          · rw [if_neg z2, tb_134_99, nI_1]
            exact ih2
      obtain ⟨μ', ν', c, h1, h2, h3, h4, h5⟩ := ih (k + 1) μ ν (by omega) R hA
      refine ⟨μ', ν', c, fun m o7 => ?_, fun m o5 => ?_, h3, h4, h5⟩
      · obtain ⟨q7, h6⟩ := h1 m (some (tw_R 2 k))
        refine ⟨q7, ?_⟩
        rw [hc]
        by_cases z2 : tw_gi μ 2 k 4 = nI w
        · rw [if_pos z2, tb_61_58, if_neg (fun q => z ⟨z2, q⟩), tb_61_68, tb_61_86, nI_1]
          exact h6
        · rw [if_neg z2, tb_61_86, nI_1]
          exact h6
      · obtain ⟨q5, h6⟩ := h2 m (some (tw_I (nI 4)))
        refine ⟨q5, ?_⟩
        rw [hr, skip 4 0 m rfl, tb_134_105, nI_1]
        exact h6
theorem ux_thl (hw : w < P) : ∀ (g : Nat) (μ ν : tw_M), g < 100 → tw_Rn P H S N C h μ ν → tw_ai μ H w h = A → ∃ μ' ν' c,
    (∀ m o6 o7, tw_run 61 18 [some (tw_R 3 0), some (tw_R 0 0), some (tw_I (nI w)), some (tw_I A), some (tw_I (nI m)), some (tw_I (nI g)), o6, o7] [] μ = some (some (tw_I (nI (m + c))), μ')) ∧
    (∀ m o4 o5, tw_run 134 5 [some (tw_R 6 0), some (tw_I (nI w)), some (tw_I (nI m)), some (tw_I (nI g)), o4, o5] [] ν = some (some (tw_I (nI (m + c))), ν')) ∧
    tw_Rn P H S N C h μ' ν' ∧ ux_fr ux_h μ μ' ∧ ux_fr ux_m36 ν ν' := by
  intro g
  induction g with
  | zero =>
    intro μ ν hg R hA
    refine ⟨μ, ν, 0, fun m o6 o7 => ?_, fun m o4 o5 => ?_, R, ux_fr.rf, ux_fr.rf⟩
    · rw [tb_61_18, if_pos (by decide), tb_61_98, Nat.add_zero]
    · rw [tb_134_5, if_pos (by decide), tb_134_117, Nat.add_zero]
  | succ g ih =>
    intro μ ν hg R hA
    obtain ⟨μ1, ν1, c1, t1, t2, t3, t4, t5⟩ := ux_thk (l := nI (g + 1)) (A := A) hw C 0 μ ν (by omega) R hA
    obtain ⟨μ', ν', c, h1, h2, h3, h4, h5⟩ := ih μ1 ν1 (by omega) t3 (by rw [(ux_q.of t4).ai]; exact hA)
    refine ⟨μ', ν', c1 + c, fun m o6 o7 => ?_, fun m o4 o5 => ?_, h3, t4.tr h4, t5.tr h5⟩
    · obtain ⟨q7, t6⟩ := t1 m o7
      rw [tb_61_18, if_neg (show ¬ nI (g + 1) < (1 : Int32) from nI_nlt (b := 1) (by omega) (by omega)), tb_61_24, show (0 : Int32) = nI 0 from rfl, t6, tb_61_92, pk_m1, h1, Nat.add_assoc]
    · obtain ⟨q5, t6⟩ := t2 m o5
      rw [tb_134_5, if_neg (nI_nle (by omega) (by omega)), tb_134_9]
      rw [show tw_run 134 12 [some (tw_R 6 0), some (tw_I (nI w)), some (tw_I (nI m)), some (tw_I (nI (g + 1))), some (tw_I 0), o5] [] ν = _ from t6, tb_134_111, pk_m1, h2, Nat.add_assoc]
theorem ux_melting (R : tw_Rn P H S N C h μ ν) (hw : w < P) : ∃ μ' ν' c, tw_call 61 [tw_R 3 0, tw_R 0 0, tw_I (nI w)] μ = some (some (tw_I (nI c)), μ') ∧ tw_call 134 [tw_R 6 0, tw_I (nI w)] ν = some (some (tw_I (nI c)), ν') ∧ tw_Rn P H S N C h μ' ν' ∧ ux_fr ux_h μ μ' ∧ ux_fr ux_m36 ν ν' := by
  obtain ⟨c1, c2, c3, c4, e5, e6, e7, e8, f5, f6, f7, f8⟩ := rn_c R
  obtain ⟨g1, g2, g3, g4, g5, g6, g7⟩ := rn_0 R
  obtain ⟨μ', ν', c, h1, h2, h3, h4, h5⟩ := ux_thl (A := tw_ai μ H w h) hw 9 μ ν (by omega) R rfl
  have h1' := h1 0 none none
  have h2' := h2 0 none none
  rw [Nat.zero_add] at h1' h2'
  refine ⟨μ', ν', c, ?_, ?_, h3, h4, h5⟩
  · rw [te_61, tb_61_0, g4, s_airIn e6 c2 (show h < 2 ^ 30 by omega) (show w < 4 by omega)]
    simp only [Option.bind_some, Option.toList_some, Option.toList_none, List.cons_append, List.nil_append, List.append_nil, tb_61_10]
    exact h1'
  · rw [te_134, tb_134_0]
    exact h2'
theorem ux_lit (R : tw_Rn P H S N C h μ ν) (v : Int32) : tw_Rn P H S N C h (tw_si μ 3 0 5 v) (tw_si ν 36 0 1 v) := by
  obtain ⟨r1, r2⟩ := R.fc (μ' := tw_si μ 3 0 5 v) (ν' := tw_si ν 36 0 1 v) (ux_fr.rf.si (by unfold ux_now ux_s; omega)) (ux_fr.rf.si rfl)
  have c4 := R.1.2.2.2.1
  obtain ⟨-, -, ⟨i1, i2, i3, i4, i5, i6, i7, i8⟩, ⟨j1, j2, j3, j4, j5⟩⟩ := R
  refine ⟨r1, r2, ?_, ?_⟩
  · unfold tw_Is tw_ln tw_er
    rw [ux_ne (k' := 19) (by decide), ux_ne (k' := 1) (by decide), ux_ne (k' := 15) (by decide), ux_ne (k' := 16) (by decide), ux_ne (k' := 2) (by decide), ux_ne (k' := 17) (by decide), ux_ne (k' := 18) (by decide), tw_gi_ne (by omega), tw_gi_ne (by omega)]
    exact ⟨i1, i2, i3, i4, i5, i6, i7, i8⟩
  · unfold tw_Es tw_ln tw_er
    rw [ux_ne (k' := 19) (by decide), ux_ne (k' := 1) (by decide), ux_ne (k' := 15) (by decide), ux_ne (k' := 16) (by decide), ux_ne (k' := 2) (by decide), ux_ne (k' := 17) (by decide), ux_ne (k' := 18) (by decide)]
    refine ⟨?_, ?_, ?_, fun p' hp' => ?_, fun k hk => ?_⟩
    · rw [ux_f0, if_neg (by omega), tw_gi_ne (by omega)]; exact j1
    · rw [ux_f0, if_pos rfl, tw_gi_eq]
    · rw [ux_f0, if_neg (by omega), tw_gi_ne (by omega)]; exact j3
    · obtain ⟨l1, l2, l3⟩ := j4 p' hp'
      refine ⟨?_, ?_, fun j hj => ?_⟩
      · rw [ux_f0, if_neg (by omega)]; exact l1
      · rw [ux_f0, if_neg (by omega)]; exact l2
      · rw [ux_f0, if_neg (by omega)]; exact l3 j hj
    · obtain ⟨l0, l1, l2, l3, l4, l5, l6⟩ := j5 k hk
      refine ⟨?_, ?_, ?_, ?_, ?_, ?_, fun j hj => ⟨?_, ?_⟩⟩
      · rw [ux_f0, if_neg (by omega)]; exact l0
      · rw [ux_f0, if_neg (by omega)]; exact l1
      · rw [ux_f0, if_neg (by omega)]; exact l2
      · rw [ux_f0, if_neg (by omega)]; exact l3
      · rw [ux_f0, if_neg (by omega)]; exact l4
      · rw [ux_f0, if_neg (by omega)]; exact l5
      · rw [ux_f0, if_neg (by omega)]; exact (l6 j hj).1
      · rw [ux_f0, if_neg (by omega)]; exact (l6 j hj).2
theorem ux_hour (R : tw_Rn P H S N C h μ ν) {g : Nat} (hg : g ≤ 99) : tw_Rn P H S N C g (tw_si μ 3 0 4 (nI g)) (tw_si ν 36 0 0 (nI g)) := by
  obtain ⟨r1, r2⟩ := R.fc (μ' := tw_si μ 3 0 4 (nI g)) (ν' := tw_si ν 36 0 0 (nI g)) (ux_fr.rf.si (by unfold ux_now ux_s; omega)) (ux_fr.rf.si rfl)
  have c4 := R.1.2.2.2.1
  obtain ⟨-, -, ⟨i1, i2, i3, i4, i5, i6, i7, i8⟩, ⟨j1, j2, j3, j4, j5⟩⟩ := R
  refine ⟨r1, r2, ?_, ?_⟩
  · unfold tw_Is tw_ln tw_er
    rw [ux_ne (k' := 19) (by decide), ux_ne (k' := 1) (by decide), ux_ne (k' := 15) (by decide), ux_ne (k' := 16) (by decide), ux_ne (k' := 2) (by decide), ux_ne (k' := 17) (by decide), ux_ne (k' := 18) (by decide), tw_gi_ne (by omega), tw_gi_eq]
    exact ⟨i1, hg, i3, rfl, i5, i6, i7, i8⟩
  · unfold tw_Es tw_ln tw_er
    rw [ux_ne (k' := 19) (by decide), ux_ne (k' := 1) (by decide), ux_ne (k' := 15) (by decide), ux_ne (k' := 16) (by decide), ux_ne (k' := 2) (by decide), ux_ne (k' := 17) (by decide), ux_ne (k' := 18) (by decide)]
    refine ⟨?_, ?_, ?_, fun p' hp' => ?_, fun k hk => ?_⟩
    · rw [ux_f0, if_pos rfl, tw_gi_eq]
    · rw [ux_f0, if_neg (by omega), tw_gi_ne (by omega)]; exact j2
    · rw [ux_f0, if_neg (by omega), tw_gi_ne (by omega)]; exact j3
    · obtain ⟨l1, l2, l3⟩ := j4 p' hp'
      refine ⟨?_, ?_, fun j hj => ?_⟩
      · rw [ux_f0, if_neg (by omega)]; exact l1
      · rw [ux_f0, if_neg (by omega)]; exact l2
      · rw [ux_f0, if_neg (by omega)]; exact l3 j hj
    · obtain ⟨l0, l1, l2, l3, l4, l5, l6⟩ := j5 k hk
      refine ⟨?_, ?_, ?_, ?_, ?_, ?_, fun j hj => ⟨?_, ?_⟩⟩
      · rw [ux_f0, if_neg (by omega)]; exact l0
      · rw [ux_f0, if_neg (by omega)]; exact l1
      · rw [ux_f0, if_neg (by omega)]; exact l2
      · rw [ux_f0, if_neg (by omega)]; exact l3
      · rw [ux_f0, if_neg (by omega)]; exact l4
      · rw [ux_f0, if_neg (by omega)]; exact l5
      · rw [ux_f0, if_neg (by omega)]; exact (l6 j hj).1
      · rw [ux_f0, if_neg (by omega)]; exact (l6 j hj).2
theorem ux_hn (f : ux_fr ux_h μ μ') : ux_fr ux_now μ μ' := f.mo (fun k n j q => by unfold ux_now ux_s; unfold ux_h at q; omega)
theorem op_lantern (R0 : tw_Rl μ ν) : tw_Jn 63 135 [tw_I x] μ ν := by
  obtain ⟨P, H, S, N, C, h, T, R, Tt, Ei, Tr⟩ := id R0
  have R' := R.th
  obtain ⟨c1, c2, c3, c4, e5, e6, e7, e8, f5, f6, f7, f8⟩ := rn_c R'
  obtain ⟨g1, g2, g3, g4, g5, g6, g7⟩ := rn_0 R'
  have hP : P < 2 ^ 31 := by omega
  by_cases hx : tw_in x P
  · have hxb := tw_ib_t hx
    obtain ⟨p, hp, rfl⟩ := tn_of_in hx hP
    by_cases z : tw_bv (tw_gi μ 3 0 5) (nI p) = 0
    · obtain ⟨μ', ν', c, h1, h2, h3, h4, h5⟩ := ux_melting (ux_lit R' (tw_gi μ 3 0 5 ||| ((1 : Int32) <<< (nI p &&& 31)))) hp
      refine ⟨tw_I (nI c), μ', ν', ?_, ?_, ux_rest R'.1 R'.2.1 Tt.th Ei.th Tr ((ux_fr.rf.si (by unfold ux_now ux_s; omega)).tr (ux_hn h4)) ((ux_fr.rf.si rfl).tr h5) h3.2.2.1 h3.2.2.2⟩
      · rw [te_63, tb_63_0, s_isPlace (c := 0) e5 hP]
        simp only [Option.bind_some, Option.toList_some, Option.toList_none, List.cons_append, List.nil_append, List.append_nil, tb_63_8]
        rw [if_neg hxb, tb_63_13, s_isLit]
        simp only [Option.bind_some, Option.toList_some, Option.toList_none, List.cons_append, List.nil_append, List.append_nil, tb_63_21]
        rw [if_pos z, tb_63_27, te_62, tb_62_0, h1]
        simp only [Option.bind_some, Option.toList_some, Option.toList_none, List.cons_append, List.nil_append, List.append_nil, tb_62_18, tb_63_39]
      · rw [te_135, tb_135_0, tw_thf, m_isPlace f5 hP]
        simp only [Option.bind_some, Option.toList_some, Option.toList_none, List.cons_append, List.nil_append, List.append_nil, tb_135_10]
        rw [if_neg hxb, tb_135_15, m_isLit R']
        simp only [Option.bind_some, Option.toList_some, Option.toList_none, List.cons_append, List.nil_append, List.append_nil, tb_135_20]
        rw [if_pos z, tb_135_26, g6, h2]
        simp only [Option.bind_some, Option.toList_some, Option.toList_none, List.cons_append, List.nil_append, List.append_nil, tb_135_43]
    · refine tw_J_of R0 (r := tw_I (-2)) ?_ ?_
      · rw [te_63, tb_63_0, s_isPlace (c := 0) e5 hP]
        simp only [Option.bind_some, Option.toList_some, Option.toList_none, List.cons_append, List.nil_append, List.append_nil, tb_63_8]
        rw [if_neg hxb, tb_63_13, s_isLit]
        simp only [Option.bind_some, Option.toList_some, Option.toList_none, List.cons_append, List.nil_append, List.append_nil, tb_63_21]
        rw [if_neg z, tb_63_24]
      · rw [te_135, tb_135_0, tw_thf, m_isPlace f5 hP]
        simp only [Option.bind_some, Option.toList_some, Option.toList_none, List.cons_append, List.nil_append, List.append_nil, tb_135_10]
        rw [if_neg hxb, tb_135_15, m_isLit R']
        simp only [Option.bind_some, Option.toList_some, Option.toList_none, List.cons_append, List.nil_append, List.append_nil, tb_135_20]
        rw [if_neg z, tb_135_23]
  · refine tw_J_of R0 (r := tw_I (-1)) ?_ ?_
    · simp only [tb_63_0, tb_63_8, tb_63_11, te_63, s_isPlace (c := 0) e5 hP, if_pos (tw_ib_f hx), Option.bind_some, Option.toList_some, Option.toList_none, List.cons_append, List.nil_append, List.append_nil]
    · simp only [tb_135_0, tb_135_10, tb_135_13, te_135, tw_thf, m_isPlace f5 hP, if_pos (tw_ib_f hx), Option.bind_some, Option.toList_some, Option.toList_none, List.cons_append, List.nil_append, List.append_nil]
end
