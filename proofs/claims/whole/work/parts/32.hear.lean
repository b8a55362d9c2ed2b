/-! a sound is heard -/
def ux_h (k n _j : Nat) : Prop := ((k = 1 ∨ k = 15 ∨ k = 16) ∧ n < 4) ∨ (k = 18 ∧ n < 8)
def ux_e (k n _j : Nat) : Prop := (k = 1 ∨ k = 15 ∨ k = 16) ∧ n < 4
def ux_hk (a b k n j : Nat) : Prop := ((k = 1 ∨ k = 15 ∨ k = 16) ∧ n < 4) ∨ (k = 18 ∧ n = a ∧ j = b)
section
variable {μ μ' ν ν' : tw_M} {x y z u v : Int32} {s k p h j t w n P H S N C T i a b m : Nat}
/-- one's list grows by one -/
theorem ux_ear (R : tw_Rn P H S N C h μ ν) (hp : p < N) (hk : k < 8) (hs : s < 5) (h60 : tw_er μ p < 60) :
    tw_Rn P H S N C h (tw_si (tw_si (tw_si μ 15 p (tw_er μ p) (nI k)) 16 p (tw_er μ p) (nI s)) 1 p 2 (nI (tw_er μ p + 1))) (tw_si (tw_si ν 36 0 (123 + 60 * p + tw_er μ p) (8 * nI k + nI s)) 36 0 (7 + p) (nI (tw_er μ p + 1))) := by
  have c4 := R.1.2.2.2.1
  obtain ⟨c, hc⟩ : ∃ c, c = tw_er μ p := ⟨_, rfl⟩
  rw [← hc] at h60 ⊢
  have fμ : ux_fr ux_now μ (tw_si (tw_si (tw_si μ 15 p c (nI k)) 16 p c (nI s)) 1 p 2 (nI (c + 1))) := by
    refine ux_fr.si (ux_fr.si (ux_fr.si ux_fr.rf ?_) ?_) ?_
    all_goals
      unfold ux_now ux_s
      omega
  have fν : ux_fr ux_m36 ν (tw_si (tw_si ν 36 0 (123 + 60 * p + c) (8 * nI k + nI s)) 36 0 (7 + p) (nI (c + 1))) := ux_fr.si (ux_fr.si ux_fr.rf rfl) rfl
  obtain ⟨r1, r2⟩ := R.fc fμ fν
  obtain ⟨-, -, ⟨i1, i2, i3, i4, i5, i6, i7, i8⟩, ⟨j1, j2, j3, j4, j5⟩⟩ := R
  have e1 : ∀ q, q ≠ p → ∀ w, tw_gi (tw_si (tw_si (tw_si μ 15 p c (nI k)) 16 p c (nI s)) 1 p 2 (nI (c + 1))) 1 q w = tw_gi μ 1 q w := fun q hq w => by
    rw [tw_gi_ne (by omega), tw_gi_ne (by omega), tw_gi_ne (by omega)]
  have e15 : ∀ q w, ¬ (q = p ∧ w = c) → tw_gi (tw_si (tw_si (tw_si μ 15 p c (nI k)) 16 p c (nI s)) 1 p 2 (nI (c + 1))) 15 q w = tw_gi μ 15 q w := fun q w hq => by
    rw [tw_gi_ne (by omega), tw_gi_ne (by omega), tw_gi_ne (by omega)]
  have e16 : ∀ q w, ¬ (q = p ∧ w = c) → tw_gi (tw_si (tw_si (tw_si μ 15 p c (nI k)) 16 p c (nI s)) 1 p 2 (nI (c + 1))) 16 q w = tw_gi μ 16 q w := fun q w hq => by
    rw [tw_gi_ne (by omega), tw_gi_ne (by omega), tw_gi_ne (by omega)]
  have erp : tw_er (tw_si (tw_si (tw_si μ 15 p c (nI k)) 16 p c (nI s)) 1 p 2 (nI (c + 1))) p = c + 1 := by
    unfold tw_er
    rw [tw_gi_eq, nI_clamp (by omega)]
  have erq : ∀ q, q ≠ p → tw_er (tw_si (tw_si (tw_si μ 15 p c (nI k)) 16 p c (nI s)) 1 p 2 (nI (c + 1))) q = tw_er μ q := fun q hq => by
    unfold tw_er
    rw [e1 q hq]
  have g : ∀ j, j ≠ 7 + p → j ≠ 123 + 60 * p + c → tw_f0 (tw_si (tw_si ν 36 0 (123 + 60 * p + c) (8 * nI k + nI s)) 36 0 (7 + p) (nI (c + 1))) j = tw_f0 ν j := fun j h1 h2 => by
    rw [ux_f0, if_neg h1, ux_f0, if_neg h2]
  have i7' : ∀ q, q < N → tw_bd (tw_gi μ 1 q 2) 61 ∧ ∀ j, j < tw_er μ q → tw_bd (tw_gi μ 15 q j) 8 ∧ tw_bd (tw_gi μ 16 q j) 5 := fun q hq => by
    have := i7 q hq
    rw [Nat.mul_zero, Nat.zero_add] at this
    exact this
  have j4' : ∀ q, q < N → tw_f0 ν (3 + q) = tw_gi μ 19 0 q ∧ tw_f0 ν (7 + q) = tw_gi μ 1 q 2 ∧ ∀ j, j < tw_er μ q → tw_f0 ν (123 + 60 * q + j) = 8 * tw_gi μ 15 q j + tw_gi μ 16 q j := fun q hq => by
    have := j4 q hq
    rw [Nat.mul_zero, Nat.zero_add] at this
    exact this
  refine ⟨r1, r2, ?_, ?_⟩
  · unfold tw_Is tw_ln
    rw [ux_ne (k' := 3) (by decide), ux_ne (k' := 3) (by decide), ux_ne (k' := 3) (by decide), ux_ne (k' := 19) (by decide), ux_ne (k' := 19) (by decide), ux_ne (k' := 19) (by decide), ux_ne (k' := 2) (by decide), ux_ne (k' := 2) (by decide), ux_ne (k' := 2) (by decide), ux_ne (k' := 17) (by decide), ux_ne (k' := 17) (by decide), ux_ne (k' := 17) (by decide), ux_ne (k' := 18) (by decide), ux_ne (k' := 18) (by decide), ux_ne (k' := 18) (by decide)]
    refine ⟨i1, i2, i3, i4, i5, i6, fun q hq => ?_, i8⟩
    rw [Nat.mul_zero, Nat.zero_add]
    obtain ⟨l1, l2⟩ := i7' q hq
    by_cases z : q = p
    · subst z
      rw [tw_gi_eq, erp]
      refine ⟨⟨c + 1, by omega, rfl⟩, fun j hj => ?_⟩
      by_cases z2 : j = c
      · subst z2
        rw [tw_gi_ne (k' := 15) (by omega), tw_gi_ne (k' := 15) (by omega), tw_gi_eq, tw_gi_ne (k' := 16) (by omega), tw_gi_eq]
        exact ⟨⟨k, hk, rfl⟩, ⟨s, hs, rfl⟩⟩
      · rw [e15 q j (by omega), e16 q j (by omega)]
        exact l2 j (by omega)
    · rw [e1 q z, erq q z]
      refine ⟨l1, fun j hj => ?_⟩
      rw [e15 q j (by omega), e16 q j (by omega)]
      exact l2 j hj
  · unfold tw_Es tw_ln
    rw [ux_ne (k' := 3) (by decide), ux_ne (k' := 3) (by decide), ux_ne (k' := 3) (by decide), ux_ne (k' := 19) (by decide), ux_ne (k' := 19) (by decide), ux_ne (k' := 19) (by decide), ux_ne (k' := 2) (by decide), ux_ne (k' := 2) (by decide), ux_ne (k' := 2) (by decide), ux_ne (k' := 17) (by decide), ux_ne (k' := 17) (by decide), ux_ne (k' := 17) (by decide), ux_ne (k' := 18) (by decide), ux_ne (k' := 18) (by decide), ux_ne (k' := 18) (by decide)]
    rw [g 0 (by omega) (by omega), g 1 (by omega) (by omega), g 2 (by omega) (by omega)]
    refine ⟨j1, j2, j3, fun q hq => ?_, fun k' hk' => ?_⟩
    · rw [Nat.mul_zero, Nat.zero_add, g (3 + q) (by omega) (by omega)]
      obtain ⟨l0, l1⟩ := i7' q hq
      obtain ⟨l2, l3, l4⟩ := j4' q hq
      have l5 : tw_er μ q < 61 := (l0.eq (by omega)).2
      by_cases z : q = p
      · subst z
        rw [tw_gi_eq, erp, ux_f0, if_pos rfl]
        refine ⟨l2, rfl, fun j hj => ?_⟩
        by_cases z2 : j = c
        · subst z2
          rw [ux_f0, if_neg (by omega), ux_f0, if_pos rfl, tw_gi_ne (k' := 15) (by omega), tw_gi_ne (k' := 15) (by omega), tw_gi_eq, tw_gi_ne (k' := 16) (by omega), tw_gi_eq]
        · rw [g _ (by omega) (by omega), e15 q j (by omega), e16 q j (by omega)]
          exact l4 j (by omega)
      · rw [e1 q z, erq q z, g (7 + q) (by omega) (by omega)]
        refine ⟨l2, l3, fun j hj => ?_⟩
        rw [g _ (by omega) (by omega), e15 q j (by omega), e16 q j (by omega)]
        exact l4 j hj
    · obtain ⟨l0, l1, l2, l3, l4, l5, l6⟩ := j5 k' hk'
      have l7 : tw_ln μ (8 * 0 + k') < 5 := ((i8 k' hk').2.2.2.1.eq (by omega)).2
      rw [g _ (by omega) (by omega), g _ (by omega) (by omega), g _ (by omega) (by omega), g _ (by omega) (by omega), g _ (by omega) (by omega), g _ (by omega) (by omega)]
      refine ⟨l0, l1, l2, l3, l4, l5, fun j hj => ?_⟩
      have hj : j < tw_ln μ (8 * 0 + k') := hj
      rw [g _ (by omega) (by omega), g _ (by omega) (by omega)]
      exact l6 j hj
/-- a sound's hour is set -/
theorem ux_mel (R : tw_Rn P H S N C h μ ν) (hk : k < C) (hi : i < tw_ln μ k) : tw_Rn P H S N C h (tw_si μ 18 k i (nI h)) (tw_si ν 36 0 (11 + 14 * k + 9 + i) (nI h)) := by
  have hi4 : tw_ln μ k < 5 := (rn_k R hk).2.2.2.2.2.1
  have k8 : k < 8 := (rn_k R hk).1
  have c4 := R.1.2.2.2.1
  obtain ⟨r1, r2⟩ := R.fc (μ' := tw_si μ 18 k i (nI h)) (ν' := tw_si ν 36 0 (11 + 14 * k + 9 + i) (nI h)) (ux_fr.rf.si (by unfold ux_now ux_s; omega)) (ux_fr.rf.si rfl)
  obtain ⟨-, -, ⟨i1, i2, i3, i4, i5, i6, i7, i8⟩, ⟨j1, j2, j3, j4, j5⟩⟩ := R
  have g : ∀ j, j ≠ 11 + 14 * k + 9 + i → tw_f0 (tw_si ν 36 0 (11 + 14 * k + 9 + i) (nI h)) j = tw_f0 ν j := fun j h1 => by
    rw [ux_f0, if_neg h1]
  refine ⟨r1, r2, ?_, ?_⟩
  · unfold tw_Is tw_ln tw_er
    rw [ux_ne (k' := 3) (by decide), ux_ne (k' := 19) (by decide), ux_ne (k' := 1) (by decide), ux_ne (k' := 15) (by decide), ux_ne (k' := 16) (by decide), ux_ne (k' := 2) (by decide), ux_ne (k' := 17) (by decide)]
    refine ⟨i1, i2, i3, i4, i5, i6, i7, fun k' hk' => ?_⟩
    obtain ⟨l1, l2, l3, l4, l5, l6⟩ := i8 k' hk'
    refine ⟨l1, l2, l3, l4, l5, fun j hj => ⟨(l6 j hj).1, ?_⟩⟩
    rw [Nat.mul_zero, Nat.zero_add]
    by_cases z : k' = k ∧ j = i
    · obtain ⟨rfl, rfl⟩ := z
      rw [tw_gi_eq]
      exact Or.inr ⟨h, by omega, rfl⟩
    · rw [tw_gi_ne (by omega)]
      have := (l6 j hj).2
      rw [Nat.mul_zero, Nat.zero_add] at this
      exact this
  · unfold tw_Es tw_ln tw_er
    rw [ux_ne (k' := 3) (by decide), ux_ne (k' := 19) (by decide), ux_ne (k' := 1) (by decide), ux_ne (k' := 15) (by decide), ux_ne (k' := 16) (by decide), ux_ne (k' := 2) (by decide), ux_ne (k' := 17) (by decide)]
    rw [g 0 (by omega), g 1 (by omega), g 2 (by omega)]
    refine ⟨j1, j2, j3, fun q hq => ?_, fun k' hk' => ?_⟩
    · obtain ⟨l2, l3, l4⟩ := j4 q hq
      rw [g (3 + q) (by omega), g (7 + q) (by omega)]
      refine ⟨l2, l3, fun j hj => ?_⟩
      rw [g _ (by omega)]
      exact l4 j hj
    · obtain ⟨l0, l1, l2, l3, l4, l5, l6⟩ := j5 k' hk'
      have l7 : tw_ln μ (8 * 0 + k') < 5 := ((i8 k' hk').2.2.2.1.eq (by omega)).2
      rw [g _ (by omega), g _ (by omega), g _ (by omega), g _ (by omega), g _ (by omega), g _ (by omega)]
      refine ⟨l0, l1, l2, l3, l4, l5, fun j hj => ?_⟩
      have hj : j < tw_ln μ (8 * 0 + k') := hj
      rw [g (11 + 14 * k' + 5 + j) (by omega)]
      refine ⟨(l6 j hj).1, ?_⟩
      rw [Nat.mul_zero, Nat.zero_add]
      by_cases z : k' = k ∧ j = i
      · obtain ⟨rfl, rfl⟩ := z
        rw [tw_gi_eq, ux_f0, if_pos rfl]
      · rw [tw_gi_ne (by omega), g _ (by omega)]
        have := (l6 j hj).2
        rw [Nat.mul_zero, Nat.zero_add] at this
        exact this
theorem s_earAdd (hc : tw_gi μ 1 p 2 = nI (tw_er μ p)) (h60 : tw_er μ p < 60) : tw_call 55 [tw_R 1 p, tw_I x, tw_I y] μ = some (none, tw_si (tw_si (tw_si μ 15 p (tw_er μ p) x) 16 p (tw_er μ p) y) 1 p 2 (nI (tw_er μ p + 1))) := by
  rw [te_55, tb_55_0, hc, if_pos (show nI (tw_er μ p) < (60 : Int32) from nI_lt (b := 60) h60 (by omega)), tb_55_10, hc, s_put (k := 15) rfl, tw_wr_n (k := 15) (show tw_er μ p < tw_al 15 from h60)]
  simp only [Option.bind_some, Option.toList_some, Option.toList_none, List.cons_append, List.nil_append, List.append_nil, tb_55_22]
  rw [tw_gi_ne (k' := 1) (by omega), hc, s_put (k := 16) rfl, tw_wr_n (k := 16) (show tw_er μ p < tw_al 16 from h60)]
  simp only [Option.bind_some, Option.toList_some, Option.toList_none, List.cons_append, List.nil_append, List.append_nil, tb_55_34]
  rw [tw_gi_ne (k' := 1) (by omega), tw_gi_ne (k' := 1) (by omega), hc, nI_1]
theorem ux_hearing (hw : w < 2 ^ 31) : ∀ (d p : Nat) (μ ν : tw_M) (o5 : Option tw_V), p + d = N → tw_Rn P H S N C h μ ν → k < C → i < tw_ln μ k → tw_gi μ 2 k 4 = nI w → tw_gi μ 17 k i = nI s → s < 5 → ∃ μ' ν', tw_run 56 3 [some (tw_R 3 0), some (tw_I (nI w)), some (tw_I (nI k)), some (tw_I (nI s)), some (tw_I (nI p)), o5] [] μ = some (none, μ') ∧ tw_run 131 25 [some (tw_R 6 0), some (tw_I (nI k)), some (tw_I (nI i)), some (tw_I (nI p))] [] ν = some (none, ν') ∧ tw_Rn P H S N C h μ' ν' ∧ ux_fr ux_e μ μ' ∧ ux_fr ux_m36 ν ν' := by
  intro d
  induction d with
  | zero =>
    intro p μ ν o5 hp R hk hi hw4 hs hs5
    have hp2 : p = N := by omega
    subst hp2
    obtain ⟨c1, c2, c3, c4, e5, e6, e7, e8, f5, f6, f7, f8⟩ := rn_c R
    have tail : ∀ (e q : Nat) (o5 : Option tw_V), q + e = 4 → p ≤ q → tw_run 56 3 [some (tw_R 3 0), some (tw_I (nI w)), some (tw_I (nI k)), some (tw_I (nI s)), some (tw_I (nI q)), o5] [] μ = some (none, μ) := by
      intro e
      induction e with
      | zero =>
        intro q o5 hq hpq
        rw [tb_56_3, if_pos (show nI (tw_al 19) ≤ nI q from nI_le (a := 4) (by omega) (by omega)), tb_56_50]
      | succ e ih =>
        intro q o5 hq hpq
        have q4 : q < 4 := by omega
        have st : tw_gi μ 19 0 q = -1 := R.2.2.1.2.2.2.2.2.1 q hpq q4
        rw [tb_56_3, if_neg (show ¬ nI (tw_al 19) ≤ nI q from nI_ge (b := 4) q4 (by omega)), tb_56_13, s_earAt q4]
        simp only [Option.bind_some, Option.toList_some, Option.toList_none, List.cons_append, List.nil_append, List.append_nil, tb_56_19]
        rw [tb_56_26, if_pos (show tw_in (nI q) (tw_al 19) from tn_in (show q < 4 from q4) (by decide)), nI_clamp (by omega), st, tb_56_33, if_neg (fun z => tn_neg1 w hw z.symm), tb_56_44, nI_1]
        exact ih (q + 1) _ (by omega) (by omega)
    refine ⟨μ, ν, tail (4 - p) p o5 (by omega) (Nat.le_refl _), ?_, R, ux_fr.rf, ux_fr.rf⟩
    rw [tb_131_25, f8, if_pos (nI_le (Nat.le_refl _) (by omega)), tb_131_118]
  | succ d ih =>
    intro p μ ν o5 hp R hk hi hw4 hs hs5
    have hpN : p < N := by omega
    obtain ⟨c1, c2, c3, c4, e5, e6, e7, e8, f5, f6, f7, f8⟩ := rn_c R
    obtain ⟨p4, a2, a3, a4, a5, a6, a7, a8⟩ := rn_p R hpN
    obtain ⟨k8, b1, b2, b3, b4, b5, b6, b7⟩ := rn_k R hk
    obtain ⟨r0, r1, r2, r3, r4, r5, r6⟩ := rn_ke R hk
    have i3 : (3 : Int32) + nI p = nI (3 + p) := nI_add 3 p
    have i7 : (7 : Int32) + nI p = nI (7 + p) := nI_add 7 p
    have j3 : tw_in (nI (3 + p)) (tw_al 36) := tn_in (show 3 + p < 363 by omega) (by decide)
    have j7 : tw_in (nI (7 + p)) (tw_al 36) := tn_in (show 7 + p < 363 by omega) (by decide)
    have n3 : (nI (3 + p)).toNatClampNeg = 3 + p := nI_clamp (by omega)
    have n7 : (nI (7 + p)).toNatClampNeg = 7 + p := nI_clamp (by omega)
    have head : ∀ X, (if tw_gi μ 19 0 p = nI w then tw_run 56 37 [some (tw_R 3 0), some (tw_I (nI w)), some (tw_I (nI k)), some (tw_I (nI s)), some (tw_I (nI p)), some (tw_R 1 p)] [] μ else tw_run 56 44 [some (tw_R 3 0), some (tw_I (nI w)), some (tw_I (nI k)), some (tw_I (nI s)), some (tw_I (nI p)), some (tw_R 1 p)] [] μ) = X → tw_run 56 3 [some (tw_R 3 0), some (tw_I (nI w)), some (tw_I (nI k)), some (tw_I (nI s)), some (tw_I (nI p)), o5] [] μ = X := by
      rintro X rfl
      rw [tb_56_3, if_neg (show ¬ nI (tw_al 19) ≤ nI p from nI_ge (b := 4) p4 (by omega)), tb_56_13, s_earAt p4]
      simp only [Option.bind_some, Option.toList_some, Option.toList_none, List.cons_append, List.nil_append, List.append_nil, tb_56_19, Nat.mul_zero, Nat.zero_add]
      rw [tb_56_26, if_pos (show tw_in (nI p) (tw_al 19) from tn_in (show p < 4 from p4) (by decide)), nI_clamp (by omega), tb_56_33]
    have head2 : ∀ X, (if tw_gi μ 19 0 p = nI w then tw_run 131 50 [some (tw_R 6 0), some (tw_I (nI k)), some (tw_I (nI i)), some (tw_I (nI p))] [] ν else tw_run 131 112 [some (tw_R 6 0), some (tw_I (nI k)), some (tw_I (nI i)), some (tw_I (nI p))] [] ν) = X → tw_run 131 25 [some (tw_R 6 0), some (tw_I (nI k)), some (tw_I (nI i)), some (tw_I (nI p))] [] ν = X := by
      rintro X rfl
      rw [tb_131_25, f8, if_neg (nI_ge hpN (by omega)), tb_131_33, i3, if_pos j3, n3, tb_131_41, m_at1 k8]
      simp only [Option.bind_some, Option.toList_some, Option.toList_none, List.cons_append, List.nil_append, List.append_nil, tb_131_47]
      rw [a6, r1, hw4]
    by_cases z : tw_gi μ 19 0 p = nI w
    · by_cases z2 : tw_er μ p < 60
      · have R2 := ux_ear R hpN k8 hs5 z2
        obtain ⟨μ', ν', h1, h2, h3, h4, h5⟩ := ih (p + 1) _ _ (some (tw_R 1 p)) (by omega) R2 hk hi hw4 hs hs5
        refine ⟨μ', ν', head _ ?_, head2 _ ?_, h3, ((((ux_fr.rf.si (by unfold ux_e; omega)).si (by unfold ux_e; omega)).si (by unfold ux_e; omega))).tr h4, ((ux_fr.rf.si rfl).si rfl).tr h5⟩
        · rw [if_pos z, tb_56_37, s_earAdd a3 z2]
          simp only [Option.bind_some, Option.toList_some, Option.toList_none, List.cons_append, List.nil_append, List.append_nil, tb_56_44, nI_1]
          exact h1
        · have iv : (123 : Int32) + 60 * nI p + nI (tw_er μ p) = nI (123 + 60 * p + tw_er μ p) := by
            show nI 123 + nI 60 * nI p + nI (tw_er μ p) = _
            rw [pk_mul, nI_add, nI_add]
          have jv : tw_in (nI (123 + 60 * p + tw_er μ p)) (tw_al 36) := tn_in (show 123 + 60 * p + tw_er μ p < 363 by omega) (by decide)
          have kv : (nI (123 + 60 * p + tw_er μ p)).toNatClampNeg = 123 + 60 * p + tw_er μ p := nI_clamp (by omega)
          rw [if_pos z, tb_131_50, i7, if_pos j7, n7, a7, a3, tb_131_59, if_neg (show ¬ (60 : Int32) ≤ nI (tw_er μ p) from nI_ge (b := 60) z2 (by omega)), tb_131_64, i7, if_pos j7, n7, a7, a3, tb_131_84, m_at5 k8 (show i < 4 by omega)]
          simp only [Option.bind_some, Option.toList_some, Option.toList_none, List.cons_append, List.nil_append, List.append_nil, tb_131_97]
          rw [(r6 i hi).1, hs, iv, if_pos jv, kv, tb_131_99, i7, if_pos j7, n7, tw_gi_ne (k' := 36) (by omega), a7, a3, tb_131_109, if_pos j7, n7, nI_1, tb_131_112, nI_1]
          exact h2
      · have e60 : tw_er μ p = 60 := by omega
        obtain ⟨μ', ν', h1, h2, h3, h4, h5⟩ := ih (p + 1) _ _ (some (tw_R 1 p)) (by omega) R hk hi hw4 hs hs5
        refine ⟨μ', ν', head _ ?_, head2 _ ?_, h3, h4, h5⟩
        · rw [if_pos z, tb_56_37, te_55, tb_55_0, a3, e60, if_neg (show ¬ nI 60 < (60 : Int32) by decide), tb_55_9]
          simp only [Option.bind_some, Option.toList_some, Option.toList_none, List.cons_append, List.nil_append, List.append_nil, tb_56_44, nI_1]
          exact h1
        · rw [if_pos z, tb_131_50, i7, if_pos j7, n7, a7, a3, tb_131_59, e60, if_pos (show (60 : Int32) ≤ nI 60 by decide), tb_131_112, nI_1]
          exact h2
    · obtain ⟨μ', ν', h1, h2, h3, h4, h5⟩ := ih (p + 1) _ _ (some (tw_R 1 p)) (by omega) R hk hi hw4 hs hs5
      refine ⟨μ', ν', head _ ?_, head2 _ ?_, h3, h4, h5⟩
      · rw [if_neg z, tb_56_44, nI_1]
        exact h1
      · rw [if_neg z, tb_131_112, nI_1]
        exact h2
theorem ux_heard (R : tw_Rn P H S N C h μ ν) (hk : k < C) (hi : i < tw_ln μ k) : ∃ μ' ν', tw_call 56 [tw_R 3 0, tw_I (nI (tw_pl μ k)), tw_I (nI k), tw_I (nI (tw_sd μ k i))] (tw_si μ 18 k i (nI h)) = some (none, μ') ∧ tw_call 131 [tw_R 6 0, tw_I (nI k), tw_I (nI i)] ν = some (none, ν') ∧ tw_Rn P H S N C h μ' ν' ∧ ux_fr (ux_hk k i) μ μ' ∧ ux_fr ux_m36 ν ν' := by
  obtain ⟨k8, b1, b2, b3, b4, b5, b6, b7⟩ := rn_k R hk
  obtain ⟨p1, p2, p3⟩ := rn_s R hk
  obtain ⟨s1, s2⟩ := p3 i hi
  obtain ⟨c1, c2, c3, c4, -⟩ := rn_c R
  obtain ⟨g1, g2, g3, g4, g5, g6, g7⟩ := rn_0 R
  have ia : (11 : Int32) + 14 * nI k + 9 + nI i = nI (11 + 14 * k + 9 + i) := by
    show nI 11 + nI 14 * nI k + nI 9 + nI i = _
    rw [pk_mul, nI_add, nI_add, nI_add]
  obtain ⟨μ', ν', h1, h2, h3, h4, h5⟩ := ux_hearing (P := P) (H := H) (S := S) (N := N) (C := C) (h := h) (k := k) (i := i) (s := tw_sd μ k i) (w := tw_pl μ k) (by omega) N 0 _ _ none (by omega) (ux_mel R hk hi) hk hi p1 s1 (by omega)
  refine ⟨μ', ν', ?_, ?_, h3, (ux_fr.rf.si (by unfold ux_hk; omega)).tr (h4.mo (fun k n j q => Or.inl q)), (ux_fr.rf.si rfl).tr h5⟩
  · rw [te_56, tb_56_0]
    exact h1
  · rw [te_131, tb_131_0, ia, if_pos (show tw_in (nI (11 + 14 * k + 9 + i)) (tw_al 36) from tn_in (show 11 + 14 * k + 9 + i < 363 by omega) (by decide)), nI_clamp (by omega), g5, tb_131_23]
    exact h2
end
