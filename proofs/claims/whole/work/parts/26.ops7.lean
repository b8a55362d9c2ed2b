/-! what lanterns -/
noncomputable def tw_ls (μ : tw_M) (t : Int32) : Nat → Int32
  | 0 => 0
  | k + 1 => tw_ls μ t k ||| (if ¬ tw_bv t (nI k) = 0 ∧ 0 < tw_hg μ k then (1 : Int32) <<< (tw_gi μ 2 k 4 &&& 31) else 0)
def tw_any (b : Nat → Bool) : Nat → Nat → Bool
  | 0, _ => false
  | d + 1, j => b j || tw_any b d (j + 1)
theorem tw_any_iff {b : Nat → Bool} : ∀ (d j : Nat), tw_any b d j = true ↔ ∃ i, j ≤ i ∧ i < j + d ∧ b i = true
  | 0, j => ⟨fun h => Bool.noConfusion h, fun ⟨i, h1, h2, _⟩ => absurd h1 (by omega)⟩
  | d + 1, j => by
    rw [tw_any, Bool.or_eq_true, tw_any_iff d (j + 1)]
    constructor
    · rintro (h | ⟨i, h1, h2, h3⟩)
      · exact ⟨j, Nat.le_refl _, by omega, h⟩
      · exact ⟨i, by omega, by omega, h3⟩
    · rintro ⟨i, h1, h2, h3⟩
      by_cases z : i = j
      · exact Or.inl (z ▸ h3)
      · exact Or.inr ⟨i, by omega, by omega, h3⟩
theorem tw_cn_sub {p q : Nat → Bool} : ∀ n, (∀ j, j < n → p j = true → q j = true) → tw_cn p n ≤ tw_cn q n
  | 0, _ => Nat.le_refl _
  | n + 1, h => by
    have ih := tw_cn_sub n (fun j hj => h j (by omega))
    rw [tw_cn, tw_cn]
    by_cases z : p n = true
    · rw [if_pos z, if_pos (h n (by omega) z)]; omega
    · rw [if_neg z]
      split <;> omega
theorem tw_cn_lt {p q : Nat → Bool} : ∀ n, (∀ j, j < n → p j = true → q j = true) → (tw_cn p n < tw_cn q n ↔ ∃ j, j < n ∧ q j = true ∧ ¬ p j = true)
  | 0, _ => ⟨fun h => absurd h (Nat.lt_irrefl _), fun ⟨j, h, _⟩ => absurd h (Nat.not_lt_zero _)⟩
  | n + 1, h => by
    have ih := tw_cn_lt n (fun j hj => h j (by omega))
    have le := tw_cn_sub n (fun j hj => h j (by omega))
    rw [tw_cn, tw_cn]
    by_cases z : p n = true
    · rw [if_pos z, if_pos (h n (by omega) z), Nat.add_lt_add_iff_right, ih]
      constructor
      · rintro ⟨j, a, b, c⟩; exact ⟨j, by omega, b, c⟩
      · rintro ⟨j, a, b, c⟩
        have : j ≠ n := fun e => c (e ▸ z)
        exact ⟨j, by omega, b, c⟩
    · rw [if_neg z]
      by_cases y : q n = true
      · rw [if_pos y]
        exact ⟨fun _ => ⟨n, by omega, y, z⟩, fun _ => by omega⟩
      · rw [if_neg y, Nat.add_zero, Nat.add_zero, ih]
        constructor
        · rintro ⟨j, a, b, c⟩; exact ⟨j, by omega, b, c⟩
        · rintro ⟨j, a, b, c⟩
          have : j ≠ n := fun e => y (e ▸ b)
          exact ⟨j, by omega, b, c⟩
theorem tw_cn_pos {p : Nat → Bool} : ∀ n, (0 < tw_cn p n ↔ ∃ j, j < n ∧ p j = true)
  | 0 => ⟨fun h => absurd h (Nat.lt_irrefl _), fun ⟨j, h, _⟩ => absurd h (Nat.not_lt_zero _)⟩
  | n + 1 => by
    rw [tw_cn]
    by_cases z : p n = true
    · rw [if_pos z]
      exact ⟨fun _ => ⟨n, by omega, z⟩, fun _ => by omega⟩
    · rw [if_neg z, Nat.add_zero, tw_cn_pos n]
      constructor
      · rintro ⟨j, a, b⟩; exact ⟨j, by omega, b⟩
      · rintro ⟨j, a, b⟩
        have : j ≠ n := fun e => z (e ▸ b)
        exact ⟨j, by omega, b⟩
/-- whether a lantern would melt it -/
noncomputable def tw_mb (μ : tw_M) (H h k i : Nat) : Bool := decide (tw_gi μ 12 0 (tw_sd μ k i) ≤ tw_ai μ H (tw_pl μ k) h + 5)
noncomputable def tw_tb (μ : tw_M) (H h k : Nat) : Nat → Bool := fun i => tw_hb μ k i && tw_mb μ H h k i
/-- what speaks against lanterns at the places of the bits -/
noncomputable def ux_bi (μ : tw_M) (H h : Nat) (x y l : Int32) (k i : Nat) : Bool :=
  decide (i < tw_ln μ k) && (tw_hb μ k i && (decide (¬ tw_bv l (tw_gi μ 2 k 4) = 0) && ((decide (¬ tw_bv x (nI k) = 0) && !tw_mb μ H h k i) || (decide (¬ tw_bv y (nI k) = 0) && tw_mb μ H h k i))))
noncomputable def ux_bk (μ : tw_M) (H h : Nat) (x y l : Int32) (k : Nat) : Bool := tw_any (ux_bi μ H h x y l k) 4 0
def tw_lr (b : Nat → Bool) (l : Int32) : Nat → Nat → Int32
  | 0, _ => l
  | d + 1, k => if b k = true then -9 else tw_lr b l d (k + 1)
section
variable {μ ν : tw_M} {x y z : Int32} {s k p h j t w n P H S N C : Nat}
theorem ux_bk_iff {l : Int32} (h5 : tw_ln μ k < 5) : ux_bk μ H h x y l k = true ↔ ¬ tw_bv l (tw_gi μ 2 k 4) = 0 ∧ ((¬ tw_bv x (nI k) = 0 ∧ tw_cn (tw_tb μ H h k) (tw_ln μ k) < tw_hg μ k) ∨ (¬ tw_bv y (nI k) = 0 ∧ 0 < tw_cn (tw_tb μ H h k) (tw_ln μ k))) := by
  have sub : ∀ j, j < tw_ln μ k → tw_tb μ H h k j = true → tw_hb μ k j = true := by
    intro j _ q
    exact ((Bool.and_eq_true _ _).mp q).1
  unfold ux_bk tw_hg
  rw [tw_any_iff, tw_cn_lt _ sub, tw_cn_pos]
  unfold ux_bi tw_tb
  simp only [Bool.and_eq_true, Bool.or_eq_true, decide_eq_true_iff, Bool.not_eq_true']
  constructor
  · rintro ⟨i, -, -, i1, i2, i3, (⟨i4, i5⟩ | ⟨i4, i5⟩)⟩
    · refine ⟨i3, Or.inl ⟨i4, i, i1, i2, ?_⟩⟩
      rintro ⟨-, q⟩
      rw [q] at i5
      exact Bool.noConfusion i5
    · exact ⟨i3, Or.inr ⟨i4, i, i1, i2, i5⟩⟩
  · rintro ⟨i3, (⟨i4, i, i1, i2, i5⟩ | ⟨i4, i, i1, i2, i5⟩)⟩
    · refine ⟨i, Nat.zero_le _, by omega, i1, i2, i3, Or.inl ⟨i4, ?_⟩⟩
      cases e : tw_mb μ H h k i with
      | false => rfl
      | true => exact absurd ⟨i2, e⟩ i5
    · exact ⟨i, Nat.zero_le _, by omega, i1, i2, i3, Or.inr ⟨i4, i5⟩⟩
theorem s_placesOf (R : tw_Rn P H S N C h μ ν) : tw_call 79 [tw_R 3 0, tw_I x] μ = some (some (tw_I (tw_ls μ x C)), μ) := by
  obtain ⟨c8, -, e2, -, -, -, -⟩ := rn_0 R
  have loop : ∀ (d k : Nat) (o : Option tw_V), k + d = C → tw_run 79 4 [some (tw_R 3 0), some (tw_I x), some (tw_I (tw_ls μ x k)), some (tw_I (nI k)), o] [] μ = some (some (tw_I (tw_ls μ x C)), μ) := by
    intro d
    induction d with
    | zero =>
      intro k o hk
      have hk2 : k = C := by omega
      subst hk2
      rw [tb_79_4, e2, if_pos (nI_le (Nat.le_refl _) (by omega)), tb_79_56]
    | succ d ih =>
      intro k o hk
      have hk2 : k < C := by omega
      obtain ⟨k8, -, hbp, -, hl1, hl2, -⟩ := rn_k R hk2
      have ih2 := ih (k + 1) (some (tw_R 2 k)) (by omega)
      have hg4 : tw_hg μ k ≤ tw_ln μ k := tw_cn_le _ _
      rw [tw_ls] at ih2
      rw [tb_79_4, e2, if_neg (nI_ge hk2 (by omega)), tb_79_12, s_sayingAt_t e2 c8 hk2, Nat.mul_zero, Nat.zero_add]
      simp only [Option.bind_some, Option.toList_some, Option.toList_none, List.cons_append, List.nil_append, List.append_nil, tb_79_17, tb_79_24, s_hasBit, tb_79_29]
      by_cases z1 : tw_bv x (nI k) = 0
      · rw [if_neg (fun q => q.1 z1), tn_or0] at ih2
        rw [if_pos z1, tb_79_50, nI_1]
        exact ih2
      · rw [if_neg z1, tb_79_32, s_hanging (n := k) ⟨_, hl2, hl1⟩]
        simp only [Option.bind_some, Option.toList_some, Option.toList_none, List.cons_append, List.nil_append, List.append_nil, tb_79_37]
        by_cases z2 : 0 < tw_hg μ k
        · rw [if_pos ⟨z1, z2⟩] at ih2
          rw [if_neg (nI_nle z2 (by omega)), tb_79_40, tb_79_50, nI_1]
          exact ih2
        · rw [if_neg (fun q => z2 q.2), tn_or0] at ih2
          rw [show tw_hg μ k = 0 by omega, if_pos (by decide), tb_79_50, nI_1]
          exact ih2
  rw [te_79, tb_79_0]
  exact loop C 0 _ (by omega)
theorem s_thawing (R : tw_Rn P H S N C h μ ν) (hk : k < C) : tw_call 80 [tw_R 3 0, tw_R 0 0, tw_R 2 k] μ = some (some (tw_I (nI (tw_cn (tw_tb μ H h k) (tw_ln μ k)))), μ) := by
  obtain ⟨c1, c2, c3, c4, e5, e6, e7, e8, -⟩ := rn_c R
  obtain ⟨g1, g2, g3, g4, -⟩ := rn_0 R
  obtain ⟨k8, -, hbp, -, hl1, hl2, -⟩ := rn_k R hk
  obtain ⟨p1, p2, p3⟩ := rn_s R hk
  have loop : ∀ (d j : Nat) (o0 : Option tw_V), j + d = tw_ln μ k → tw_run 80 22 [o0, some (tw_R 0 0), some (tw_R 2 k), some (tw_I (tw_ai μ H (tw_pl μ k) h + 5)), some (tw_I (nI (tw_cn (tw_tb μ H h k) j))), some (tw_I (nI j))] [] μ = some (some (tw_I (nI (tw_cn (tw_tb μ H h k) (tw_ln μ k)))), μ) := by
    intro d
    induction d with
    | zero =>
      intro j o0 hj
      have hj2 : j = tw_ln μ k := by omega
      rw [tb_80_22, hl1, if_pos (nI_le (by omega) (by omega)), tb_80_69, hj2]
    | succ d ih =>
      intro j o0 hj
      have hj2 : j < tw_ln μ k := by omega
      have ih2 := ih (j + 1) o0 (by omega)
      obtain ⟨s1, s2⟩ := p3 j hj2
      rw [tw_cn] at ih2
      rw [tb_80_22, hl1, if_neg (nI_ge hj2 (by omega)), tb_80_31, s_hangs (show j < 4 by omega)]
      simp only [Option.bind_some, Option.toList_some, Option.toList_none, List.cons_append, List.nil_append, List.append_nil, tb_80_37, tn_z]
      by_cases z1 : tw_gi μ 18 k j = -1
      · have hb1 : tw_hb μ k j = true := decide_eq_true z1
        rw [if_neg (fun q => q z1), tb_80_40, s_at (k := 17) rfl, tw_rd_p (μ := μ) (k := 17) (n := k) 4 rfl (show j < 4 by omega), s1]
        simp only [Option.bind_some, Option.toList_some, Option.toList_none, List.cons_append, List.nil_append, List.append_nil, tb_80_53, s_at (k := 12) rfl, tw_rd_p (μ := μ) (k := 12) (n := 0) 5 rfl (show tw_sd μ k j < 5 by omega), tb_80_56]
        by_cases z2 : tw_gi μ 12 0 (tw_sd μ k j) ≤ tw_ai μ H (tw_pl μ k) h + 5
        · have t1 : tw_tb μ H h k j = true := (Bool.and_eq_true _ _).mpr ⟨hb1, decide_eq_true z2⟩
          rw [if_pos t1] at ih2
          rw [if_neg (tn_l1 z2), tb_80_60, tb_80_63, nI_1, nI_1]
          exact ih2
        · have t1 : ¬ tw_tb μ H h k j = true := fun q => z2 (of_decide_eq_true ((Bool.and_eq_true _ _).mp q).2)
          rw [if_neg t1] at ih2
          rw [if_pos (tn_l2 z2), tb_80_63, nI_1]
          exact ih2
      · have t1 : ¬ tw_tb μ H h k j = true := fun q => z1 (of_decide_eq_true ((Bool.and_eq_true _ _).mp q).1)
        rw [if_neg t1] at ih2
        rw [if_pos z1, tb_80_63, nI_1]
        exact ih2
  rw [te_80, tb_80_0, p1, g4, s_airIn e6 c2 (show h < 2 ^ 30 by omega) (show tw_pl μ k < 4 by omega)]
  simp only [Option.bind_some, Option.toList_some, Option.toList_none, List.cons_append, List.nil_append, List.append_nil, tb_80_13]
  exact loop (tw_ln μ k) 0 _ (by omega)
theorem op_lanterns (R0 : tw_Rl μ ν) : tw_Jn 81 149 [tw_I x, tw_I y] μ ν := by
  obtain ⟨P, H, S, N, C, h, T, R, -⟩ := id R0
  have R' := R.th
  obtain ⟨c1, c2, c3, c4, e5, e6, e7, e8, f5, f6, f7, f8⟩ := rn_c R'
  obtain ⟨g1, g2, g3, g4, g5, g6, g7⟩ := rn_0 R'
  have l1 : ∀ (d k : Nat), k + d = C → tw_run 149 10 [some (tw_R 6 0), some (tw_I x), some (tw_I y), some (tw_I (tw_ls μ x k)), some (tw_I (nI k)), none, none] [] (tw_th ν) = tw_run 149 62 [some (tw_R 6 0), some (tw_I x), some (tw_I y), some (tw_I (tw_ls μ x C)), some (tw_I (nI C)), none, none] [] (tw_th ν) := by
    intro d
    induction d with
    | zero =>
      intro k hk
      have hk2 : k = C := by omega
      subst hk2
      rw [tb_149_10, g7, if_pos (nI_le (Nat.le_refl _) (by omega))]
    | succ d ih =>
      intro k hk
      have hk2 : k < C := by omega
      obtain ⟨k8, q1, q2, q3, q4, q5, q6, -⟩ := rn_k R' hk2
      obtain ⟨r0, r1, r2, r3, r4, r5, r6⟩ := rn_ke R' hk2
      have ih2 := ih (k + 1) (by omega)
      have hg4 : tw_hg μ k ≤ tw_ln μ k := tw_cn_le _ _
      rw [tw_ls] at ih2
      rw [tb_149_10, g7, if_neg (nI_ge hk2 (by omega)), tb_149_21]
      by_cases z1 : tw_bv x (nI k) = 0
      · rw [if_neg (fun q => q.1 z1), tn_or0] at ih2
        rw [if_neg (fun q => tn_bv1.mp q z1), tb_149_53, tb_149_54, tn_or0, nI_1]
        exact ih2
      · rw [if_pos (tn_bv1.mpr z1), tb_149_32, m_hangingOf R' hk2]
        simp only [Option.bind_some, Option.toList_some, Option.toList_none, List.cons_append, List.nil_append, List.append_nil, tb_149_38]
        by_cases z2 : 0 < tw_hg μ k
        · rw [if_pos ⟨z1, z2⟩] at ih2
          rw [if_neg (nI_nle z2 (by omega)), tb_149_41, m_at1 k8]
          simp only [Option.bind_some, Option.toList_some, Option.toList_none, List.cons_append, List.nil_append, List.append_nil, tb_149_49, tb_149_54, nI_1, r1]
          exact ih2
        · rw [if_neg (fun q => z2 q.2), tn_or0] at ih2
          rw [show tw_hg μ k = 0 by omega, if_pos (by decide), tb_149_53, tb_149_54, tn_or0, nI_1]
          exact ih2
  have l10 := l1 C 0 (by omega)
  obtain ⟨l, hl⟩ : ∃ l, l = tw_ls μ x C := ⟨_, rfl⟩
  rw [← hl] at l10
  by_cases z0 : l &&& tw_gi μ 3 0 5 = 0
  · have cl : ∀ (d k : Nat) (o5 o6 : Option tw_V), k + d = C → tw_run 81 27 [some (tw_R 5 0), some (tw_I x), some (tw_I y), some (tw_I l), some (tw_I (nI k)), o5, o6] [] μ = some (some (tw_I (tw_lr (ux_bk μ H h x y l) l d k)), μ) := by
      intro d
      induction d with
      | zero =>
        intro k o5 o6 hk
        have hk2 : k = C := by omega
        subst hk2
        rw [tb_81_27, g3, if_pos (nI_le (Nat.le_refl _) (by omega)), tb_81_130]
        rfl
      | succ d ih =>
        intro k o5 o6 hk
        have hk2 : k < C := by omega
        obtain ⟨k8, q1, q2, q3, q4, q5, q6, -⟩ := rn_k R' hk2
        have es := s_sayingAt_t (i := 0) g3 g1 hk2
        rw [Nat.mul_zero, Nat.zero_add] at es
        have hg4 : tw_hg μ k ≤ tw_ln μ k := tw_cn_le _ _
        have tb4 : tw_cn (tw_tb μ H h k) (tw_ln μ k) ≤ tw_ln μ k := tw_cn_le _ _
        have bad := ux_bk_iff (μ := μ) (H := H) (h := h) (x := x) (y := y) (k := k) (l := l) q5
        have next : ∀ o6, ¬ ux_bk μ H h x y l k = true → tw_run 81 124 [some (tw_R 5 0), some (tw_I x), some (tw_I y), some (tw_I l), some (tw_I (nI k)), some (tw_R 2 k), o6] [] μ = some (some (tw_I (tw_lr (ux_bk μ H h x y l) l (d + 1) k)), μ) := by
          intro o6 q
          rw [tw_lr, if_neg q, tb_81_124, nI_1]
          exact ih (k + 1) _ _ (by omega)
        rw [tb_81_27, g3, if_neg (nI_ge hk2 (by omega)), tb_81_39, es]
        simp only [Option.bind_some, Option.toList_some, Option.toList_none, List.cons_append, List.nil_append, List.append_nil, tb_81_48, tb_81_55, s_hasBit, tb_81_64]
        by_cases z1 : tw_bv l (tw_gi μ 2 k 4) = 0
        · rw [if_pos z1, tb_81_67]
          exact next _ (fun q => (bad.mp q).1 z1)
        · rw [if_neg z1, tb_81_70, s_thawing R' hk2]
          simp only [Option.bind_some, Option.toList_some, Option.toList_none, List.cons_append, List.nil_append, List.append_nil, tb_81_83, s_hasBit, tb_81_91]
          have tail : ¬ (¬ tw_bv x (nI k) = 0 ∧ tw_cn (tw_tb μ H h k) (tw_ln μ k) < tw_hg μ k) → tw_run 81 107 [some (tw_R 5 0), some (tw_I x), some (tw_I y), some (tw_I l), some (tw_I (nI k)), some (tw_R 2 k), some (tw_I (nI (tw_cn (tw_tb μ H h k) (tw_ln μ k))))] [] μ = some (some (tw_I (tw_lr (ux_bk μ H h x y l) l (d + 1) k)), μ) := by
            intro no
            rw [tb_81_107, s_hasBit]
            simp only [Option.bind_some, Option.toList_some, Option.toList_none, List.cons_append, List.nil_append, List.append_nil, tb_81_113]
            by_cases z3 : tw_bv y (nI k) = 0
            · rw [if_pos z3]
              exact next _ (fun q => (bad.mp q).2.elim no (fun w => w.1 z3))
            · rw [if_neg z3, tb_81_116]
              by_cases z4 : 0 < tw_cn (tw_tb μ H h k) (tw_ln μ k)
              · rw [if_neg (nI_nle z4 (by omega)), tb_81_121, tw_lr, if_pos (bad.mpr ⟨z1, Or.inr ⟨z3, z4⟩⟩)]
              · have e0 : tw_cn (tw_tb μ H h k) (tw_ln μ k) = 0 := by omega
                rw [if_pos (by rw [e0]; decide)]
                exact next _ (fun q => (bad.mp q).2.elim no (fun w => z4 w.2))
          by_cases z2 : tw_bv x (nI k) = 0
          · rw [if_pos z2]
            exact tail (fun q => q.1 z2)
          · rw [if_neg z2, tb_81_94, s_hanging (n := k) ⟨_, q5, q4⟩]
            simp only [Option.bind_some, Option.toList_some, Option.toList_none, List.cons_append, List.nil_append, List.append_nil, tb_81_101]
            by_cases z4 : tw_cn (tw_tb μ H h k) (tw_ln μ k) < tw_hg μ k
            · rw [if_neg (nI_ge z4 (by omega)), tb_81_104, tw_lr, if_pos (bad.mpr ⟨z1, Or.inl ⟨z2, z4⟩⟩)]
            · rw [if_pos (nI_le (by omega) (by omega))]
              exact tail (fun q => z4 q.2)
    have rl : ∀ (d k : Nat) (o5 o6 : Option tw_V), k + d = C → tw_run 149 79 [some (tw_R 6 0), some (tw_I x), some (tw_I y), some (tw_I l), some (tw_I (nI k)), o5, o6] [] (tw_th ν) = some (some (tw_I (tw_lr (ux_bk μ H h x y l) l d k)), tw_th ν) := by
      intro d
      induction d with
      | zero =>
        intro k o5 o6 hk
        have hk2 : k = C := by omega
        subst hk2
        rw [tb_149_79, g7, if_pos (nI_le (Nat.le_refl _) (by omega)), tb_149_208]
        rfl
      | succ d ih =>
        intro k o5 o6 hk
        have hk2 : k < C := by omega
        obtain ⟨k8, q1, q2, q3, q4, q5, q6, -⟩ := rn_k R' hk2
        obtain ⟨r0, r1, r2, r3, r4, r5, r6⟩ := rn_ke R' hk2
        obtain ⟨p1, p2, p3⟩ := rn_s R' hk2
        have inner : ∀ (e i : Nat) (o6 : Option tw_V), i + e = 4 → tw_run 149 93 [some (tw_R 6 0), some (tw_I x), some (tw_I y), some (tw_I l), some (tw_I (nI k)), some (tw_I (nI i)), o6] [] (tw_th ν) = some (some (tw_I (if tw_any (ux_bi μ H h x y l k) e i = true then -9 else tw_lr (ux_bk μ H h x y l) l d (k + 1))), tw_th ν) := by
          intro e
          induction e with
          | zero =>
            intro i o6 hi
            have : i = 4 := by omega
            subst this
            rw [tb_149_93, if_pos (show (4 : Int32) ≤ nI 4 by decide), tb_149_202, nI_1]
            exact ih (k + 1) _ _ (by omega)
          | succ e ihe =>
            intro i o6 hi
            have hi4 : i < 4 := by omega
            have skip : ∀ o6, ¬ ux_bi μ H h x y l k i = true → tw_run 149 196 [some (tw_R 6 0), some (tw_I x), some (tw_I y), some (tw_I l), some (tw_I (nI k)), some (tw_I (nI i)), o6] [] (tw_th ν) = some (some (tw_I (if tw_any (ux_bi μ H h x y l k) (e + 1) i = true then -9 else tw_lr (ux_bk μ H h x y l) l d (k + 1))), tw_th ν) := by
              intro o6 q
              rw [tb_149_196, nI_1, ihe (i + 1) _ (by omega), tw_any, Bool.eq_false_iff.mpr q, Bool.false_or]
            have found : ∀ (o : List (Option tw_V)), ux_bi μ H h x y l k i = true → (some (some (tw_I (-9)), tw_th ν) : Option (Option tw_V × tw_M)) = some (some (tw_I (if tw_any (ux_bi μ H h x y l k) (e + 1) i = true then -9 else tw_lr (ux_bk μ H h x y l) l d (k + 1))), tw_th ν) := by
              intro o q
              rw [tw_any, q, Bool.true_or, if_pos rfl]
            rw [tb_149_93, if_neg (show ¬ (4 : Int32) ≤ nI i from nI_ge (b := 4) (by omega) (by omega)), tb_149_99, m_hangs R' hk2 hi4]
            simp only [Option.bind_some, Option.toList_some, Option.toList_none, List.cons_append, List.nil_append, List.append_nil, tb_149_107, tn_z]
            by_cases z1 : i < tw_ln μ k ∧ tw_gi μ 18 k i = -1
            · obtain ⟨s1, s2⟩ := p3 i z1.1
              have hb1 : tw_hb μ k i = true := decide_eq_true z1.2
              rw [if_neg (fun q => q z1), tb_149_110, m_at1 k8]
              simp only [Option.bind_some, Option.toList_some, Option.toList_none, List.cons_append, List.nil_append, List.append_nil, tb_149_118, r1, tn_bv1]
              by_cases z2 : tw_bv l (tw_gi μ 2 k 4) = 0
              · rw [if_neg (fun q => q z2)]
                refine skip _ (fun q => ?_)
                unfold ux_bi at q
                simp only [Bool.and_eq_true, decide_eq_true_iff] at q
                exact q.2.2.1 z2
              · have hmel := R'.2.1.2.2.2.2.2.2.1 _ s2
                rw [if_pos z2, tb_149_125, m_at5 k8 hi4]
                simp only [Option.bind_some, Option.toList_some, Option.toList_none, List.cons_append, List.nil_append, List.append_nil, (r6 i z1.1).1, s1, tb_149_139]
                rw [if_pos (show tw_in (nI (tw_sd μ k i)) (tw_al 33) from tn_in (show tw_sd μ k i < 10 by omega) (by decide)), nI_clamp (by omega), tb_149_140, m_at1 k8, hmel]
                simp only [Option.bind_some, Option.toList_some, Option.toList_none, List.cons_append, List.nil_append, List.append_nil, tb_149_148, r1, p1, m_air R' p2, tb_149_151]
                have test : ∀ b : Bool, tw_mb μ H h k i = b → tw_run 149 161 [some (tw_R 6 0), some (tw_I x), some (tw_I y), some (tw_I l), some (tw_I (nI k)), some (tw_I (nI i)), o6] [tw_I (if b = true then 1 else 0)] (tw_th ν) = some (some (tw_I (if tw_any (ux_bi μ H h x y l k) (e + 1) i = true then -9 else tw_lr (ux_bk μ H h x y l) l d (k + 1))), tw_th ν) := by
                  intro b hb
                  have hbi : ux_bi μ H h x y l k i = ((decide (¬ tw_bv x (nI k) = 0) && !b) || (decide (¬ tw_bv y (nI k) = 0) && b)) := by
                    unfold ux_bi
                    rw [hb, hb1, decide_eq_true z1.1, decide_eq_true z2]
                    simp only [Bool.true_and]
                  rw [tb_149_161]
                  simp only [tn_bv1]
                  by_cases x0 : tw_bv x (nI k) = 0
                  · rw [if_neg (fun q => q x0), tb_149_178]
                    simp only [tn_bv1]
                    by_cases y0 : tw_bv y (nI k) = 0
                    · rw [if_neg (fun q => q y0)]
                      exact skip _ (by rw [hbi, decide_eq_false (fun q => q x0), decide_eq_false (fun q => q y0)]; simp)
                    · rw [if_pos y0, tb_149_188]
                      cases b with
                      | true =>
                        rw [if_pos rfl, if_neg (by decide), tb_149_193]
                        exact found [] (by rw [hbi, decide_eq_true y0]; simp)
                      | false =>
                        rw [if_pos (show (if false = true then (1 : Int32) else 0) = 0 from rfl)]
                        exact skip _ (by rw [hbi, decide_eq_false (fun q => q x0)]; simp)
                  · rw [if_pos x0, tb_149_173]
                    cases b with
                    | false =>
                      rw [if_pos (show (if false = true then (1 : Int32) else 0) = 0 from rfl), tb_149_193]
                      exact found [] (by rw [hbi, decide_eq_true x0]; simp)
                    | true =>
                      rw [if_pos rfl, if_neg (by decide), tb_149_178]
                      simp only [tn_bv1]
                      by_cases y0 : tw_bv y (nI k) = 0
                      · rw [if_neg (fun q => q y0)]
                        exact skip _ (by rw [hbi, decide_eq_false (show ¬ ¬ tw_bv y (nI k) = 0 from fun q => q y0)]; simp)
                      · rw [if_pos y0, tb_149_188, if_neg (by decide), tb_149_193]
                        exact found [] (by rw [hbi, decide_eq_true y0]; simp)
                by_cases z3 : tw_gi μ 12 0 (tw_sd μ k i) ≤ tw_ai μ H (tw_pl μ k) h + 5
                · rw [if_neg (tn_l1 z3), tb_149_156]
                  exact test true (decide_eq_true z3)
                · rw [if_pos (tn_l2 z3), tb_149_160]
                  exact test false (decide_eq_false z3)
            · rw [if_pos z1]
              refine skip _ (fun q => ?_)
              unfold ux_bi at q
              simp only [Bool.and_eq_true, decide_eq_true_iff] at q
              exact z1 ⟨q.1, of_decide_eq_true q.2.1⟩
        rw [tb_149_79, g7, if_neg (nI_ge hk2 (by omega)), tb_149_90]
        exact inner 4 0 o6 (by omega)
    refine tw_J_of R0 (r := tw_I (tw_lr (ux_bk μ H h x y l) l C 0)) ?_ ?_
    · rw [te_81, tb_81_0, s_placesOf R', ← hl]
      simp only [Option.bind_some, Option.toList_some, Option.toList_none, List.cons_append, List.nil_append, List.append_nil, tb_81_8]
      rw [if_pos z0, tb_81_24]
      exact cl C 0 none none (by omega)
    · rw [te_149, tb_149_0, tw_thf, show (0 : Int32) = tw_ls μ x 0 from rfl]
      rw [show tw_run 149 10 [some (tw_R 6 0), some (tw_I x), some (tw_I y), some (tw_I (tw_ls μ x 0)), some (tw_I (tw_ls μ x 0)), none, none] [] (tw_th ν) = _ from l10, tb_149_62, g6, if_pos z0, tb_149_76]
      exact rl C 0 none none (by omega)
  · refine tw_J_of R0 (r := tw_I (-9)) ?_ ?_
    · rw [te_81, tb_81_0, s_placesOf R', ← hl]
      simp only [Option.bind_some, Option.toList_some, Option.toList_none, List.cons_append, List.nil_append, List.append_nil, tb_81_8]
      rw [if_neg z0, tb_81_21]
    · rw [te_149, tb_149_0, tw_thf, show (0 : Int32) = tw_ls μ x 0 from rfl]
      rw [show tw_run 149 10 [some (tw_R 6 0), some (tw_I x), some (tw_I y), some (tw_I (tw_ls μ x 0)), some (tw_I (tw_ls μ x 0)), none, none] [] (tw_th ν) = _ from l10, tb_149_62, g6, if_neg z0, tb_149_73]
end
