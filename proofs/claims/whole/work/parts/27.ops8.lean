/-! odds -/
theorem tn_ia {a b : Int32} (h1 : -1000 ≤ a.toInt) (h2 : a.toInt ≤ 1000) (h3 : -1000 ≤ b.toInt) (h4 : b.toInt ≤ 1000) : (a + b).toInt = a.toInt + b.toInt := by
  rw [Int32.toInt_add]
  exact Int.bmod_eq_of_le (by omega) (by omega)
theorem tn_is {a b : Int32} (h1 : -1000 ≤ a.toInt) (h2 : a.toInt ≤ 1000) (h3 : -1000 ≤ b.toInt) (h4 : b.toInt ≤ 1000) : (a - b).toInt = a.toInt - b.toInt := by
  rw [Int32.toInt_sub]
  exact Int.bmod_eq_of_le (by omega) (by omega)
theorem tn_ms {m w c e : Int32} (m1 : -20 ≤ m.toInt) (m2 : m.toInt ≤ 20) (w1 : -20 ≤ w.toInt) (w2 : w.toInt ≤ 20) (c1 : -20 ≤ c.toInt) (c2 : c.toInt ≤ 20) (e1 : -20 ≤ e.toInt) (e2 : e.toInt ≤ 20) : (m - (w - c) ≤ e) = (m ≤ w + e - c) := by
  apply propext
  have a1 := tn_is (a := w) (b := c) (by omega) (by omega) (by omega) (by omega)
  have a2 := tn_is (a := m) (b := w - c) (by omega) (by omega) (by omega) (by omega)
  have a3 := tn_ia (a := w) (b := e) (by omega) (by omega) (by omega) (by omega)
  have a4 := tn_is (a := w + e) (b := c) (by omega) (by omega) (by omega) (by omega)
  rw [Int32.le_iff_toInt_le, Int32.le_iff_toInt_le]
  omega
theorem tn_ed : ∀ d, d < 4 → ∀ j, j < 8 → (nI d < nI j - nI d ↔ 2 * d < j) ∧ nI j - nI d + 1 = nI (j + 1) - nI d ∧ -20 ≤ (nI j - nI d).toInt ∧ (nI j - nI d).toInt ≤ 20 := by decide +kernel
theorem tn_neg (x : Int32) : -x = nI 0 - x := by
  rw [show nI 0 = (0 : Int32) from rfl]
  simp
/-- how many of the weathers of an hour leave it frozen -/
def tw_fz (μ : tw_M) (H s p d t : Nat) : Nat := tw_cn (fun j => decide (¬ tw_gi μ 12 0 s - tw_ac μ H p t ≤ nI j - nI d)) (2 * d + 1)
theorem tn_cmp0 {a : Nat} (ha : a < 2 ^ 63) : (lg_cmp (lN a) 0 = 0) = (a = 0) := by
  apply propext
  unfold lg_cmp
  rw [show (0 : Int64) = lN 0 from rfl]
  by_cases z : a = 0
  · subst z
    decide
  · have e : lN a > lN 0 := (pk_lLT (by omega) ha).mpr (by omega)
    rw [if_pos e]
    exact ⟨fun q => absurd q (by decide), fun q => absurd q z⟩
theorem tn_cmp1 {a : Nat} (ha : a < 2 ^ 63) (h0 : 0 < a) : (0 : Int32) ≤ lg_cmp (lN a) 1 := by
  unfold lg_cmp
  rw [show (1 : Int64) = lN 1 from rfl]
  by_cases z : a = 1
  · subst z
    decide
  · have e : lN a > lN 1 := (pk_lLT (by omega) ha).mpr (by omega)
    rw [if_pos e]
    decide
theorem tn_half {x y s : Nat} (hy : 0 < y) (hxy : y ≤ x) (h : x * y < 2 ^ (s + 1)) : y * (x % y) < 2 ^ s := by
  have h1 : x % y < y := Nat.mod_lt _ hy
  have h2 : y + x % y ≤ x := by
    have := Nat.div_add_mod x y
    have h3 : 1 ≤ x / y := (Nat.one_le_div_iff hy).mpr hxy
    have h4 : y * 1 ≤ y * (x / y) := Nat.mul_le_mul_left y h3
    omega
  have h5 : 2 * (x % y) ≤ x := by omega
  have h6 : y * (2 * (x % y)) ≤ y * x := Nat.mul_le_mul_left y h5
  rw [Nat.mul_comm x y, Nat.pow_succ] at h
  have h7 : y * (2 * (x % y)) = 2 * (y * (x % y)) := by
    rw [Nat.mul_left_comm]
  omega
theorem tn_L0 {a : Nat} (ha : a < 2 ^ 63) : (lN a = (0 : Int64)) = (a = 0) := propext (pk_lEQ (b := 0) ha (by omega))
section
variable {μ ν : tw_M} {x y z u v : Int32} {s k p h j t w n P H S N C : Nat}
theorem s_gcd : ∀ (s a b i : Nat) (o0 o1 o2 o3 o5 o7 o9 o10 : Option tw_V), b ≤ a → a < 2 ^ 31 → a * b < 2 ^ s → i + s < 100 → tw_run 85 9 [o0, o1, o2, o3, some (tw_J (lN a)), o5, some (tw_J (lN b)), o7, some (tw_I (nI i)), o9, o10] [] μ = some (some (tw_J (lN (Nat.gcd a b))), μ) := by
  intro s
  induction s with
  | zero =>
    intro a b i o0 o1 o2 o3 o5 o7 o9 o10 hab ha hm hi
    have hb : b = 0 := by
      rcases Nat.eq_zero_or_pos b with z | z
      · exact z
      · have : 0 < a * b := Nat.mul_pos (by omega) z
        omega
    subst hb
    rw [tb_85_9, if_pos (by rw [tn_cmp0 (by omega)]), tb_85_44, Nat.gcd_zero_right]
  | succ s ih =>
    intro a b i o0 o1 o2 o3 o5 o7 o9 o10 hab ha hm hi
    by_cases hb : b = 0
    · subst hb
      rw [tb_85_9, if_pos (by rw [tn_cmp0 (by omega)]), tb_85_44, Nat.gcd_zero_right]
    · have hb0 : 0 < b := by omega
      rw [tb_85_9, if_neg (by rw [tn_cmp0 (by omega)]; exact hb), tb_85_16, if_neg (show ¬ (100 : Int32) ≤ nI i from nI_ge (b := 100) (by omega) (by omega)), tb_85_23, if_neg (by rw [tn_L0 (by omega)]; exact hb), tb_85_28, pk_lRem (by omega) hb0 (by omega), nI_1, Nat.gcd_comm a b, Nat.gcd_rec b a, Nat.gcd_comm (a % b) b]
      exact ih b (a % b) (i + 1) _ _ _ _ _ _ _ _ (Nat.le_of_lt (Nat.mod_lt _ hb0)) (by omega) (tn_half hb0 hab hm) (by omega)
theorem m_gcd : ∀ (s a b : Nat) (o0 o1 o2 o3 o5 o7 o8 o9 : Option tw_V), b < s → a < 2 ^ 31 → b < 2 ^ 31 → tw_run 152 6 [o0, o1, o2, o3, some (tw_J (lN a)), o5, some (tw_J (lN b)), o7, o8, o9] [] ν = some (some (tw_J (lN (Nat.gcd a b))), ν) := by
  intro s
  induction s with
  | zero => intro a b o0 o1 o2 o3 o5 o7 o8 o9 hs; exact absurd hs (Nat.not_lt_zero _)
  | succ s ih =>
    intro a b o0 o1 o2 o3 o5 o7 o8 o9 hs ha hb2
    by_cases hb : b = 0
    · subst hb
      rw [tb_152_6, if_pos (by rw [tn_cmp0 (by omega)]), tb_152_31, Nat.gcd_zero_right]
    · have hb0 : 0 < b := by omega
      have hlt := Nat.mod_lt a hb0
      rw [tb_152_6, if_neg (by rw [tn_cmp0 (by omega)]; exact hb), tb_152_13, if_neg (by rw [tn_L0 (by omega)]; exact hb), tb_152_18, pk_lRem (by omega) hb0 (by omega), Nat.gcd_comm a b, Nat.gcd_rec b a, Nat.gcd_comm (a % b) b]
      exact ih b (a % b) _ _ _ _ _ _ _ _ (by omega) hb2 (by omega)
theorem s_frozen (R : tw_Rn P H S N C h μ ν) (hs : s < S) (hp : p < P) {d : Nat} (hd : d < 4) (ht : t < 2 ^ 30) : tw_call 84 [tw_R 0 0, tw_I (nI s), tw_I (nI p), tw_I (nI d), tw_I (nI t)] μ = some (some (tw_I (nI (tw_fz μ H s p d t))), μ) := by
  obtain ⟨c1, c2, c3, c4, e5, e6, e7, e8, -⟩ := rn_c R
  have loop : ∀ (e j : Nat) (o0 o1 o2 o4 : Option tw_V), j + e = 2 * d + 1 → tw_run 84 25 [o0, o1, o2, some (tw_I (nI d)), o4, some (tw_I (tw_gi μ 12 0 s - tw_ac μ H p t)), some (tw_I (nI (tw_cn (fun j => decide (¬ tw_gi μ 12 0 s - tw_ac μ H p t ≤ nI j - nI d)) j))), some (tw_I (nI j - nI d))] [] μ = some (some (tw_I (nI (tw_fz μ H s p d t))), μ) := by
    intro e
    induction e with
    | zero =>
      intro j o0 o1 o2 o4 hj
      have hj2 : j = 2 * d + 1 := by omega
      subst hj2
      rw [tb_84_25, if_pos ((tn_ed d hd _ (by omega)).1.mpr (by omega)), tb_84_47]
      rfl
    | succ e ih =>
      intro j o0 o1 o2 o4 hj
      have ih2 := ih (j + 1) o0 o1 o2 o4 (by omega)
      obtain ⟨d1, d2, -⟩ := tn_ed d hd j (by omega)
      rw [tw_cn] at ih2
      rw [tb_84_25, if_neg (fun q => absurd (d1.mp q) (by omega)), tb_84_31]
      by_cases z : tw_gi μ 12 0 s - tw_ac μ H p t ≤ nI j - nI d
      · rw [if_neg (show ¬ decide (¬ tw_gi μ 12 0 s - tw_ac μ H p t ≤ nI j - nI d) = true from fun q => of_decide_eq_true q z)] at ih2
        rw [if_pos z, tb_84_41, d2]
        exact ih2
      · rw [if_pos (decide_eq_true z)] at ih2
        rw [if_neg z, tb_84_38, tb_84_41, d2, nI_1]
        exact ih2
  rw [te_84, tb_84_0, s_at (k := 12) rfl, tw_rd_p (μ := μ) (k := 12) (n := 0) 5 rfl (show s < 5 by omega)]
  simp only [Option.bind_some, Option.toList_some, Option.toList_none, List.cons_append, List.nil_append, List.append_nil, tb_84_8, s_airIn0 e6 c2 ht (show p < 4 by omega), tb_84_15, tn_neg]
  exact loop (2 * d + 1) 0 _ _ _ _ (by omega)
theorem rn_b (R : tw_Rn P H S N C h μ ν) (hs : s < S) (hp : p < P) : (-20 ≤ (tw_gi μ 12 0 s).toInt ∧ (tw_gi μ 12 0 s).toInt ≤ 20) ∧ (-20 ≤ (tw_wt μ H t).toInt ∧ (tw_wt μ H t).toInt ≤ 20) ∧ (-20 ≤ (tw_gi μ 10 0 p).toInt ∧ (tw_gi μ 10 0 p).toInt ≤ 20) := by
  have q1 := R.1.2.2.2.2.2.2.2.2.2.2.1 s hs
  have q3 := R.1.2.2.2.2.2.2.2.2.1 p hp
  obtain ⟨c, hc, ec⟩ := q3
  refine ⟨by omega, ?_, by rw [ec, nI_toInt (by omega)]; omega⟩
  unfold tw_wt
  by_cases z : H = 0
  · rw [if_pos z]
    decide
  · rw [if_neg z]
    exact R.1.2.2.2.2.2.2.2.2.2.1 _ (by split <;> omega)
theorem tn_r2 (h : tw_in v 2) : ¬ v < 0 ∧ v ≤ 1 := by
  rcases tn_c2 h with rfl | rfl <;> decide
theorem tn_r2n (h : ¬ tw_in v 2) : v < 0 ∨ (¬ v < 0 ∧ ¬ v ≤ 1) := by
  by_cases h0 : v < 0
  · exact Or.inl h0
  · refine Or.inr ⟨h0, fun q => h (tn_out (by omega) h0 ?_)⟩
    rw [Int32.le_iff_toInt_le] at q ⊢
    rw [nI_toInt (by omega)]
    have : (1 : Int32).toInt = 1 := rfl
    omega
theorem tn_r4 (h : tw_in v 4) : ¬ v < 0 ∧ ¬ 3 < v := by
  rcases tn_c4 h with rfl | rfl | rfl | rfl <;> decide
theorem tn_r4n (h : ¬ tw_in v 4) : v < 0 ∨ (¬ v < 0 ∧ 3 < v) := by
  by_cases h0 : v < 0
  · exact Or.inl h0
  · refine Or.inr ⟨h0, ?_⟩
    rw [tn_nlt]
    refine fun q => h (tn_out (by omega) h0 ?_)
    rw [Int32.le_iff_toInt_le] at q ⊢
    rw [nI_toInt (by omega)]
    have : (3 : Int32).toInt = 3 := rfl
    omega
theorem tn_r6 : ∀ j, j < 6 → ¬ nI (j + 1) < 1 ∧ nI (j + 1) ≤ 6 ∧ ¬ 6 < nI (j + 1) := by decide
theorem tn_r6n (h : ¬ ∃ j, j < 6 ∧ v = nI (j + 1)) : v < 1 ∨ (¬ v < 1 ∧ ¬ v ≤ 6) := by
  by_cases h0 : v < 1
  · exact Or.inl h0
  · refine Or.inr ⟨h0, fun q => h ?_⟩
    have h1 : ¬ v < 0 := by
      rw [Int32.lt_iff_toInt_lt] at h0 ⊢
      have : (1 : Int32).toInt = 1 := rfl
      have : (0 : Int32).toInt = 0 := rfl
      omega
    obtain ⟨j, hj, e⟩ := nI_of2 (M := 6) (n := 6) rfl h1 q
    rcases j with _ | j
    · rw [e] at h0
      exact absurd (show nI 0 < 1 by decide) h0
    · exact ⟨j, by omega, e⟩
def ux_ok (S P : Nat) (x y z u v : Int32) : Prop := tw_in x S ∧ tw_in y P ∧ tw_in z 4 ∧ (∃ j, j < 6 ∧ u = nI (j + 1)) ∧ tw_in v 2
theorem s_odds_no (R : tw_Rn P H S N C h μ ν) (no : ¬ ux_ok S P x y z u v) : tw_call 86 [tw_R 5 0, tw_I x, tw_I y, tw_I z, tw_I u, tw_I v] μ = some (some (tw_J (-1000000)), μ) := by
  obtain ⟨c1, c2, c3, c4, e5, e6, e7, e8, -⟩ := rn_c R
  have hP : P < 2 ^ 31 := by omega
  have hS : S < 2 ^ 31 := by omega
  rw [te_86, tb_86_0, s_isSound (c := 0) e7 hS]
  simp only [Option.bind_some, Option.toList_some, Option.toList_none, List.cons_append, List.nil_append, List.append_nil, tb_86_8]
  by_cases hx : tw_in x S
  · rw [if_neg (tw_ib_t hx), tb_86_11, s_isPlace (c := 0) e5 hP]
    simp only [Option.bind_some, Option.toList_some, Option.toList_none, List.cons_append, List.nil_append, List.append_nil, tb_86_19]
    by_cases hy : tw_in y P
    · rw [if_neg (tw_ib_t hy), tb_86_22]
      by_cases hv : tw_in v 2
      · obtain ⟨v1, v2⟩ := tn_r2 hv
        rw [if_neg v1, tb_86_27, if_pos v2, tb_86_37]
        by_cases hz : tw_in z 4
        · obtain ⟨z1, z2⟩ := tn_r4 hz
          rw [if_neg z1, tb_86_41, if_neg z2, tb_86_46]
          rcases tn_r6n (fun q => no ⟨hx, hy, hz, q, hv⟩) with w | ⟨w1, w2⟩
          · rw [if_pos w, tb_86_59]
          · rw [if_neg w1, tb_86_52, if_neg w2, tb_86_59]
        · rcases tn_r4n hz with w | ⟨w1, w2⟩
          · rw [if_pos w, tb_86_59]
          · rw [if_neg w1, tb_86_41, if_pos w2, tb_86_59]
      · rcases tn_r2n hv with w | ⟨w1, w2⟩
        · rw [if_pos w, tb_86_33]
        · rw [if_neg w1, tb_86_27, if_neg w2, tb_86_33]
    · rw [if_pos (tw_ib_f hy), tb_86_33]
  · rw [if_pos (tw_ib_f hx), tb_86_33]
theorem m_odds_no (R : tw_Rn P H S N C h μ (tw_th ν)) (no : ¬ ux_ok S P x y z u v) : tw_call 153 [tw_R 6 0, tw_I x, tw_I y, tw_I z, tw_I u, tw_I v] ν = some (some (tw_J (-1000000)), tw_th ν) := by
  obtain ⟨c1, c2, c3, c4, e5, e6, e7, e8, f5, f6, f7, f8⟩ := rn_c R
  have hP : P < 2 ^ 31 := by omega
  have hS : S < 2 ^ 31 := by omega
  rw [te_153, tb_153_0, tw_thf, m_isSound f7 hS]
  simp only [Option.bind_some, Option.toList_some, Option.toList_none, List.cons_append, List.nil_append, List.append_nil, tb_153_10]
  by_cases hx : tw_in x S
  · rw [if_neg (tw_ib_t hx), tb_153_13, m_isPlace f5 hP]
    simp only [Option.bind_some, Option.toList_some, Option.toList_none, List.cons_append, List.nil_append, List.append_nil, tb_153_18]
    by_cases hy : tw_in y P
    · rw [if_neg (tw_ib_t hy), tb_153_21, m_in_3]
      simp only [Option.bind_some, Option.toList_some, Option.toList_none, List.cons_append, List.nil_append, List.append_nil, tb_153_27]
      by_cases hz : tw_in z 4
      · rw [if_neg (tw_ib_t hz), tb_153_30, m_in0]
        simp only [Option.bind_some, Option.toList_some, Option.toList_none, List.cons_append, List.nil_append, List.append_nil, tb_153_38]
        by_cases hu : ∃ j, j < 6 ∧ u = nI (j + 1)
        · obtain ⟨j, hj, rfl⟩ := hu
          obtain ⟨u1, -, u2⟩ := tn_r6 j hj
          rw [if_neg u1, if_neg u2, if_neg (by decide), tb_153_41, m_in_1]
          simp only [Option.bind_some, Option.toList_some, Option.toList_none, List.cons_append, List.nil_append, List.append_nil, tb_153_48]
          rw [if_pos (tw_ib_f (fun q => no ⟨hx, hy, hz, ⟨j, hj, rfl⟩, q⟩)), tb_153_51]
        · have e : (if u < 1 then (0 : Int32) else if 6 < u then 0 else 1) = 0 := by
            rcases tn_r6n hu with w | ⟨w1, w2⟩
            · rw [if_pos w]
            · rw [if_neg w1, if_pos (tn_l2 w2)]
          rw [e, if_pos rfl, tb_153_51]
      · rw [if_pos (tw_ib_f hz), tb_153_51]
    · rw [if_pos (tw_ib_f hy), tb_153_51]
  · rw [if_pos (tw_ib_f hx), tb_153_51]
theorem op_odds (R0 : tw_Rl μ ν) : tw_Jn 86 153 [tw_I x, tw_I y, tw_I z, tw_I u, tw_I v] μ ν := by
  obtain ⟨P, H, S, N, C, h, T, R, -⟩ := id R0
  have R' := R.th
  obtain ⟨c1, c2, c3, c4, e5, e6, e7, e8, f5, f6, f7, f8⟩ := rn_c R'
  obtain ⟨g1, g2, g3, g4, g5, g6, g7⟩ := rn_0 R'
  have hP : P < 2 ^ 31 := by omega
  have hS : S < 2 ^ 31 := by omega
  by_cases ok : ux_ok S P x y z u v
  · obtain ⟨hx, hy, hz, ⟨j, hj, rfl⟩, hv⟩ := ok
    have hxb := tw_ib_t hx
    have hyb := tw_ib_t hy
    have hzb := tw_ib_t hz
    have hvb := tw_ib_t hv
    obtain ⟨v1, v2⟩ := tn_r2 hv
    obtain ⟨z1, z2⟩ := tn_r4 hz
    obtain ⟨u1, u2, u3⟩ := tn_r6 j hj
    obtain ⟨s, hs, rfl⟩ := tn_of_in hx hS
    obtain ⟨p, hp, rfl⟩ := tn_of_in hy hP
    obtain ⟨d, hd, rfl⟩ := tn_of_in hz (by omega)
    have in33 : tw_in (nI s) (tw_al 33) := tn_in (show s < 10 by omega) (by decide)
    have in31 : tw_in (nI p) (tw_al 31) := tn_in (show p < 8 by omega) (by decide)
    have cs : (nI s).toNatClampNeg = s := nI_clamp (by omega)
    have cp : (nI p).toNatClampNeg = p := nI_clamp (by omega)
    have hcol := R'.2.1.2.2.2.2.1 p hp
    have hmel := R'.2.1.2.2.2.2.2.2.1 s hs
    have w7 : ((2 : Int32) * nI d + 1).toInt64 = lN (2 * d + 1) := by
      rw [show (2 : Int32) * nI d = nI (2 * d) from pk_mul 2 d, nI_1, nI_l (by omega)]
    have fz7 : ∀ t, tw_fz μ H s p d t ≤ 2 * d + 1 := fun t => tw_cn_le _ _
    have inner : ∀ (t : Nat), t < 2 ^ 30 → ∀ (e i : Nat) (A F : Int64) (o7 o9 : Option tw_V), i + e = 2 * d + 1 → tw_run 153 92 [some (tw_R 6 0), some (tw_I (nI s)), some (tw_I (nI p)), some (tw_I (nI d)), some (tw_I (nI (j + 1))), some (tw_I v), some (tw_J F), o7, some (tw_J A), o9, some (tw_I (nI t)), some (tw_I (nI (tw_cn (fun j => decide (¬ tw_gi μ 12 0 s - tw_ac μ H p t ≤ nI j - nI d)) i))), some (tw_I (nI i - nI d))] [] (tw_th ν) =
        tw_run 153 139 [some (tw_R 6 0), some (tw_I (nI s)), some (tw_I (nI p)), some (tw_I (nI d)), some (tw_I (nI (j + 1))), some (tw_I v), some (tw_J F), o7, some (tw_J A), o9, some (tw_I (nI t)), some (tw_I (nI (tw_fz μ H s p d t))), some (tw_I (nI (2 * d + 1) - nI d))] [] (tw_th ν) := by
      intro t ht e
      obtain ⟨⟨b1, b2⟩, ⟨b3, b4⟩, ⟨b5, b6⟩⟩ := rn_b (t := t) R' hs hp
      induction e with
      | zero =>
        intro i A F o7 o9 hi
        have hi2 : i = 2 * d + 1 := by omega
        subst hi2
        rw [tb_153_92, if_pos ((tn_ed d hd _ (by omega)).1.mpr (by omega))]
        rfl
      | succ e ih =>
        intro i A F o7 o9 hi
        have ih2 := ih (i + 1) A F o7 o9 (by omega)
        obtain ⟨d1, d2, d3, d4⟩ := tn_ed d hd i (by omega)
        have ms := tn_ms (m := tw_gi μ 12 0 s) (w := tw_wt μ H t) (c := tw_gi μ 10 0 p) (e := nI i - nI d) b1 b2 b3 b4 b5 b6 d3 d4
        rw [tw_cn] at ih2
        rw [tb_153_92, if_neg (fun q => absurd (d1.mp q) (by omega)), tb_153_98, if_pos in33, cs, tb_153_106, m_warmthIn R' ht]
        simp only [Option.bind_some, Option.toList_some, Option.toList_none, List.cons_append, List.nil_append, List.append_nil, tb_153_112]
        rw [if_pos in31, cp, tb_153_121, hcol, hmel]
        by_cases z : tw_gi μ 12 0 s - tw_ac μ H p t ≤ nI i - nI d
        · have z' : tw_gi μ 12 0 s ≤ tw_wt μ H t + (nI i - nI d) - tw_gi μ 10 0 p := by rw [← ms]; exact z
          rw [if_neg (show ¬ decide (¬ tw_gi μ 12 0 s - tw_ac μ H p t ≤ nI i - nI d) = true from fun q => of_decide_eq_true q z)] at ih2
          rw [if_pos z', tb_153_129, tb_153_130, d2]
          rw [Nat.add_zero] at ih2
          rw [show ∀ n : Nat, nI n + (0 : Int32) = nI n from fun n => by simp]
          exact ih2
        · have z' : ¬ tw_gi μ 12 0 s ≤ tw_wt μ H t + (nI i - nI d) - tw_gi μ 10 0 p := by rw [← ms]; exact z
          rw [if_pos (decide_eq_true z)] at ih2
          rw [if_neg z', tb_153_125, tb_153_130, d2, nI_1]
          exact ih2
    have loop : ∀ (m i a f : Nat) (o7 o9 o11 q7 q9 q11 q12 : Option tw_V), i + m = j + 2 → f ≤ a → 0 < a → a * 7 ^ m ≤ 117649 → ∃ r : Int64,
        tw_run 86 72 [some (tw_R 5 0), some (tw_I (nI s)), some (tw_I (nI p)), some (tw_I (nI d)), some (tw_I (nI (j + 1))), some (tw_I v), some (tw_J (lN a)), o7, some (tw_J (lN f)), o9, some (tw_I (nI i)), o11] [] μ = some (some (tw_J r), μ) ∧
        tw_run 153 71 [some (tw_R 6 0), some (tw_I (nI s)), some (tw_I (nI p)), some (tw_I (nI d)), some (tw_I (nI (j + 1))), some (tw_I v), some (tw_J (lN f)), q7, some (tw_J (lN a)), q9, some (tw_I (nI (h + i))), q11, q12] [] (tw_th ν) = some (some (tw_J r), tw_th ν) := by
      intro m
      induction m with
      | zero =>
        intro i a f o7 o9 o11 q7 q9 q11 q12 hi hf ha hb
        have hb2 : a ≤ 117649 := by rw [Nat.pow_zero, Nat.mul_one] at hb; exact hb
        have hg : 0 < Nat.gcd a (a - f) := Nat.gcd_pos_of_pos_left _ ha
        have hgl : Nat.gcd a (a - f) ≤ a := Nat.le_of_dvd ha (Nat.gcd_dvd_left _ _)
        have hm : a * (a - f) < 2 ^ 36 := by
          have : a * (a - f) ≤ 117649 * 117649 := Nat.mul_le_mul hb2 (by omega)
          omega
        have n0 : ¬ lN (Nat.gcd a (a - f)) = (0 : Int64) := by
          rw [tn_L0 (by omega)]
          omega
        refine ⟨(if v = 0 then lN (a - f) else lN a) / lN (Nat.gcd a (a - f)), ?_, ?_⟩
        · rw [tb_86_72, if_pos (nI_lt (by omega) (by omega)), tb_86_122, lN_sub hf, te_85, tb_85_0]
          rw [show (0 : Int32) = nI 0 from rfl, s_gcd 36 a (a - f) 0 _ _ _ _ _ _ _ _ (by omega) (by omega) hm (by omega)]
          simp only [Option.bind_some, Option.toList_some, Option.toList_none, List.cons_append, List.nil_append, List.append_nil, tb_86_132]
          rw [if_pos (tn_cmp1 (by omega) hg), tb_86_145, show nI 0 = (0 : Int32) from rfl]
          by_cases v0 : v = 0
          · rw [if_pos v0, if_pos v0, tb_86_150, lN_sub hf, tb_86_160, if_neg n0, tb_86_163]
          · rw [if_neg v0, if_neg v0, tb_86_158, tb_86_160, if_neg n0, tb_86_163]
        · rw [tb_153_71, g5, nI_add, if_pos (nI_lt (by omega) (by omega)), tb_153_164, lN_sub hf, te_152, tb_152_0, m_gcd (a + 1) (a - f) a _ _ _ _ _ _ _ _ (by omega) (by omega) (by omega), Nat.gcd_comm (a - f) a]
          simp only [Option.bind_some, Option.toList_some, Option.toList_none, List.cons_append, List.nil_append, List.append_nil, tb_153_174]
          by_cases v0 : v = 0
          · rw [if_pos v0, if_pos v0, tb_153_181, if_neg n0, tb_153_189, tb_153_197, lN_sub hf]
          · rw [if_neg v0, if_neg v0, tb_153_192, if_neg n0, tb_153_197]
      | succ m ih =>
        intro i a f o7 o9 o11 q7 q9 q11 q12 hi hf ha hb
        have hfz := fz7 (h + i)
        have h1 : f * tw_fz μ H s p d (h + i) ≤ a * (2 * d + 1) := Nat.mul_le_mul hf hfz
        have h2 : 0 < a * (2 * d + 1) := Nat.mul_pos ha (by omega)
        have h3 : a * (2 * d + 1) * 7 ^ m ≤ 117649 := by
          refine Nat.le_trans ?_ hb
          rw [Nat.pow_succ', ← Nat.mul_assoc]
          exact Nat.mul_le_mul_right _ (Nat.mul_le_mul_left a (by omega))
        obtain ⟨r, r1, r2⟩ := ih (i + 1) (a * (2 * d + 1)) (f * tw_fz μ H s p d (h + i)) (tw_k none) none o11 none none (some (tw_I (nI (tw_fz μ H s p d (h + i))))) (some (tw_I (nI (2 * d + 1) - nI d))) (by omega) h1 h2 h3
        have fl : (nI (tw_fz μ H s p d (h + i))).toInt64 = lN (tw_fz μ H s p d (h + i)) := nI_l (by omega)
        refine ⟨r, ?_, ?_⟩
        · rw [tb_86_72, if_neg (nI_nlt (by omega) (by omega)), tb_86_79, g4, nI_add, s_frozen R' hs hp hd (show h + i < 2 ^ 30 by omega)]
          simp only [Option.bind_some, Option.toList_some, Option.toList_none, List.cons_append, List.nil_append, List.append_nil, tb_86_112, w7, fl, lN_mul, nI_1]
          exact r1
        · have hin := inner (h + i) (by omega) (2 * d + 1) 0 (lN a) (lN f) q7 q9 (by omega)
          rw [show tw_cn (fun j => decide (¬ tw_gi μ 12 0 s - tw_ac μ H p (h + i) ≤ nI j - nI d)) 0 = 0 from rfl, ← tn_neg] at hin
          rw [tb_153_71, g5, nI_add, if_neg (nI_nlt (by omega) (by omega)), tb_153_85, show (0 : Int32) = nI 0 from rfl, hin, tb_153_139, w7, fl, lN_mul, lN_mul, nI_1]
          exact r2
    obtain ⟨r, r1, r2⟩ := loop (j + 1) 1 1 1 none none none none none none none (by omega) (Nat.le_refl _) (by omega) (by
      rw [Nat.one_mul]
      exact Nat.le_trans (Nat.pow_le_pow_right (by omega) (show j + 1 ≤ 6 by omega)) (by decide))
    refine ⟨tw_J r, _, _, ?_, ?_, R0.th⟩
    · rw [te_86, tb_86_0, s_isSound (c := 0) e7 hS]
      simp only [Option.bind_some, Option.toList_some, Option.toList_none, List.cons_append, List.nil_append, List.append_nil, tb_86_8]
      rw [if_neg hxb, tb_86_11, s_isPlace (c := 0) e5 hP]
      simp only [Option.bind_some, Option.toList_some, Option.toList_none, List.cons_append, List.nil_append, List.append_nil, tb_86_19]
      rw [if_neg hyb, tb_86_22, if_neg v1, tb_86_27, if_pos v2, tb_86_37, if_neg z1, tb_86_41, if_neg z2, tb_86_46, if_neg u1, tb_86_52, if_pos u2, tb_86_63]
      exact r1
    · rw [te_153, tb_153_0, tw_thf, m_isSound f7 hS]
      simp only [Option.bind_some, Option.toList_some, Option.toList_none, List.cons_append, List.nil_append, List.append_nil, tb_153_10]
      rw [if_neg hxb, tb_153_13, m_isPlace f5 hP]
      simp only [Option.bind_some, Option.toList_some, Option.toList_none, List.cons_append, List.nil_append, List.append_nil, tb_153_18]
      rw [if_neg hyb, tb_153_21, m_in_3]
      simp only [Option.bind_some, Option.toList_some, Option.toList_none, List.cons_append, List.nil_append, List.append_nil, tb_153_27]
      rw [if_neg hzb, tb_153_30, m_in0]
      simp only [Option.bind_some, Option.toList_some, Option.toList_none, List.cons_append, List.nil_append, List.append_nil, tb_153_38]
      rw [if_neg u1, if_neg u3, if_neg (by decide), tb_153_41, m_in_1]
      simp only [Option.bind_some, Option.toList_some, Option.toList_none, List.cons_append, List.nil_append, List.append_nil, tb_153_48]
      rw [if_neg hvb, tb_153_55, g5, nI_1]
      exact r2
  · exact ⟨tw_J (-1000000), _, _, s_odds_no R' ok, m_odds_no R' ok, R0.th⟩
end
