/-! says -/
section
variable {μ μ' ν ν' : tw_M} {x y z u v A l : Int32} {s k p h j t w n P H S N C T i a b m F : Nat}
/-- n is the number of figures of F -/
def ux_dg (F n : Nat) : Prop := 1 ≤ n ∧ n ≤ 4 ∧ F < 10000 ∧ ∀ j, j ≤ 4 → (F / 10 ^ j = 0 ↔ n ≤ j)
theorem ux_dg_of (h1 : 1 ≤ F) (h2 : F < 10000) : ∃ n, ux_dg F n := by
  have all : ∀ n, (F / 10 ^ 0 = 0 ↔ n ≤ 0) → (F / 10 ^ 1 = 0 ↔ n ≤ 1) → (F / 10 ^ 2 = 0 ↔ n ≤ 2) → (F / 10 ^ 3 = 0 ↔ n ≤ 3) → (F / 10 ^ 4 = 0 ↔ n ≤ 4) → ∀ j, j ≤ 4 → (F / 10 ^ j = 0 ↔ n ≤ j) := by
    intro n a0 a1 a2 a3 a4 j hj
    match j, hj with
    | 0, _ => exact a0
    | 1, _ => exact a1
    | 2, _ => exact a2
    | 3, _ => exact a3
    | 4, _ => exact a4
    | j + 5, h => exact absurd h (by omega)
  have p0 : 10 ^ 0 = 1 := rfl
  have p1 : 10 ^ 1 = 10 := rfl
  have p2 : 10 ^ 2 = 100 := rfl
  have p3 : 10 ^ 3 = 1000 := rfl
  have p4 : 10 ^ 4 = 10000 := rfl
  by_cases z1 : F < 10
  · exact ⟨1, by omega, by omega, h2, all 1 (by rw [p0]; omega) (by rw [p1]; omega) (by rw [p2]; omega) (by rw [p3]; omega) (by rw [p4]; omega)⟩
  · by_cases z2 : F < 100
    · exact ⟨2, by omega, by omega, h2, all 2 (by rw [p0]; omega) (by rw [p1]; omega) (by rw [p2]; omega) (by rw [p3]; omega) (by rw [p4]; omega)⟩
    · by_cases z3 : F < 1000
      · exact ⟨3, by omega, by omega, h2, all 3 (by rw [p0]; omega) (by rw [p1]; omega) (by rw [p2]; omega) (by rw [p3]; omega) (by rw [p4]; omega)⟩
      · exact ⟨4, by omega, by omega, h2, all 4 (by rw [p0]; omega) (by rw [p1]; omega) (by rw [p2]; omega) (by rw [p3]; omega) (by rw [p4]; omega)⟩
theorem ux_dg.lt (d : ux_dg F n) (hj : j ≤ 4) : F < 10 ^ j ↔ n ≤ j := by
  rw [← d.2.2.2 j hj, Nat.div_eq_zero_iff]
  have : 0 < 10 ^ j := Nat.pow_pos (by omega)
  omega
theorem ux_div10 (hF : F < 10000) : nI (F / 10 ^ j) / 10 = nI (F / 10 ^ (j + 1)) := by
  have h : F / 10 ^ j ≤ F := Nat.div_le_self _ _
  rw [show (10 : Int32) = nI 10 from rfl, pk_div (by omega) (by omega) (by omega), Nat.div_div_eq_div_mul, ← Nat.pow_succ]
theorem ux_mod10 (hF : F < 10000) : nI (F / 10 ^ j) - nI (F / 10 ^ j) / 10 * 10 = nI (F / 10 ^ j % 10) := by
  have h : F / 10 ^ j ≤ F := Nat.div_le_self _ _
  exact pk_rem (a := F / 10 ^ j) (d := 10) (by omega) (by omega) (by omega)
/-- all its figures are sounds -/
def ux_va (S F n : Nat) : Prop := ∀ j, j < n → tw_in (nI (F / 10 ^ j % 10) - 1) S
theorem ux_va.of (hv : ux_va S F n) (hS : S ≤ 5) (hj : j < n) : nI (F / 10 ^ j % 10) - 1 = nI (F / 10 ^ j % 10 - 1) ∧ F / 10 ^ j % 10 - 1 < S := by
  have q := hv j hj
  have d10 : F / 10 ^ j % 10 < 10 := Nat.mod_lt _ (by omega)
  obtain ⟨f, hf⟩ : ∃ f, f = F / 10 ^ j % 10 := ⟨_, rfl⟩
  rw [← hf] at q d10 ⊢
  rcases f with _ | f
  · exact absurd (tn_in_lt (by omega) q).1 (by decide)
  · rw [nI_pred] at q ⊢
    obtain ⟨g, hg, e⟩ := tn_of_in q (by omega)
    have := (nI_eq (by omega) (by omega)).mp e
    exact ⟨rfl, by omega⟩
theorem s_areSounds (e7 : tw_gi μ 0 0 7 = nI S) (hS : S ≤ 5) (d : ux_dg F n) : (ux_va S F n → tw_call 52 [tw_R 5 0, tw_I (nI F)] μ = some (some (tw_I 1), μ)) ∧ (¬ ux_va S F n → tw_call 52 [tw_R 5 0, tw_I (nI F)] μ = some (some (tw_I 0), μ)) := by
  obtain ⟨d1, d2, d3, d4⟩ := d
  have hp0 : ¬ F / 10 ^ 0 = 0 := fun q => absurd ((d4 0 (by omega)).mp q) (by omega)
  have F1 : 1 ≤ F := by
    rw [Nat.pow_zero, Nat.div_one] at hp0
    omega
  have loop : ∀ (e j : Nat) (o1 : Option tw_V), j + e = n → (∀ i, i < j → tw_in (nI (F / 10 ^ i % 10) - 1) S) → (ux_va S F n → tw_run 52 16 [some (tw_R 5 0), o1, some (tw_I (nI (F / 10 ^ j)))] [] μ = some (some (tw_I 1), μ)) ∧ (¬ ux_va S F n → tw_run 52 16 [some (tw_R 5 0), o1, some (tw_I (nI (F / 10 ^ j)))] [] μ = some (some (tw_I 0), μ)) := by
    intro e
    induction e with
    | zero =>
      intro j o1 hj hv
      have hj2 : j = n := by omega
      subst hj2
      have z : F / 10 ^ j = 0 := (d4 j d2).mpr (Nat.le_refl _)
      refine ⟨fun _ => ?_, fun q => absurd hv q⟩
      rw [tb_52_16, z, if_pos (by decide), tb_52_46, tn_bo1]
    | succ e ih =>
      intro j o1 hj hv
      have z : ¬ F / 10 ^ j = 0 := fun q => absurd ((d4 j (by omega)).mp q) (by omega)
      have le : F / 10 ^ j ≤ F := Nat.div_le_self _ _
      have zp : 0 < F / 10 ^ j := Nat.pos_of_ne_zero z
      have zl : F / 10 ^ j < 2 ^ 31 := Nat.lt_of_le_of_lt le (by omega)
      by_cases q : tw_in (nI (F / 10 ^ j % 10) - 1) S
      · obtain ⟨t1, t2⟩ := ih (j + 1) (tw_k o1) (by omega) (fun i hi => by
          by_cases e : i = j
          · rw [e]; exact q
          · exact hv i (by omega))
        rw [tb_52_16, if_neg (nI_nle zp zl), tb_52_20, ux_mod10 d3, s_isSound (c := 0) e7 (by omega)]
        simp only [Option.bind_some, Option.toList_some, Option.toList_none, List.cons_append, List.nil_append, List.append_nil, tb_52_33]
        rw [if_neg (tw_ib_t q), tb_52_38, ux_div10 d3]
        exact ⟨t1, t2⟩
      · refine ⟨fun all => absurd (all j (by omega)) q, fun _ => ?_⟩
        rw [tb_52_16, if_neg (nI_nle zp zl), tb_52_20, ux_mod10 d3, s_isSound (c := 0) e7 (by omega)]
        simp only [Option.bind_some, Option.toList_some, Option.toList_none, List.cons_append, List.nil_append, List.append_nil, tb_52_33]
        rw [if_pos (tw_ib_f q), tb_52_36, tn_bo0]
  have l0 := loop n 0 (some (tw_I (nI F))) (by omega) (fun i hi => absurd hi (Nat.not_lt_zero _))
  rw [Nat.pow_zero, Nat.div_one] at l0
  have e1 : ¬ nI F < (1 : Int32) := nI_nlt (b := 1) F1 (by omega)
  have e2 : nI F ≤ (9999 : Int32) := nI_le (b := 9999) (by omega) (by omega)
  refine ⟨fun q => ?_, fun q => ?_⟩
  · rw [te_52, tb_52_0, if_neg e1, tb_52_5, if_pos e2, tb_52_14]
    exact l0.1 q
  · rw [te_52, tb_52_0, if_neg e1, tb_52_5, if_pos e2, tb_52_14]
    exact l0.2 q
theorem s_setSounds (d : ux_dg F n) : ∃ μ', tw_call 54 [tw_R 2 a, tw_I (nI F)] μ = some (none, μ') ∧ ux_fr (fun k m j => ((k = 17 ∨ k = 18) ∧ m = a) ∨ (k = 2 ∧ m = a ∧ j = 2)) μ μ' ∧ tw_gi μ' 2 a 2 = nI n ∧ ∀ i, i < n → tw_gi μ' 17 a i = nI (F / 10 ^ (n - 1 - i) % 10) - 1 ∧ tw_gi μ' 18 a i = -1 := by
  have d' := d
  obtain ⟨d1, d2, d3, d4⟩ := d'
  have p10 : ∀ e, e ≤ 4 → 10 ^ e ≤ 10000 := fun e he => Nat.le_trans (Nat.pow_le_pow_right (by omega) he) (by decide)
  have q10 : ∀ e, 0 < 10 ^ e := fun e => Nat.pow_pos (by omega)
  have loop : ∀ (e : Nat) (μ : tw_M), e ≤ 4 → tw_gi μ 2 a 2 = nI (n - e) → ∃ μ', tw_run 54 9 [some (tw_R 2 a), some (tw_I (nI F)), some (tw_I (nI (10 ^ e / 10)))] [] μ = some (none, μ') ∧ ux_fr (fun k m j => ((k = 17 ∨ k = 18) ∧ m = a ∧ n - e ≤ j) ∨ (k = 2 ∧ m = a ∧ j = 2)) μ μ' ∧ tw_gi μ' 2 a 2 = nI n ∧ ∀ i, n - e ≤ i → i < n → tw_gi μ' 17 a i = nI (F / 10 ^ (n - 1 - i) % 10) - 1 ∧ tw_gi μ' 18 a i = -1 := by
    intro e
    induction e with
    | zero =>
      intro μ he hl
      refine ⟨μ, ?_, ux_fr.rf, hl, fun i h1 h2 => absurd h1 (by omega)⟩
      rw [tb_54_9, if_pos (by decide), tb_54_70]
    | succ e ih =>
      intro μ he hl
      have pe := p10 e (by omega)
      have qe := q10 e
      have e10 : 10 ^ (e + 1) / 10 = 10 ^ e := by rw [Nat.pow_succ, Nat.mul_div_cancel _ (by omega)]
      have dv : nI (10 ^ e) / 10 = nI (10 ^ e / 10) := pk_div (a := 10 ^ e) (d := 10) (by omega) (by omega) (by omega)
      rw [e10, tb_54_9, if_neg (nI_nle qe (by omega)), tb_54_13]
      by_cases z : n ≤ e
      · have lt : F < 10 ^ e := (d.lt (by omega)).mpr z
        obtain ⟨μ', h1, h2, h3, h4⟩ := ih μ (by omega) (by rw [hl]; congr 1; omega)
        refine ⟨μ', ?_, h2.mo (fun k m j q => by omega), h3, fun i i1 i2 => h4 i (by omega) i2⟩
        rw [if_neg (nI_ge lt (by omega)), tb_54_18, tb_54_62, dv]
        exact h1
      · have ge : 10 ^ e ≤ F := by
          have := (d.lt (F := F) (n := n) (j := e) (by omega))
          omega
        have i4 : n - (e + 1) < 4 := by omega
        obtain ⟨c, hc⟩ : ∃ c : Int32, c = nI (F / 10 ^ e % 10) - 1 := ⟨_, rfl⟩
        obtain ⟨μ', h1, h2, h3, h4⟩ := ih (tw_si (tw_si (tw_si μ 17 a (n - (e + 1)) c) 18 a (n - (e + 1)) (-1)) 2 a 2 (nI (n - (e + 1)) + 1)) (by omega) (by rw [tw_gi_eq, nI_1]; congr 1; omega)
        refine ⟨μ', ?_, ?_, h3, fun i i1 i2 => ?_⟩
        · have dn : ¬ nI (10 ^ e) = (0 : Int32) := nI_ne0 qe (by omega)
          rw [if_pos (nI_le ge (by omega)), tb_54_21, if_neg dn, pk_div (by omega) qe (by omega), hl, tb_54_32, ux_mod10 d3, ← hc, s_put (k := 17) rfl, tw_wr_n (k := 17) (show n - (e + 1) < tw_al 17 from i4)]
          simp only [Option.bind_some, Option.toList_some, Option.toList_none, List.cons_append, List.nil_append, List.append_nil, tb_54_40]
          rw [tw_gi_ne (k' := 2) (by omega), hl, s_put (k := 18) rfl, tw_wr_n (k := 18) (show n - (e + 1) < tw_al 18 from i4)]
          simp only [Option.bind_some, Option.toList_some, Option.toList_none, List.cons_append, List.nil_append, List.append_nil, tb_54_52]
          rw [tw_gi_ne (k' := 2) (by omega), tw_gi_ne (k' := 2) (by omega), hl, tb_54_62, dv]
          exact h1
        · refine (((ux_fr.rf.si ?_).si ?_).si ?_).tr (h2.mo (fun k m j q => by omega))
          all_goals omega
        · by_cases e2 : i = n - (e + 1)
          · subst e2
            rw [h2.1 17 a _ (by omega), h2.1 18 a _ (by omega), tw_gi_ne (k' := 17) (by omega), tw_gi_ne (k' := 17) (by omega), tw_gi_eq, tw_gi_ne (k' := 18) (by omega), tw_gi_eq, show n - 1 - (n - (e + 1)) = e by omega]
            exact ⟨hc, rfl⟩
          · exact h4 i (by omega) i2
  obtain ⟨μ', h1, h2, h3, h4⟩ := loop 4 (tw_si μ 2 a 2 0) (by omega) (by rw [tw_gi_eq, show n - 4 = 0 by omega]; rfl)
  refine ⟨μ', ?_, (ux_fr.rf.si (by omega)).tr (h2.mo (fun k m j q => by omega)), h3, fun i hi => h4 i (by omega) hi⟩
  rw [te_54, tb_54_0]
  exact h1
/-- who stands at w -/
def ux_st (μ : tw_M) (w q : Nat) : Bool := decide (tw_gi μ 19 0 q = nI w)
theorem s_standers : tw_call 53 [tw_R 3 0, tw_I (nI w)] μ = some (some (tw_I (tw_bb (ux_st μ w) 4)), μ) := by
  have loop : ∀ (d q : Nat), q + d = 4 → tw_run 53 4 [some (tw_R 3 0), some (tw_I (nI w)), some (tw_I (tw_bb (ux_st μ w) q)), some (tw_I (nI q))] [] μ = some (some (tw_I (tw_bb (ux_st μ w) 4)), μ) := by
    intro d
    induction d with
    | zero =>
      intro q hq
      have : q = 4 := by omega
      subst this
      rw [tb_53_4, if_pos (by decide), tb_53_35]
    | succ d ih =>
      intro q hq
      have q4 : q < 4 := by omega
      have ih2 := ih (q + 1) (by omega)
      rw [tw_bb] at ih2
      rw [tb_53_4, if_neg (show ¬ nI (tw_al 19) ≤ nI q from nI_ge (b := 4) q4 (by omega)), tb_53_13, if_pos (show tw_in (nI q) (tw_al 19) from tn_in (show q < 4 from q4) (by decide)), nI_clamp (by omega), tb_53_19]
      by_cases z : tw_gi μ 19 0 q = nI w
      · rw [if_pos (show ux_st μ w q = true from decide_eq_true z)] at ih2
        rw [if_pos z, tb_53_23, tb_53_29, nI_1]
        exact ih2
      · rw [if_neg (show ¬ ux_st μ w q = true from fun e => z (of_decide_eq_true e)), tn_or0] at ih2
        rw [if_neg z, tb_53_29, nI_1]
        exact ih2
  rw [te_53, tb_53_0]
  exact loop 4 0 rfl
/-- a saying more -/
theorem ux_new (R : tw_Rn P H S N C h μ ν) (hC : C < 8) (f : ux_fr (fun k n j => (k = 3 ∧ n = 0 ∧ j = 3) ∨ ((k = 2 ∨ k = 17 ∨ k = 18) ∧ n = C)) μ μ') (g : ux_fr (fun k _ j => k = 36 ∧ (j = 2 ∨ (11 + 14 * C ≤ j ∧ j < 25 + 14 * C))) ν ν')
    (e3 : tw_gi μ' 3 0 3 = nI (C + 1)) (e3' : tw_gi ν' 36 0 2 = nI (C + 1)) (hp : p < N) (f3 : tw_gi μ' 2 C 3 = nI p) (f3' : tw_gi ν' 36 0 (11 + 14 * C) = nI p) (hw : w < P) (f4 : tw_gi μ' 2 C 4 = nI w) (f4' : tw_gi ν' 36 0 (11 + 14 * C + 1) = nI w)
    (f5 : tw_gi μ' 2 C 5 = nI h) (f5' : tw_gi ν' 36 0 (11 + 14 * C + 2) = nI h) (f6 : tw_gi ν' 36 0 (11 + 14 * C + 3) = tw_gi μ' 2 C 6) (h0 : 0 < n) (hn : n < 5) (f2 : tw_gi μ' 2 C 2 = nI n) (f2' : tw_gi ν' 36 0 (11 + 14 * C + 4) = nI n) (f7 : tw_gi ν' 36 0 (11 + 14 * C + 13) = tw_gi μ' 2 C 7)
    (fs : ∀ j, j < n → tw_bd (tw_gi μ' 17 C j) S ∧ tw_gi ν' 36 0 (11 + 14 * C + 5 + j) = tw_gi μ' 17 C j ∧ tw_gi μ' 18 C j = -1 ∧ tw_gi ν' 36 0 (11 + 14 * C + 9 + j) = -1) : tw_Rn P H S N (C + 1) h μ' ν' := by
  have c4 := R.1.2.2.2.1
  obtain ⟨r1, r2⟩ := R.fc (f.mo (fun k n j q => by unfold ux_now ux_s; omega)) (g.mo (fun k n j q => q.1))
  obtain ⟨-, -, ⟨i1, i2, i3, i4, i5, i6, i7, i8⟩, ⟨j1, j2, j3, j4, j5⟩⟩ := R
  have e19 : tw_gi μ' 19 = tw_gi μ 19 := funext (fun a => funext (fun b => f.1 19 a b (by omega)))
  have e1 : tw_gi μ' 1 = tw_gi μ 1 := funext (fun a => funext (fun b => f.1 1 a b (by omega)))
  have e15 : tw_gi μ' 15 = tw_gi μ 15 := funext (fun a => funext (fun b => f.1 15 a b (by omega)))
  have e16 : tw_gi μ' 16 = tw_gi μ 16 := funext (fun a => funext (fun b => f.1 16 a b (by omega)))
  have er : ∀ q, tw_er μ' q = tw_er μ q := fun q => by unfold tw_er; rw [e1]
  have lnC : tw_ln μ' C = n := by unfold tw_ln; rw [f2, nI_clamp (by omega)]
  have lnk : ∀ k, k < C → tw_ln μ' k = tw_ln μ k := fun k hk => by unfold tw_ln; rw [f.1 2 k 2 (by omega)]
  have e2 : ∀ k, k < C → tw_gi μ' 2 k = tw_gi μ 2 k := fun k hk => funext (fun b => f.1 2 k b (by omega))
  have e17 : ∀ k, k < C → tw_gi μ' 17 k = tw_gi μ 17 k := fun k hk => funext (fun b => f.1 17 k b (by omega))
  have e18 : ∀ k, k < C → tw_gi μ' 18 k = tw_gi μ 18 k := fun k hk => funext (fun b => f.1 18 k b (by omega))
  refine ⟨r1, r2, ⟨by omega, i2, e3, (f.1 3 0 4 (by omega)).trans i4, ?_, ?_, ?_, fun k hk => ?_⟩, ⟨?_, ?_, ?_, fun p hp => ?_, fun k hk => ?_⟩⟩
  · rw [e19]; exact i5
  · rw [e19]; exact i6
  · intro p hp
    rw [e1, e15, e16, er]
    exact i7 p hp
  · rw [Nat.mul_zero, Nat.zero_add]
    by_cases z : k = C
    · subst z
      rw [f3, f4, f5, f2, lnC]
      exact ⟨⟨p, hp, rfl⟩, ⟨w, hw, rfl⟩, ⟨h, by omega, rfl⟩, ⟨n, hn, rfl⟩, h0, fun j hj => ⟨(fs j hj).1, Or.inl (fs j hj).2.2.1⟩⟩
    · have hk' : k < C := by omega
      rw [e2 k hk', e17 k hk', e18 k hk', lnk k hk']
      have := i8 k hk'
      rw [Nat.mul_zero, Nat.zero_add] at this
      exact this
  · rw [f.1 3 0 4 (by omega)]
    exact (g.1 36 0 0 (by omega)).trans j1
  · rw [f.1 3 0 5 (by omega)]
    exact (g.1 36 0 1 (by omega)).trans j2
  · rw [e3]
    exact e3'
  · rw [e19, e1, e15, e16, er]
    obtain ⟨l1, l2, l3⟩ := j4 p hp
    have l5 : tw_er μ (4 * 0 + p) < 61 := ((i7 p hp).1.eq (by omega)).2
    exact ⟨(g.1 36 0 (3 + p) (by omega)).trans l1, (g.1 36 0 (7 + p) (by omega)).trans l2, fun j hj => (g.1 36 0 (123 + 60 * p + j) (by omega)).trans (l3 j hj)⟩
  · rw [Nat.mul_zero, Nat.zero_add]
    by_cases z : k = C
    · subst z
      rw [f3, f4, f5, f2, lnC, ← f6, ← f7]
      refine ⟨f3', f4', f5', rfl, f2', rfl, fun j hj => ?_⟩
      obtain ⟨s1, s2, s3, s4⟩ := fs j hj
      rw [s3, ← s2]
      exact ⟨rfl, s4⟩
    · have hk' : k < C := by omega
      rw [e2 k hk', e17 k hk', e18 k hk', lnk k hk']
      have l7 := ((i8 k hk').2.2.2.1.eq (by omega)).2
      have := j5 k hk'
      rw [Nat.mul_zero, Nat.zero_add] at this l7
      obtain ⟨l0, l1, l2, l3, l4, l5, l6⟩ := this
      have l7 : tw_ln μ k < 5 := l7
      refine ⟨(g.1 36 0 _ (by omega)).trans l0, (g.1 36 0 _ (by omega)).trans l1, (g.1 36 0 _ (by omega)).trans l2, (g.1 36 0 _ (by omega)).trans l3, (g.1 36 0 _ (by omega)).trans l4, (g.1 36 0 _ (by omega)).trans l5, fun j hj => ⟨(g.1 36 0 _ (by omega)).trans (l6 j hj).1, (g.1 36 0 _ (by omega)).trans (l6 j hj).2⟩⟩
/-- it melts at once, as far as the air bears it -/
theorem ux_saythaw (hk : k < C) (hp : p < N) {o2 o3 o4 o7 : Option tw_V} : ∀ (d i : Nat) (μ ν : tw_M), i + d = n → tw_ln μ k = n → tw_Rn P H S N C h μ ν → tw_ai μ H w h = A → tw_pl μ k = w → tw_gi μ 19 0 p = nI w → (∀ j, i ≤ j → j < n → tw_gi μ 18 k j = -1) → ∃ μ' ν' c,
    (∀ m o7, tw_run 57 6 [some (tw_R 3 0), some (tw_R 0 0), some (tw_I (nI k)), some (tw_R 2 k), some (tw_I A), some (tw_I (nI m)), some (tw_I (nI i)), o7] [] μ = some (some (tw_I (nI (m + c))), μ')) ∧
    (∀ o8, tw_run 132 328 [some (tw_R 6 0), some (tw_I (nI p)), o2, o3, o4, some (tw_I (nI n)), some (tw_I (nI k)), o7, o8, some (tw_I (nI i))] [] ν = some (some (tw_I (nI k)), ν')) ∧
    tw_Rn P H S N C h μ' ν' ∧ ux_fr ux_h μ μ' ∧ ux_fr ux_m36 ν ν' := by
  intro d
  induction d with
  | zero =>
    intro i μ ν hi hln R hA hw hpw hh
    obtain ⟨k8, b1, b2, b3, b4, b5, b6, b7⟩ := rn_k R hk
    rw [hln] at b4 b5
    refine ⟨μ, ν, 0, fun m o7 => ?_, fun o8 => ?_, R, ux_fr.rf, ux_fr.rf⟩
    · rw [tb_57_6, b4, if_pos (nI_le (by omega) (by omega)), tb_57_85, Nat.add_zero]
    · rw [tb_132_328, if_pos (nI_le (by omega) (by omega)), tb_132_379]
  | succ d ih =>
    intro i μ ν hi hln R hA hw hpw hh
    obtain ⟨k8, b1, b2, b3, b4, b5, b6, b7⟩ := rn_k R hk
    obtain ⟨r0, r1, r2, r3, r4, r5, r6⟩ := rn_ke R hk
    obtain ⟨p1, p2, p3⟩ := rn_s R hk
    rw [hw] at p1 p2
    obtain ⟨c1, c2, c3, c4, -⟩ := rn_c R
    obtain ⟨g1, g2, g3, g4, g5, g6, g7⟩ := rn_0 R
    obtain ⟨p4, a2, a3, a4, a5, a6, a7, a8⟩ := rn_p R hp
    have hi2 : i < tw_ln μ k := by omega
    obtain ⟨s1, s2⟩ := p3 i hi2
    have i4 : i < 4 := by omega
    have hmel := R.2.1.2.2.2.2.2.2.1 _ s2
    have z1 := hh i (Nat.le_refl _) (by omega)
    have e1 : ¬ nI (tw_ln μ k) ≤ nI i := nI_ge hi2 (by omega)
    have e1' : ¬ nI n ≤ nI i := nI_ge (by omega) (by omega)
    have i3 : (3 : Int32) + nI p = nI (3 + p) := nI_add 3 p
    have hc : ∀ m o7, tw_run 57 6 [some (tw_R 3 0), some (tw_R 0 0), some (tw_I (nI k)), some (tw_R 2 k), some (tw_I A), some (tw_I (nI m)), some (tw_I (nI i)), o7] [] μ = if tw_gi μ 12 0 (tw_sd μ k i) ≤ A then tw_run 57 52 [some (tw_R 3 0), some (tw_R 0 0), some (tw_I (nI k)), some (tw_R 2 k), some (tw_I A), some (tw_I (nI m)), some (tw_I (nI i)), some (tw_I (nI (tw_sd μ k i)))] [] μ else tw_run 57 49 [some (tw_R 3 0), some (tw_R 0 0), some (tw_I (nI k)), some (tw_R 2 k), some (tw_I A), some (tw_I (nI m)), some (tw_I (nI i)), some (tw_I (nI (tw_sd μ k i)))] [] μ := by
      intro m o7
      rw [tb_57_6, b4, if_neg e1, tb_57_15, s_at (k := 17) rfl, tw_rd_p (μ := μ) (k := 17) (n := k) 4 rfl i4, s1]
      simp only [Option.bind_some, Option.toList_some, Option.toList_none, List.cons_append, List.nil_append, List.append_nil, tb_57_24, s_hangs i4, tb_57_32, tn_z]
      rw [if_neg (fun q => q z1), tb_57_35, s_at (k := 12) rfl, tw_rd_p (μ := μ) (k := 12) (n := 0) 5 rfl (show tw_sd μ k i < 5 by omega)]
      simp only [Option.bind_some, Option.toList_some, Option.toList_none, List.cons_append, List.nil_append, List.append_nil, tb_57_44]
    have hr : ∀ o8, tw_run 132 328 [some (tw_R 6 0), some (tw_I (nI p)), o2, o3, o4, some (tw_I (nI n)), some (tw_I (nI k)), o7, o8, some (tw_I (nI i))] [] ν = if A < tw_gi μ 12 0 (tw_sd μ k i) then tw_run 132 373 [some (tw_R 6 0), some (tw_I (nI p)), o2, o3, o4, some (tw_I (nI n)), some (tw_I (nI k)), o7, o8, some (tw_I (nI i))] [] ν else tw_run 132 365 [some (tw_R 6 0), some (tw_I (nI p)), o2, o3, o4, some (tw_I (nI n)), some (tw_I (nI k)), o7, o8, some (tw_I (nI i))] [] ν := by
      intro o8
      rw [tb_132_328, if_neg e1', tb_132_335, m_at5 k8 i4]
      simp only [Option.bind_some, Option.toList_some, Option.toList_none, List.cons_append, List.nil_append, List.append_nil, tb_132_349]
      rw [(r6 i hi2).1, s1, if_pos (show tw_in (nI (tw_sd μ k i)) (tw_al 33) from tn_in (show tw_sd μ k i < 10 by omega) (by decide)), nI_clamp (by omega), tb_132_350, i3, if_pos (show tw_in (nI (3 + p)) (tw_al 36) from tn_in (show 3 + p < 363 by omega) (by decide)), nI_clamp (by omega), a6, hpw, tb_132_359, hmel, m_air R p2]
      simp only [Option.bind_some, Option.toList_some, Option.toList_none, List.cons_append, List.nil_append, List.append_nil, tb_132_362]
      rw [hA]
    by_cases z2 : tw_gi μ 12 0 (tw_sd μ k i) ≤ A
    · obtain ⟨μ1, ν1, t1, t2, t3, t4, t5⟩ := ux_heard R hk hi2
      have t4' : ux_fr ux_h μ μ1 := t4.mo (fun k n j q => by unfold ux_h; unfold ux_hk at q; omega)
      have q := ux_q.of t4'
      obtain ⟨μ', ν', c, h1, h2, h3, h4, h5⟩ := ih (i + 1) μ1 ν1 (by omega) (by rw [q.ln]; exact hln) t3 (by rw [q.ai]; exact hA) (by rw [q.pl]; exact hw) (by rw [q 19 0 p (by omega) (by omega) (by omega) (by omega)]; exact hpw) (fun j j1 j2 => by rw [t4.1 18 k j (by unfold ux_hk; omega)]; exact hh j (by omega) j2)
      refine ⟨μ', ν', c + 1, fun m o7 => ?_, fun o8 => ?_, h3, t4'.tr h4, t5.tr h5⟩
      · rw [hc, if_pos z2, tb_57_52, g4, s_put (k := 18) rfl, tw_wr_n (k := 18) (show i < tw_al 18 from i4)]
        simp only [Option.bind_some, Option.toList_some, Option.toList_none, List.cons_append, List.nil_append, List.append_nil, tb_57_65]
        rw [tw_gi_ne (k' := 2) (by omega), p1]
        rw [hw] at t1
        rw [t1]
        simp only [Option.bind_some, Option.toList_some, Option.toList_none, List.cons_append, List.nil_append, List.append_nil, tb_57_76, tb_57_79, nI_1]
        rw [h1 (m + 1), show m + 1 + c = m + (c + 1) by omega]
      · rw [hr, if_neg (tn_l1 z2), tb_132_365, t2]
        simp only [Option.bind_some, Option.toList_some, Option.toList_none, List.cons_append, List.nil_append, List.append_nil, tb_132_373, nI_1]
        exact h2 _
    · obtain ⟨μ', ν', c, h1, h2, h3, h4, h5⟩ := ih (i + 1) μ ν (by omega) hln R hA hw hpw (fun j j1 j2 => hh j (by omega) j2)
      refine ⟨μ', ν', c, fun m o7 => ?_, fun o8 => ?_, h3, h4, h5⟩
      · rw [hc, if_neg z2, tb_57_49, tb_57_79, nI_1]
        exact h1 m _
      · rw [hr, if_pos (tn_l2 z2), tb_132_373, nI_1]
        exact h2 _
end
