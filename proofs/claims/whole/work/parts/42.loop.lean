/-! a text read, in both -/
/-- the class has read the token from e on, the reference has looked at it -/
def ux_H (b : Nat → Int32) (T e : Nat) (μ ν : tw_M) : Prop := ux_ct b T μ ∧ ux_mt b T ν ∧ e ≤ T ∧ tw_gi μ 4 0 2 = nI (ux_sk b T e) ∧ tw_gi μ 4 0 3 = nI (ux_ed b T e) ∧ tw_gi μ 4 0 4 = nI (ux_kd b T e) ∧ ux_tm b T e ν ∧ tw_gi ν 6 0 8 = -1
section
variable {b : Nat → Int32} {lo hi : Int32} {μ μ' ν ν' μ2 ν2 ν3 : tw_M} {x y z u v A l code sg : Int32} {s k p h j t w n P H S N C T i a m F e d E e0 : Nat} {cls : Option (Option tw_V × tw_M)}
theorem ux_code (hs : s < E) (hb : ∀ j, j < E - s → 97 ≤ b (s + j) ∧ b (s + j) ≤ 122 ∧ tw_bd (b (s + j)) 256) :
    (ux_is b s E 0 ∧ ux_wo (ux_pk b s (min (E - s) 7)) = 0) ∨ (¬ ux_is b s E 0 ∧ ux_is b s E 1 ∧ ux_wo (ux_pk b s (min (E - s) 7)) = 1) ∨ (¬ ux_is b s E 0 ∧ ¬ ux_is b s E 1 ∧ ux_is b s E 2 ∧ ux_wo (ux_pk b s (min (E - s) 7)) = 2) ∨
    (¬ ux_is b s E 0 ∧ ¬ ux_is b s E 1 ∧ ¬ ux_is b s E 2 ∧ ux_is b s E 3 ∧ ux_wo (ux_pk b s (min (E - s) 7)) = 3) ∨ (¬ ux_is b s E 0 ∧ ¬ ux_is b s E 1 ∧ ¬ ux_is b s E 2 ∧ ¬ ux_is b s E 3 ∧ ux_is b s E 4 ∧ ux_wo (ux_pk b s (min (E - s) 7)) = 4) ∨
    (¬ ux_is b s E 0 ∧ ¬ ux_is b s E 1 ∧ ¬ ux_is b s E 2 ∧ ¬ ux_is b s E 3 ∧ ¬ ux_is b s E 4 ∧ ux_is b s E 5 ∧ ux_wo (ux_pk b s (min (E - s) 7)) = 5) ∨
    (¬ ux_is b s E 0 ∧ ¬ ux_is b s E 1 ∧ ¬ ux_is b s E 2 ∧ ¬ ux_is b s E 3 ∧ ¬ ux_is b s E 4 ∧ ¬ ux_is b s E 5 ∧ ux_wo (ux_pk b s (min (E - s) 7)) = -9) := by
  obtain ⟨w0, w1, w2, w3, w4, w5⟩ := ux_pkw
  have i0 := ux_pk_is (i := 0) (by omega) hs hb
  have i1 := ux_pk_is (i := 1) (by omega) hs hb
  have i2 := ux_pk_is (i := 2) (by omega) hs hb
  have i3 := ux_pk_is (i := 3) (by omega) hs hb
  have i4 := ux_pk_is (i := 4) (by omega) hs hb
  have i5 := ux_pk_is (i := 5) (by omega) hs hb
  rw [w0] at i0
  rw [w1] at i1
  rw [w2] at i2
  rw [w3] at i3
  rw [w4] at i4
  rw [w5] at i5
  unfold ux_wo
  by_cases z0 : ux_is b s E 0
  · exact Or.inl ⟨z0, if_pos (i0.mpr z0)⟩
  · refine Or.inr ?_
    rw [if_neg (fun q => z0 (i0.mp q))]
    by_cases z1 : ux_is b s E 1
    · exact Or.inl ⟨z0, z1, if_pos (i1.mpr z1)⟩
    · refine Or.inr ?_
      rw [if_neg (fun q => z1 (i1.mp q))]
      by_cases z2 : ux_is b s E 2
      · exact Or.inl ⟨z0, z1, z2, if_pos (i2.mpr z2)⟩
      · refine Or.inr ?_
        rw [if_neg (fun q => z2 (i2.mp q))]
        by_cases z3 : ux_is b s E 3
        · exact Or.inl ⟨z0, z1, z2, z3, if_pos (i3.mpr z3)⟩
        · refine Or.inr ?_
          rw [if_neg (fun q => z3 (i3.mp q))]
          by_cases z4 : ux_is b s E 4
          · exact Or.inl ⟨z0, z1, z2, z3, z4, if_pos (i4.mpr z4)⟩
          · refine Or.inr ?_
            rw [if_neg (fun q => z4 (i4.mp q))]
            by_cases z5 : ux_is b s E 5
            · exact Or.inl ⟨z0, z1, z2, z3, z4, z5, if_pos (i5.mpr z5)⟩
            · exact Or.inr ⟨z0, z1, z2, z3, z4, z5, if_neg (fun q => z5 (i5.mp q))⟩
theorem m_mayBegin (D : ux_Dr p h s n μ ν) : tw_call 112 [tw_R 6 0, tw_I x] ν = some (some (tw_I (if x = 0 then (if p < 4 then 1 else 0) else if x = 5 then (if n < 4 then 1 else 0) else if x = 3 ∨ x = 4 then (if s < 5 then 1 else 0) else 1)), ν) := by
  obtain ⟨d1, d2, d3, d4, d5, d6, d7, d8, d9, da, db, dc, -⟩ := D
  have lim : ∀ (a c : Nat), a < 2 ^ 31 → c < 2 ^ 31 → ∀ (X Y : Option (Option tw_V × tw_M)), (if nI c ≤ nI a then X else Y) = if a < c then Y else X := by
    intro a c ha hc X Y
    by_cases q : a < c
    · rw [if_pos q, if_neg (nI_ge q hc)]
    · rw [if_neg q, if_pos (nI_le (by omega) ha)]
  rw [te_112, tb_112_0]
  by_cases z0 : x = 0
  · rw [if_pos z0, if_pos z0, tb_112_4, d9, show (4 : Int32) = nI 4 from rfl, lim _ _ (by omega) (by omega)]
    by_cases q : p < 4
    · rw [if_pos q, if_pos q, tb_112_12, tb_112_17, tn_bo1]
    · rw [if_neg q, if_neg q, tb_112_16, tb_112_17, tn_bo0]
  · rw [if_neg z0, if_neg z0, tb_112_18]
    by_cases z5 : x = 5
    · rw [if_pos z5, if_pos z5, tb_112_23, dc, show (4 : Int32) = nI 4 from rfl, lim _ _ (by omega) (by omega)]
      by_cases q : n < 4
      · rw [if_pos q, if_pos q, tb_112_31, tb_112_66, tn_bo1]
      · rw [if_neg q, if_neg q, tb_112_35, tb_112_66, tn_bo0]
    · rw [if_neg z5, if_neg z5, tb_112_39]
      have t49 : tw_run 112 49 [some (tw_R 6 0), some (tw_I x)] [] ν = some (some (tw_I (if s < 5 then 1 else 0)), ν) := by
        rw [tb_112_49, db, show (5 : Int32) = nI 5 from rfl, lim _ _ (by omega) (by omega)]
        by_cases q : s < 5
        · rw [if_pos q, if_pos q, tb_112_57, tb_112_66, tn_bo1]
        · rw [if_neg q, if_neg q, tb_112_61, tb_112_66, tn_bo0]
      by_cases z3 : x = 3
      · rw [if_pos z3, if_pos (Or.inl z3), t49]
      · rw [if_neg z3, tb_112_44]
        by_cases z4 : x = 4
        · rw [if_pos z4, if_pos (Or.inr z4), t49]
        · rw [if_neg z4, if_neg (fun q => q.elim z3 z4), tb_112_65, tb_112_66, tn_bo1]
theorem ux_item (G : ux_H b T e μ ν) (D : ux_Dr p h s n μ ν) (hk : ux_kd b T e ≠ 0) : ∃ μ' ν' r q2, ux_fr ux_pc μ μ' ∧ ux_fr ux_pm ν ν' ∧ tw_call 27 [tw_R 4 0, tw_R 0 1] μ = some (some (tw_I r), μ') ∧
    (∀ (x1 : Int32) (o2 : Option tw_V), tw_run 116 55 [some (tw_R 6 0), some (tw_I x1), o2] [] ν = tw_run 116 41 [some (tw_R 6 0), some (tw_I (x1 + 1)), q2] [] ν') ∧
    ((r = 1 ∧ ∃ e' p h s n, e < e' ∧ ux_B b T e' μ' ν' ∧ ux_Dr p h s n μ' ν') ∨ (r = 0 ∧ ux_F μ' ν')) := by
  obtain ⟨c, cm, he, h2, h3, h4, tm, hw⟩ := G
  have hT := c.1
  obtain ⟨hs1, hs2⟩ := ux_sk_le (b := b) he
  obtain ⟨t6, t0, t4, tw, td, tq3, tq4⟩ := id tm
  have tk := ux_tk (b := b) he
  have ed := ux_ed_le (b := b) he
  have sT : ux_sk b T e < T := by
    rcases tk with ⟨k, z⟩ | ⟨z, _⟩
    · exact absurd k hk
    · exact z
  obtain ⟨ed1, ed2⟩ := ed sT
  obtain ⟨μF, hF⟩ : ∃ ν1, ν1 = tw_si ν 6 0 8 (nI (ux_sk b T e)) := ⟨_, rfl⟩
  have hF8 : tw_gi μF 6 0 8 = nI (ux_sk b T e) := by rw [hF, tw_gi_eq]
  -- the reference meets a fault at the word
  have fault : (∀ (x1 : Int32) (o2 : Option tw_V), tw_run 116 55 [some (tw_R 6 0), some (tw_I x1), o2] [] ν = tw_run 116 79 [some (tw_R 6 0), some (tw_I x1), o2] [tw_R 6 0] ν) → tw_call 27 [tw_R 4 0, tw_R 0 1] μ = some (some (tw_I 0), μ) → ∃ μ' ν' r q2, ux_fr ux_pc μ μ' ∧ ux_fr ux_pm ν ν' ∧ tw_call 27 [tw_R 4 0, tw_R 0 1] μ = some (some (tw_I r), μ') ∧
      (∀ (x1 : Int32) (o2 : Option tw_V), tw_run 116 55 [some (tw_R 6 0), some (tw_I x1), o2] [] ν = tw_run 116 41 [some (tw_R 6 0), some (tw_I (x1 + 1)), q2] [] ν') ∧
      ((r = 1 ∧ ∃ e' p h s n, e < e' ∧ ux_B b T e' μ' ν' ∧ ux_Dr p h s n μ' ν') ∨ (r = 0 ∧ ux_F μ' ν')) := by
    intro g1 g2
    refine ⟨μ, μF, 0, some (tw_I 0), ux_fr.rf, by rw [hF]; exact ux_fr.rf.si (Or.inl (by unfold ux_qt; omega)), g2, fun x1 o2 => ?_, Or.inr ⟨rfl, _, by omega, h2, hF8⟩⟩
    rw [g1, tb_116_79, tb_116_80, m_takes0 hw, t6, ← hF]
    simp only [Option.bind_some, Option.toList_some, Option.toList_none, List.cons_append, List.nil_append, List.append_nil, tb_116_83]
    rw [m_well0 hF8 (by omega)]
    simp only [Option.bind_some, Option.toList_some, Option.toList_none, List.cons_append, List.nil_append, List.append_nil, tb_116_88]
    rw [if_pos trivial, m_markF hF8 (by omega)]
  -- neither a word that begins an item
  have tok1 : ¬ tw_gi ν 6 0 5 = 1 → ∀ (x1 : Int32) (o2 : Option tw_V), tw_run 116 55 [some (tw_R 6 0), some (tw_I x1), o2] [] ν = tw_run 116 79 [some (tw_R 6 0), some (tw_I x1), o2] [tw_R 6 0] ν := by
    intro q x1 o2
    rw [tb_116_55, if_neg q]
  by_cases k1 : ux_kd b T e = 1
  · obtain ⟨w1, w2⟩ := tw k1
    have hb : ∀ j, j < ux_ed b T e - ux_sk b T e → 97 ≤ b (ux_sk b T e + j) ∧ b (ux_sk b T e + j) ≤ 122 ∧ tw_bd (b (ux_sk b T e + j)) 256 := by
      intro j hj
      have eE : ux_ed b T e = ux_er b 97 122 (T - ux_sk b T e) (ux_sk b T e) := by
        rcases tk with ⟨k, z⟩ | ⟨z, ⟨k, q1, q2, q3⟩ | ⟨k, q1, q2, q3, q4⟩ | ⟨k, q1, q2, q3, q4⟩ | ⟨k, q1, q2, q3, q4⟩⟩
        · omega
        · exact q3
        · omega
        · omega
        · omega
      have q := ux_er_in (b := b) (lo := 97) (hi := 122) (T - ux_sk b T e) (ux_sk b T e) (ux_sk b T e + j) (by omega) (by rw [← eE]; omega)
      exact ⟨q.1, q.2, (cm.2.2 _ (by omega)).2⟩
    have W := fun i hi => s_isWord (i := i) hi c h2 h3 ed1 ed2
    -- the class, word by word
    have k10 : tw_gi μ 4 0 4 = 1 := by rw [h4, k1]; rfl
    have c0 : tw_call 27 [tw_R 4 0, tw_R 0 1] μ = tw_run 27 10 [some (tw_R 4 0), some (tw_R 0 1)] [] μ := by
      rw [te_27, tb_27_0, if_pos k10]
    have ok : ∀ (code : Int32) (cls : Option (Option tw_V × tw_M)), tw_gi ν 6 0 7 = code → tw_gi ν 6 0 5 = 1 → (if code = 0 then (if p < 4 then (1 : Int32) else 0) else if code = 5 then (if n < 4 then 1 else 0) else if code = 3 ∨ code = 4 then (if s < 5 then 1 else 0) else 1) = 1 →
        (∀ ν1, ux_B b T (ux_ed b T e) μ ν1 → ux_Dr p h s n μ ν1 → ux_It b T (ux_ed b T e) μ ν1 cls code) → (∀ r μ', (r = 0 ∨ r = 1) → cls = some (some (tw_I r), μ') → tw_call 27 [tw_R 4 0, tw_R 0 1] μ = some (some (tw_I r), μ')) → ∃ μ' ν' r q2, ux_fr ux_pc μ μ' ∧ ux_fr ux_pm ν ν' ∧ tw_call 27 [tw_R 4 0, tw_R 0 1] μ = some (some (tw_I r), μ') ∧
        (∀ (x1 : Int32) (o2 : Option tw_V), tw_run 116 55 [some (tw_R 6 0), some (tw_I x1), o2] [] ν = tw_run 116 41 [some (tw_R 6 0), some (tw_I (x1 + 1)), q2] [] ν') ∧
        ((r = 1 ∧ ∃ e' p h s n, e < e' ∧ ux_B b T e' μ' ν' ∧ ux_Dr p h s n μ' ν') ∨ (r = 0 ∧ ux_F μ' ν')) := by
      intro code cls hv h5 hm hIt hcls
      obtain ⟨ν1, b1, b2, b3, b4⟩ := m_takes1 (e := ux_ed b T e) cm hw (t4 (by omega)) ed2
      obtain ⟨μ', ν', r, i1, i2, i3, i4, i5⟩ := hIt ν1 ⟨c, cm.qt b2, h3, ed2, b3, b4⟩ (D.fr ux_fr.rf b2)
      refine ⟨μ', ν', r, some (tw_I code), i1, (ux_rp b2).tr i2, hcls r μ' (i5.elim (fun q => Or.inr q.1) (fun q => Or.inl q.1)) i3, fun x1 o2 => ?_, ?_⟩
      · rw [tb_116_55, if_pos h5, tb_116_64, hv, m_mayBegin D, hm]
        simp only [Option.bind_some, Option.toList_some, Option.toList_none, List.cons_append, List.nil_append, List.append_nil, tb_116_72]
        rw [if_neg (show ¬ (1 : Int32) = 0 by decide), tb_116_75, tb_116_80, b1, hv]
        simp only [Option.bind_some, Option.toList_some, Option.toList_none, List.cons_append, List.nil_append, List.append_nil, tb_116_83]
        rw [m_well1 b4]
        simp only [Option.bind_some, Option.toList_some, Option.toList_none, List.cons_append, List.nil_append, List.append_nil, tb_116_88]
        rw [if_neg (show ¬ (1 : Int32) = 0 by decide)]
        exact i4 x1
      · rcases i5 with ⟨q, e', p, h, s, n, q1, q2⟩ | q
        · exact Or.inl ⟨q, e', p, h, s, n, by omega, q2⟩
        · exact Or.inr q
    have full : ∀ (code : Int32), tw_gi ν 6 0 7 = code → tw_gi ν 6 0 5 = 1 → (if code = 0 then (if p < 4 then (1 : Int32) else 0) else if code = 5 then (if n < 4 then 1 else 0) else if code = 3 ∨ code = 4 then (if s < 5 then 1 else 0) else 1) = 0 → ∀ (x1 : Int32) (o2 : Option tw_V), tw_run 116 55 [some (tw_R 6 0), some (tw_I x1), o2] [] ν = tw_run 116 79 [some (tw_R 6 0), some (tw_I x1), o2] [tw_R 6 0] ν := by
      intro code hv h5 hm x1 o2
      rw [tb_116_55, if_pos h5, tb_116_64, hv, m_mayBegin D, hm]
      simp only [Option.bind_some, Option.toList_some, Option.toList_none, List.cons_append, List.nil_append, List.append_nil, tb_116_72]
      rw [if_pos trivial]
    have d1 := D.1
    have e5 : tw_gi μ 0 1 5 = nI p := D.2.2.2.2.1
    have e7 : tw_gi μ 0 1 7 = nI s := D.2.2.2.2.2.2.1
    have e8 : tw_gi μ 0 1 8 = nI n := D.2.2.2.2.2.2.2.1
    have n01 : ¬ (1 : Int32) = 0 := by decide
    rcases ux_code ed1 hb with ⟨i0, wv⟩ | ⟨j0, i1, wv⟩ | ⟨j0, j1, i2, wv⟩ | ⟨j0, j1, j2, i3, wv⟩ | ⟨j0, j1, j2, j3, i4, wv⟩ | ⟨j0, j1, j2, j3, j4, i5, wv⟩ | ⟨j0, j1, j2, j3, j4, j5, wv⟩
    · rw [wv] at w1
      rw [w1, if_neg (by decide)] at w2
      have cc : ∀ r μ', (r = 0 ∨ r = 1) → tw_call 20 [tw_R 4 0, tw_R 0 1] μ = some (some (tw_I r), μ') → tw_call 27 [tw_R 4 0, tw_R 0 1] μ = some (some (tw_I r), μ') := by
        intro r μ' hr hc
        rw [c0, tb_27_10, (W 0 (by omega)).1 i0]
        simp only [Option.bind_some, Option.toList_some, Option.toList_none, List.cons_append, List.nil_append, List.append_nil, tb_27_16]
        rw [if_neg n01, tb_27_19, hc]
        simp only [Option.bind_some, Option.toList_some, Option.toList_none, List.cons_append, List.nil_append, List.append_nil, tb_27_24]
        exact tn_bo hr
      by_cases hp : p < 4
      · exact ok 0 _ w1 w2 (by rw [if_pos rfl, if_pos hp]) (fun ν1 B1 D1 => ux_place B1 D1 hp) cc
      · refine fault (full 0 w1 w2 (by rw [if_pos rfl, if_neg hp])) (cc 0 μ (Or.inl rfl) ?_)
        rw [te_20, tb_20_0, e5, if_pos (show (4 : Int32) ≤ nI p from nI_le (a := 4) (by omega) (by omega)), tb_20_18, tn_bo0]
    · rw [wv] at w1
      rw [w1, if_neg (by decide)] at w2
      refine ok 1 _ w1 w2 (by rw [if_neg (by decide), if_neg (by decide), if_neg (by decide)]) (fun ν1 B1 D1 => ux_weather B1 D1 (Or.inl ⟨rfl, rfl⟩)) (fun r μ' hr hc => ?_)
      rw [c0, tb_27_10, (W 0 (by omega)).2 j0]
      simp only [Option.bind_some, Option.toList_some, Option.toList_none, List.cons_append, List.nil_append, List.append_nil, tb_27_16]
      rw [if_pos trivial, tb_27_25, (W 1 (by omega)).1 i1]
      simp only [Option.bind_some, Option.toList_some, Option.toList_none, List.cons_append, List.nil_append, List.append_nil, tb_27_31]
      rw [if_neg n01, tb_27_34, hc]
      simp only [Option.bind_some, Option.toList_some, Option.toList_none, List.cons_append, List.nil_append, List.append_nil, tb_27_40]
      exact tn_bo hr
    · rw [wv] at w1
      rw [w1, if_neg (by decide)] at w2
      refine ok 2 _ w1 w2 (by rw [if_neg (by decide), if_neg (by decide), if_neg (by decide)]) (fun ν1 B1 D1 => ux_weather B1 D1 (Or.inr ⟨rfl, rfl⟩)) (fun r μ' hr hc => ?_)
      rw [c0, tb_27_10, (W 0 (by omega)).2 j0]
      simp only [Option.bind_some, Option.toList_some, Option.toList_none, List.cons_append, List.nil_append, List.append_nil, tb_27_16]
      rw [if_pos trivial, tb_27_25, (W 1 (by omega)).2 j1]
      simp only [Option.bind_some, Option.toList_some, Option.toList_none, List.cons_append, List.nil_append, List.append_nil, tb_27_31]
      rw [if_pos trivial, tb_27_41, (W 2 (by omega)).1 i2]
      simp only [Option.bind_some, Option.toList_some, Option.toList_none, List.cons_append, List.nil_append, List.append_nil, tb_27_47]
      rw [if_neg n01, tb_27_50, hc]
      simp only [Option.bind_some, Option.toList_some, Option.toList_none, List.cons_append, List.nil_append, List.append_nil, tb_27_56]
      exact tn_bo hr
    · rw [wv] at w1
      rw [w1, if_neg (by decide)] at w2
      have cc : ∀ r μ', (r = 0 ∨ r = 1) → tw_call 24 [tw_R 4 0, tw_R 0 1, tw_I (-1)] μ = some (some (tw_I r), μ') → tw_call 27 [tw_R 4 0, tw_R 0 1] μ = some (some (tw_I r), μ') := by
        intro r μ' hr hc
        rw [c0, tb_27_10, (W 0 (by omega)).2 j0]
        simp only [Option.bind_some, Option.toList_some, Option.toList_none, List.cons_append, List.nil_append, List.append_nil, tb_27_16]
        rw [if_pos trivial, tb_27_25, (W 1 (by omega)).2 j1]
        simp only [Option.bind_some, Option.toList_some, Option.toList_none, List.cons_append, List.nil_append, List.append_nil, tb_27_31]
        rw [if_pos trivial, tb_27_41, (W 2 (by omega)).2 j2]
        simp only [Option.bind_some, Option.toList_some, Option.toList_none, List.cons_append, List.nil_append, List.append_nil, tb_27_47]
        rw [if_pos trivial, tb_27_57, (W 3 (by omega)).1 i3]
        simp only [Option.bind_some, Option.toList_some, Option.toList_none, List.cons_append, List.nil_append, List.append_nil, tb_27_63]
        rw [if_neg n01, tb_27_66, hc]
        simp only [Option.bind_some, Option.toList_some, Option.toList_none, List.cons_append, List.nil_append, List.append_nil, tb_27_72]
        exact tn_bo hr
      by_cases hs : s < 5
      · exact ok 3 _ w1 w2 (by rw [if_neg (by decide), if_neg (by decide), if_pos (Or.inl rfl), if_pos hs]) (fun ν1 B1 D1 => ux_sound B1 D1 (Or.inl ⟨rfl, rfl⟩) hs) cc
      · refine fault (full 3 w1 w2 (by rw [if_neg (by decide), if_neg (by decide), if_pos (Or.inl rfl), if_neg hs])) (cc 0 μ (Or.inl rfl) ?_)
        have s5 : s ≤ 5 := D.2.2.1
        rw [te_24, tb_24_0, e7, if_pos (show (5 : Int32) ≤ nI s from nI_le (a := 5) (by omega) (by omega)), tb_24_18, tn_bo0]
    · rw [wv] at w1
      rw [w1, if_neg (by decide)] at w2
      have cc : ∀ r μ', (r = 0 ∨ r = 1) → tw_call 24 [tw_R 4 0, tw_R 0 1, tw_I 1] μ = some (some (tw_I r), μ') → tw_call 27 [tw_R 4 0, tw_R 0 1] μ = some (some (tw_I r), μ') := by
        intro r μ' hr hc
        rw [c0, tb_27_10, (W 0 (by omega)).2 j0]
        simp only [Option.bind_some, Option.toList_some, Option.toList_none, List.cons_append, List.nil_append, List.append_nil, tb_27_16]
        rw [if_pos trivial, tb_27_25, (W 1 (by omega)).2 j1]
        simp only [Option.bind_some, Option.toList_some, Option.toList_none, List.cons_append, List.nil_append, List.append_nil, tb_27_31]
        rw [if_pos trivial, tb_27_41, (W 2 (by omega)).2 j2]
        simp only [Option.bind_some, Option.toList_some, Option.toList_none, List.cons_append, List.nil_append, List.append_nil, tb_27_47]
        rw [if_pos trivial, tb_27_57, (W 3 (by omega)).2 j3]
        simp only [Option.bind_some, Option.toList_some, Option.toList_none, List.cons_append, List.nil_append, List.append_nil, tb_27_63]
        rw [if_pos trivial, tb_27_73, (W 4 (by omega)).1 i4]
        simp only [Option.bind_some, Option.toList_some, Option.toList_none, List.cons_append, List.nil_append, List.append_nil, tb_27_79]
        rw [if_neg n01, tb_27_82, hc]
        simp only [Option.bind_some, Option.toList_some, Option.toList_none, List.cons_append, List.nil_append, List.append_nil, tb_27_88]
        exact tn_bo hr
      by_cases hs : s < 5
      · exact ok 4 _ w1 w2 (by rw [if_neg (by decide), if_neg (by decide), if_pos (Or.inr rfl), if_pos hs]) (fun ν1 B1 D1 => ux_sound B1 D1 (Or.inr ⟨rfl, rfl⟩) hs) cc
      · refine fault (full 4 w1 w2 (by rw [if_neg (by decide), if_neg (by decide), if_pos (Or.inr rfl), if_neg hs])) (cc 0 μ (Or.inl rfl) ?_)
        have s5 : s ≤ 5 := D.2.2.1
        rw [te_24, tb_24_0, e7, if_pos (show (5 : Int32) ≤ nI s from nI_le (a := 5) (by omega) (by omega)), tb_24_18, tn_bo0]
    · rw [wv] at w1
      rw [w1, if_neg (by decide)] at w2
      have cc : ∀ r μ', (r = 0 ∨ r = 1) → tw_call 26 [tw_R 4 0, tw_R 0 1] μ = some (some (tw_I r), μ') → tw_call 27 [tw_R 4 0, tw_R 0 1] μ = some (some (tw_I r), μ') := by
        intro r μ' hr hc
        rw [c0, tb_27_10, (W 0 (by omega)).2 j0]
        simp only [Option.bind_some, Option.toList_some, Option.toList_none, List.cons_append, List.nil_append, List.append_nil, tb_27_16]
        rw [if_pos trivial, tb_27_25, (W 1 (by omega)).2 j1]
        simp only [Option.bind_some, Option.toList_some, Option.toList_none, List.cons_append, List.nil_append, List.append_nil, tb_27_31]
        rw [if_pos trivial, tb_27_41, (W 2 (by omega)).2 j2]
        simp only [Option.bind_some, Option.toList_some, Option.toList_none, List.cons_append, List.nil_append, List.append_nil, tb_27_47]
        rw [if_pos trivial, tb_27_57, (W 3 (by omega)).2 j3]
        simp only [Option.bind_some, Option.toList_some, Option.toList_none, List.cons_append, List.nil_append, List.append_nil, tb_27_63]
        rw [if_pos trivial, tb_27_73, (W 4 (by omega)).2 j4]
        simp only [Option.bind_some, Option.toList_some, Option.toList_none, List.cons_append, List.nil_append, List.append_nil, tb_27_79]
        rw [if_pos trivial, tb_27_89, (W 5 (by omega)).1 i5]
        simp only [Option.bind_some, Option.toList_some, Option.toList_none, List.cons_append, List.nil_append, List.append_nil, tb_27_95]
        rw [if_neg n01, tb_27_98, hc]
        simp only [Option.bind_some, Option.toList_some, Option.toList_none, List.cons_append, List.nil_append, List.append_nil, tb_27_103]
        exact tn_bo hr
      by_cases hn : n < 4
      · exact ok 5 _ w1 w2 (by rw [if_neg (by decide), if_pos rfl, if_pos hn]) (fun ν1 B1 D1 => ux_person B1 D1 hn) cc
      · refine fault (full 5 w1 w2 (by rw [if_neg (by decide), if_pos rfl, if_neg hn])) (cc 0 μ (Or.inl rfl) ?_)
        have n4 : n ≤ 4 := D.2.2.2.1
        rw [te_26, tb_26_0, e8, if_pos (show (4 : Int32) ≤ nI n from nI_le (a := 4) (by omega) (by omega)), tb_26_18, tn_bo0]
    · rw [wv] at w1
      rw [w1, if_pos rfl] at w2
      refine fault (tok1 (by rw [w2]; decide)) ?_
      rw [c0, tb_27_10, (W 0 (by omega)).2 j0]
      simp only [Option.bind_some, Option.toList_some, Option.toList_none, List.cons_append, List.nil_append, List.append_nil, tb_27_16]
      rw [if_pos trivial, tb_27_25, (W 1 (by omega)).2 j1]
      simp only [Option.bind_some, Option.toList_some, Option.toList_none, List.cons_append, List.nil_append, List.append_nil, tb_27_31]
      rw [if_pos trivial, tb_27_41, (W 2 (by omega)).2 j2]
      simp only [Option.bind_some, Option.toList_some, Option.toList_none, List.cons_append, List.nil_append, List.append_nil, tb_27_47]
      rw [if_pos trivial, tb_27_57, (W 3 (by omega)).2 j3]
      simp only [Option.bind_some, Option.toList_some, Option.toList_none, List.cons_append, List.nil_append, List.append_nil, tb_27_63]
      rw [if_pos trivial, tb_27_73, (W 4 (by omega)).2 j4]
      simp only [Option.bind_some, Option.toList_some, Option.toList_none, List.cons_append, List.nil_append, List.append_nil, tb_27_79]
      rw [if_pos trivial, tb_27_89, (W 5 (by omega)).2 j5]
      simp only [Option.bind_some, Option.toList_some, Option.toList_none, List.cons_append, List.nil_append, List.append_nil, tb_27_95]
      rw [if_pos trivial, tb_27_104, tn_bo0]
  · have kl : ux_kd b T e ≤ 4 := by
      rcases tk with ⟨k, z⟩ | ⟨z, ⟨k, q1, q2, q3⟩ | ⟨k, q1, q2, q3, q4⟩ | ⟨k, q1, q2, q3, q4⟩ | ⟨k, q1, q2, q3, q4⟩⟩ <;> omega
    refine fault (tok1 ?_) ?_
    · rcases tk with ⟨k, z⟩ | ⟨z, ⟨k, q1, q2, q3⟩ | ⟨k, q1, q2, q3, q4⟩ | ⟨k, q1, q2, q3, q4⟩ | ⟨k, q1, q2, q3, q4⟩⟩
      · exact absurd k hk
      · exact absurd k k1
      · rw [(td k).2.2]
        split <;> decide
      · rw [tq3 k]; decide
      · rw [tq4 k]; decide
    · rw [te_27, tb_27_0, h4, if_neg (show ¬ nI (ux_kd b T e) = (1 : Int32) from fun q => k1 ((nI_eq (b := 1) (by omega) (by omega)).mp q)), tb_27_8, tn_bo0]
theorem ux_reading : ∀ (d e p h s n items : Nat) (μ ν : tw_M) (o2 : Option tw_V), T - e ≤ d → ux_H b T e μ ν → ux_Dr p h s n μ ν → items ≤ e → ∃ μ' ν', ux_fr ux_pc μ μ' ∧ ux_fr ux_pm ν ν' ∧
    ((∃ it q2 p h s n, it ≤ 300 ∧ tw_run 28 15 [some (tw_R 4 0), some (tw_R 0 1), some (tw_I (nI items))] [] μ = some (some (tw_I (nI it)), μ') ∧ tw_run 116 41 [some (tw_R 6 0), some (tw_I (nI items)), o2] [] ν = tw_run 116 135 [some (tw_R 6 0), some (tw_I (nI it)), q2] [] ν' ∧ ux_Dr p h s n μ' ν') ∨
     (∃ f, f ≤ 300 ∧ tw_run 28 15 [some (tw_R 4 0), some (tw_R 0 1), some (tw_I (nI items))] [] μ = some (some (tw_I (-10 - nI f)), μ') ∧ tw_run 116 41 [some (tw_R 6 0), some (tw_I (nI items)), o2] [] ν = some (some (tw_I (-10 - nI f)), ν'))) := by
  intro d
  induction d with
  | zero =>
    intro e p h s n items μ ν o2 hd G D hi
    obtain ⟨c, cm, he, h2, h3, h4, tm, hw⟩ := G
    have hT := c.1
    obtain ⟨hs1, hs2⟩ := ux_sk_le (b := b) he
    have k0 : ux_kd b T e = 0 := by
      rcases ux_tk (b := b) he with ⟨k, z⟩ | ⟨z, _⟩
      · exact k
      · omega
    refine ⟨μ, ν, ux_fr.rf, ux_fr.rf, Or.inl ⟨items, o2, p, h, s, n, by omega, ?_, ?_, D⟩⟩
    · rw [tb_28_15, h4, k0, if_pos (show nI 0 = (0 : Int32) from rfl), tb_28_56]
    · rw [tb_116_41, m_well1 hw]
      simp only [Option.bind_some, Option.toList_some, Option.toList_none, List.cons_append, List.nil_append, List.append_nil, tb_116_45]
      rw [if_neg (by decide), tb_116_48, tm.2.1 k0, if_pos rfl, tb_116_120, m_well1 hw]
      simp only [Option.bind_some, Option.toList_some, Option.toList_none, List.cons_append, List.nil_append, List.append_nil, tb_116_124]
      rw [if_neg (by decide)]
  | succ d ih =>
    intro e p h s n items μ ν o2 hd G D hi
    obtain ⟨c, cm, he, h2, h3, h4, tm, hw⟩ := id G
    have hT := c.1
    obtain ⟨hs1, hs2⟩ := ux_sk_le (b := b) he
    have tk := ux_tk (b := b) he
    by_cases k0 : ux_kd b T e = 0
    · refine ⟨μ, ν, ux_fr.rf, ux_fr.rf, Or.inl ⟨items, o2, p, h, s, n, by omega, ?_, ?_, D⟩⟩
      · rw [tb_28_15, h4, k0, if_pos (show nI 0 = (0 : Int32) from rfl), tb_28_56]
      · rw [tb_116_41, m_well1 hw]
        simp only [Option.bind_some, Option.toList_some, Option.toList_none, List.cons_append, List.nil_append, List.append_nil, tb_116_45]
        rw [if_neg (by decide), tb_116_48, tm.2.1 k0, if_pos rfl, tb_116_120, m_well1 hw]
        simp only [Option.bind_some, Option.toList_some, Option.toList_none, List.cons_append, List.nil_append, List.append_nil, tb_116_124]
        rw [if_neg (by decide)]
    · have sT : ux_sk b T e < T := by
        rcases tk with ⟨k, z⟩ | ⟨z, _⟩
        · exact absurd k k0
        · exact z
      have kl : ux_kd b T e ≤ 4 := by
        rcases tk with ⟨k, z⟩ | ⟨z, ⟨k, q1, q2, q3⟩ | ⟨k, q1, q2, q3, q4⟩ | ⟨k, q1, q2, q3, q4⟩ | ⟨k, q1, q2, q3, q4⟩⟩ <;> omega
      have t5 : ¬ tw_gi ν 6 0 5 = 0 := by
        obtain ⟨t6, t0, t4, tw, td, tq3, tq4⟩ := tm
        rcases tk with ⟨k, z⟩ | ⟨z, ⟨k, q1, q2, q3⟩ | ⟨k, q1, q2, q3, q4⟩ | ⟨k, q1, q2, q3, q4⟩ | ⟨k, q1, q2, q3, q4⟩⟩
        · exact absurd k k0
        · rw [(tw k).2]
          split <;> decide
        · rw [(td k).2.2]
          split <;> decide
        · rw [tq3 k]; decide
        · rw [tq4 k]; decide
      have headc : tw_run 28 15 [some (tw_R 4 0), some (tw_R 0 1), some (tw_I (nI items))] [] μ = tw_run 28 30 [some (tw_R 4 0), some (tw_R 0 1), some (tw_I (nI items))] [] μ := by
        rw [tb_28_15, h4, if_neg (nI_ne0 (by omega) (by omega)), tb_28_22, c.2.1, if_neg (nI_ge (by omega) (by omega))]
      have headm : tw_run 116 41 [some (tw_R 6 0), some (tw_I (nI items)), o2] [] ν = tw_run 116 55 [some (tw_R 6 0), some (tw_I (nI items)), o2] [] ν := by
        rw [tb_116_41, m_well1 hw]
        simp only [Option.bind_some, Option.toList_some, Option.toList_none, List.cons_append, List.nil_append, List.append_nil, tb_116_45]
        rw [if_neg (by decide), tb_116_48, if_neg t5]
      obtain ⟨μ1, ν1, r, q2, i1, i2, i3, i4, i5⟩ := ux_item G D k0
      rcases i5 with ⟨rfl, e', p', h', s', n', q1, B1, D1⟩ | ⟨rfl, F1⟩
      · obtain ⟨c1, cm1, b3, be, btm, bw⟩ := B1
        obtain ⟨μ2, a1, a2, a3, a4, a5⟩ := s_next c1 be b3
        have fa : ux_fr ux_pt μ1 μ2 := a2.mo (fun k n j q => by unfold ux_pt; omega)
        obtain ⟨μ', ν', f1, f2, f3⟩ := ih e' p' h' s' n' (items + 1) μ2 ν1 q2 (by omega) ⟨c1.pt fa, cm1, be, a3, a4, a5, btm, bw⟩ (D1.fr fa ux_fr.rf) (by omega)
        have stepc : tw_run 28 15 [some (tw_R 4 0), some (tw_R 0 1), some (tw_I (nI items))] [] μ = tw_run 28 15 [some (tw_R 4 0), some (tw_R 0 1), some (tw_I (nI (items + 1)))] [] μ2 := by
          rw [headc, tb_28_30, i3]
          simp only [Option.bind_some, Option.toList_some, Option.toList_none, List.cons_append, List.nil_append, List.append_nil, tb_28_35]
          rw [if_neg (by decide), tb_28_46, a1, nI_1]
          simp only [Option.bind_some, Option.toList_some, Option.toList_none, List.cons_append, List.nil_append, List.append_nil, tb_28_53]
        have stepm : tw_run 116 41 [some (tw_R 6 0), some (tw_I (nI items)), o2] [] ν = tw_run 116 41 [some (tw_R 6 0), some (tw_I (nI (items + 1))), q2] [] ν1 := by
          rw [headm, i4, nI_1]
        rw [stepc, stepm]
        exact ⟨μ', ν', i1.tr ((ux_lp fa).tr f1), i2.tr f2, f3⟩
      · obtain ⟨f, f1, f2, f3⟩ := F1
        refine ⟨μ1, ν1, i1, i2, Or.inr ⟨f, f1, ?_, ?_⟩⟩
        · rw [headc, tb_28_30, i3]
          simp only [Option.bind_some, Option.toList_some, Option.toList_none, List.cons_append, List.nil_append, List.append_nil, tb_28_35]
          rw [if_pos trivial, tb_28_38, f2]
        · rw [headm, i4, tb_116_41, m_well0 f3 f1]
          simp only [Option.bind_some, Option.toList_some, Option.toList_none, List.cons_append, List.nil_append, List.append_nil, tb_116_45]
          rw [if_pos trivial, tb_116_120, m_well0 f3 f1]
          simp only [Option.bind_some, Option.toList_some, Option.toList_none, List.cons_append, List.nil_append, List.append_nil, tb_116_124]
          rw [if_pos trivial, tb_116_127, f3]
end
