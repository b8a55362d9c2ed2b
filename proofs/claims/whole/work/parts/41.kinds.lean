/-! the items of a text, in both -/
def ux_pd (k n _j : Nat) : Prop := n = 1 ∧ (k = 0 ∨ (10 ≤ k ∧ k ≤ 14))
def ux_qd (k _n j : Nat) : Prop := (k = 6 ∧ 18 ≤ j ∧ j ≤ 21) ∨ (k = 31 ∧ 4 ≤ j) ∨ (k = 32 ∧ 24 ≤ j) ∨ (k = 33 ∧ 5 ≤ j) ∨ (k = 34 ∧ 4 ≤ j) ∨ (k = 35 ∧ 4 ≤ j)
def ux_pc (k n j : Nat) : Prop := ux_pt k n j ∨ ux_pd k n j
def ux_pm (k n j : Nat) : Prop := ux_qt k n j ∨ ux_qd k n j
/-- what was read of a cape so far -/
def ux_Dr (p h s n : Nat) (μ ν : tw_M) : Prop := p ≤ 4 ∧ h ≤ 24 ∧ s ≤ 5 ∧ n ≤ 4 ∧ tw_gi μ 0 1 5 = nI p ∧ tw_gi μ 0 1 6 = nI h ∧ tw_gi μ 0 1 7 = nI s ∧ tw_gi μ 0 1 8 = nI n ∧ tw_gi ν 6 0 18 = nI p ∧ tw_gi ν 6 0 19 = nI h ∧ tw_gi ν 6 0 20 = nI s ∧ tw_gi ν 6 0 21 = nI n ∧
  (∀ j, j < p → tw_bd (tw_gi μ 10 1 j) 10 ∧ tw_gi ν 31 0 (4 + j) = tw_gi μ 10 1 j) ∧
  (∀ j, j < h → (-20 ≤ (tw_gi μ 11 1 j).toInt ∧ (tw_gi μ 11 1 j).toInt ≤ 20) ∧ tw_gi ν 32 0 (24 + j) = tw_gi μ 11 1 j) ∧
  (∀ j, j < s → (-9 ≤ (tw_gi μ 12 1 j).toInt ∧ (tw_gi μ 12 1 j).toInt ≤ 9) ∧ tw_gi ν 33 0 (5 + j) = tw_gi μ 12 1 j) ∧
  (∀ j, j < n → tw_bd (tw_gi μ 13 1 j) 10 ∧ tw_bd (tw_gi μ 14 1 j) p ∧ tw_gi ν 34 0 (4 + j) = tw_gi μ 13 1 j ∧ tw_gi ν 35 0 (4 + j) = tw_gi μ 14 1 j)
section
variable {b : Nat → Int32} {lo hi : Int32} {μ μ' ν ν' μ2 ν2 ν3 : tw_M} {x y z u v A l code sg : Int32} {s k p h j t w n P H S N C T i a m F e d E e0 : Nat} {cls : Option (Option tw_V × tw_M)}
theorem ux_Dr.fr (D : ux_Dr p h s n μ ν) (f : ux_fr ux_pt μ μ') (g : ux_fr ux_qt ν ν') : ux_Dr p h s n μ' ν' := by
  have f0 : tw_gi μ' 0 1 = tw_gi μ 0 1 := funext (fun j => f.1 0 1 j (by unfold ux_pt; omega))
  have f1 : tw_gi μ' 10 1 = tw_gi μ 10 1 := funext (fun j => f.1 10 1 j (by unfold ux_pt; omega))
  have f2 : tw_gi μ' 11 1 = tw_gi μ 11 1 := funext (fun j => f.1 11 1 j (by unfold ux_pt; omega))
  have f3 : tw_gi μ' 12 1 = tw_gi μ 12 1 := funext (fun j => f.1 12 1 j (by unfold ux_pt; omega))
  have f4 : tw_gi μ' 13 1 = tw_gi μ 13 1 := funext (fun j => f.1 13 1 j (by unfold ux_pt; omega))
  have f5 : tw_gi μ' 14 1 = tw_gi μ 14 1 := funext (fun j => f.1 14 1 j (by unfold ux_pt; omega))
  have g1 : tw_gi ν' 31 0 = tw_gi ν 31 0 := funext (fun j => g.1 31 0 j (by unfold ux_qt; omega))
  have g2 : tw_gi ν' 32 0 = tw_gi ν 32 0 := funext (fun j => g.1 32 0 j (by unfold ux_qt; omega))
  have g3 : tw_gi ν' 33 0 = tw_gi ν 33 0 := funext (fun j => g.1 33 0 j (by unfold ux_qt; omega))
  have g4 : tw_gi ν' 34 0 = tw_gi ν 34 0 := funext (fun j => g.1 34 0 j (by unfold ux_qt; omega))
  have g5 : tw_gi ν' 35 0 = tw_gi ν 35 0 := funext (fun j => g.1 35 0 j (by unfold ux_qt; omega))
  unfold ux_Dr at D ⊢
  rw [f0, f1, f2, f3, f4, f5, g1, g2, g3, g4, g5, g.1 6 0 18 (by unfold ux_qt; omega), g.1 6 0 19 (by unfold ux_qt; omega), g.1 6 0 20 (by unfold ux_qt; omega), g.1 6 0 21 (by unfold ux_qt; omega)]
  exact D
theorem ux_B.fr (B : ux_B b T e μ ν) (f : ux_fr ux_pd μ μ') (g : ux_fr ux_qd ν ν') : ux_B b T e μ' ν' := by
  obtain ⟨c, cm, h3, he, tm, hw⟩ := B
  refine ⟨c.fr (f.1 4 0 1 (by unfold ux_pd; omega)) (fun j => f.1 20 0 j (by unfold ux_pd; omega)), cm.fr (g.1 6 0 3 (by unfold ux_qd; omega)) (fun j => g.1 30 0 j (by unfold ux_qd; omega)), ?_, he, ?_, ?_⟩
  · rw [f.1 4 0 3 (by unfold ux_pd; omega)]; exact h3
  · unfold ux_tm at tm ⊢
    rw [g.1 6 0 4 (by unfold ux_qd; omega), g.1 6 0 5 (by unfold ux_qd; omega), g.1 6 0 6 (by unfold ux_qd; omega), g.1 6 0 7 (by unfold ux_qd; omega)]
    exact tm
  · rw [g.1 6 0 8 (by unfold ux_qd; omega)]; exact hw
theorem ux_F.fr (F : ux_F μ ν) (g : ux_fr ux_qd ν ν') : ux_F μ ν' := by
  obtain ⟨s, h1, h2, h3⟩ := F
  exact ⟨s, h1, h2, by rw [g.1 6 0 8 (by unfold ux_qd; omega)]; exact h3⟩
/-- an item is read, mark and all -/
def ux_It (b : Nat → Int32) (T e : Nat) (μ ν : tw_M) (cls : Option (Option tw_V × tw_M)) (code : Int32) : Prop := ∃ μ' ν' r, ux_fr ux_pc μ μ' ∧ ux_fr ux_pm ν ν' ∧ cls = some (some (tw_I r), μ') ∧
  (∀ x1 : Int32, tw_run 116 91 [some (tw_R 6 0), some (tw_I x1), some (tw_I code)] [] ν = tw_run 116 41 [some (tw_R 6 0), some (tw_I (x1 + 1)), some (tw_I code)] [] ν') ∧
  ((r = 1 ∧ ∃ e' p h s n, e < e' ∧ ux_B b T e' μ' ν' ∧ ux_Dr p h s n μ' ν') ∨ (r = 0 ∧ ux_F μ' ν'))
theorem ux_done (B : ux_B b T e μ2 ν2) (D : ux_Dr p h s n μ2 ν2) (f : ux_fr ux_pc μ μ2) (g : ux_fr ux_pm ν ν2) (he : e0 ≤ e) (hc : ∀ r μ', (r = 0 ∨ r = 1) → tw_call 19 [tw_R 4 0] μ2 = some (some (tw_I r), μ') → cls = some (some (tw_I r), μ')) (hm : tw_call 115 [tw_R 6 0, tw_I code] ν = some (none, ν2)) : ux_It b T e0 μ ν cls code := by
  obtain ⟨μ', ν', r, h1, h2, h3, h4, h5⟩ := ux_mark (o2 := some (tw_I code)) B
  refine ⟨μ', ν', r, f.tr (h1.mo (fun k n j q => Or.inl q)), g.tr (h2.mo (fun k n j q => Or.inl q)), hc r μ' (h5.elim (fun q => Or.inr q.1) (fun q => Or.inl q.1)) h3, fun x1 => ?_, ?_⟩
  · rw [tb_116_91, hm]
    simp only [Option.bind_some, Option.toList_some, Option.toList_none, List.cons_append, List.nil_append, List.append_nil]
    exact h4 x1
  · rcases h5 with ⟨q, e', e1, e2⟩ | q
    · exact Or.inl ⟨q, e', p, h, s, n, by omega, e2, D.fr h1 h2⟩
    · exact Or.inr q
theorem ux_bad (F : ux_F μ2 ν2) (f : ux_fr ux_pc μ μ2) (g : ux_fr ux_pm ν ν2) (hc : cls = some (some (tw_I 0), μ2)) (hm : tw_call 115 [tw_R 6 0, tw_I code] ν = some (none, ν2)) : ux_It b T e0 μ ν cls code := by
  refine ⟨μ2, ν2, 0, f, g, hc, fun x1 => ?_, Or.inr ⟨rfl, F⟩⟩
  obtain ⟨s, h1, h2, h3⟩ := F
  rw [tb_116_91, hm]
  simp only [Option.bind_some, Option.toList_some, Option.toList_none, List.cons_append, List.nil_append, List.append_nil]
  exact m_markF h3 h1
theorem ux_lp (f : ux_fr ux_pt μ μ') : ux_fr ux_pc μ μ' := f.mo (fun k n j q => Or.inl q)
theorem ux_ld (f : ux_fr ux_pd μ μ') : ux_fr ux_pc μ μ' := f.mo (fun k n j q => Or.inr q)
theorem ux_rp (f : ux_fr ux_qt μ μ') : ux_fr ux_pm μ μ' := f.mo (fun k n j q => Or.inl q)
theorem ux_rd (f : ux_fr ux_qd μ μ') : ux_fr ux_pm μ μ' := f.mo (fun k n j q => Or.inr q)
theorem tn_bo {r : Int32} (h : r = 0 ∨ r = 1) : tw_bo .boolean r μ = some (some (tw_I r), μ) := by
  rcases h with rfl | rfl
  · exact tn_bo0
  · exact tn_bo1
theorem tn_le9 {v : Nat} (h : nI v ≤ (9 : Int32)) (hv : v < 100) : v < 10 := by
  have := (nI_leI (b := 9) (by omega) (by omega)).mp h
  omega
theorem ux_place (B : ux_B b T e μ ν) (D : ux_Dr p h s n μ ν) (hp : p < 4) : ux_It b T e μ ν (tw_call 20 [tw_R 4 0, tw_R 0 1] μ) 0 := by
  obtain ⟨μ1, ν1, f1, g1, h1⟩ := ux_number (lo := 0) (hi := 9) B (by decide)
  have D1 := D.fr f1 g1
  obtain ⟨d1, d2, d3, d4, d5, d6, d7, d8, d9, da, db, dc, dd, de, df, dg⟩ := D1
  have D0 := D
  have e5 : tw_gi μ 0 1 5 = nI p := D0.2.2.2.2.1
  have e18 : tw_gi ν 6 0 18 = nI p := D0.2.2.2.2.2.2.2.2.1
  have ix : (4 : Int32) + nI p = nI (4 + p) := nI_add 4 p
  have jx : tw_in (nI (4 + p)) (tw_al 31) := tn_in (show 4 + p < 8 by omega) (by decide)
  have cx : (nI (4 + p)).toNatClampNeg = 4 + p := nI_clamp (by omega)
  have n4 : ¬ (4 : Int32) ≤ nI p := nI_ge (b := 4) hp (by omega)
  rcases h1 with ⟨v, e', v1, v2, v3, v4, r1, r2, m1, B1⟩ | ⟨r1, m1, F1⟩
  · have fd : ux_fr ux_pd μ1 (tw_si (tw_si μ1 10 1 p (nI v)) 0 1 5 (nI (p + 1))) := (ux_fr.rf.si (by unfold ux_pd; omega)).si (by unfold ux_pd; omega)
    have gd : ux_fr ux_qd ν1 (tw_si (tw_si ν1 31 0 (4 + p) (nI v)) 6 0 18 (nI (p + 1))) := (ux_fr.rf.si (by unfold ux_qd; omega)).si (by unfold ux_qd; omega)
    have D2 : ux_Dr (p + 1) h s n (tw_si (tw_si μ1 10 1 p (nI v)) 0 1 5 (nI (p + 1))) (tw_si (tw_si ν1 31 0 (4 + p) (nI v)) 6 0 18 (nI (p + 1))) := by
      refine ⟨by omega, d2, d3, d4, tw_gi_eq, ?_, ?_, ?_, tw_gi_eq, ?_, ?_, ?_, fun j hj => ?_, fun j hj => ?_, fun j hj => ?_, fun j hj => ?_⟩
      · rw [tw_gi_ne (by omega), tw_gi_ne (by omega)]; exact d6
      · rw [tw_gi_ne (by omega), tw_gi_ne (by omega)]; exact d7
      · rw [tw_gi_ne (by omega), tw_gi_ne (by omega)]; exact d8
      · rw [tw_gi_ne (by omega), tw_gi_ne (by omega)]; exact da
      · rw [tw_gi_ne (by omega), tw_gi_ne (by omega)]; exact db
      · rw [tw_gi_ne (by omega), tw_gi_ne (by omega)]; exact dc
      · rw [tw_gi_ne (k' := 10) (by omega), tw_gi_ne (k' := 31) (by omega)]
        by_cases z : j = p
        · subst z
          rw [tw_gi_eq, tw_gi_eq]
          exact ⟨⟨v, tn_le9 v2 v3, rfl⟩, rfl⟩
        · rw [tw_gi_ne (k' := 10) (by omega), tw_gi_ne (k' := 31) (by omega)]
          exact dd j (by omega)
      · rw [ux_ne (k' := 11) (by decide), ux_ne (k' := 11) (by decide), ux_ne (k' := 32) (by decide), ux_ne (k' := 32) (by decide)]
        exact de j hj
      · rw [ux_ne (k' := 12) (by decide), ux_ne (k' := 12) (by decide), ux_ne (k' := 33) (by decide), ux_ne (k' := 33) (by decide)]
        exact df j hj
      · rw [ux_ne (k' := 13) (by decide), ux_ne (k' := 13) (by decide), ux_ne (k' := 14) (by decide), ux_ne (k' := 14) (by decide), ux_ne (k' := 34) (by decide), ux_ne (k' := 34) (by decide), ux_ne (k' := 35) (by decide), ux_ne (k' := 35) (by decide)]
        obtain ⟨q1, q2, q3⟩ := dg j hj
        exact ⟨q1, q2.mono (by omega), q3⟩
    refine ux_done (B1.fr fd gd) D2 ((ux_lp f1).tr (ux_ld fd)) ((ux_rp g1).tr (ux_rd gd)) (by omega) (fun r μ' hr hmk => ?_) ?_
    · rw [te_20, tb_20_0, e5, if_neg n4, tb_20_8, r1]
      simp only [Option.bind_some, Option.toList_some, Option.toList_none, List.cons_append, List.nil_append, List.append_nil, tb_20_15]
      rw [if_neg (by decide), tb_20_20, r2, te_18, tb_18_0, d5, s_put (k := 10) rfl, tw_wr_n (k := 10) (show p < tw_al 10 from hp)]
      simp only [Option.bind_some, Option.toList_some, Option.toList_none, List.cons_append, List.nil_append, List.append_nil, tb_18_12]
      rw [tw_gi_ne (by omega), d5, nI_1, tb_20_28, hmk]
      simp only [Option.bind_some, Option.toList_some, Option.toList_none, List.cons_append, List.nil_append, List.append_nil, tb_20_32]
      exact tn_bo hr
    · rw [te_115, tb_115_0, if_pos rfl, tb_115_4, m1, e18, ix]
      simp only [Option.bind_some, Option.toList_some, Option.toList_none, List.cons_append, List.nil_append, List.append_nil, tb_115_21]
      rw [if_pos jx, cx, tb_115_22, tw_gi_ne (by omega), d9, nI_1, tb_115_222]
  · have gd : ux_fr ux_qd ν1 (tw_si (tw_si ν1 31 0 (4 + p) 0) 6 0 18 (nI (p + 1))) := (ux_fr.rf.si (by unfold ux_qd; omega)).si (by unfold ux_qd; omega)
    refine ux_bad (F1.fr gd) (ux_lp f1) ((ux_rp g1).tr (ux_rd gd)) ?_ ?_
    · rw [te_20, tb_20_0, e5, if_neg n4, tb_20_8, r1]
      simp only [Option.bind_some, Option.toList_some, Option.toList_none, List.cons_append, List.nil_append, List.append_nil, tb_20_15]
      rw [if_pos trivial, tb_20_18, tn_bo0]
    · rw [te_115, tb_115_0, if_pos rfl, tb_115_4, m1, e18, ix]
      simp only [Option.bind_some, Option.toList_some, Option.toList_none, List.cons_append, List.nil_append, List.append_nil, tb_115_21]
      rw [if_pos jx, cx, tb_115_22, tw_gi_ne (by omega), d9, nI_1, tb_115_222]
theorem tn_sg : ∀ v, v < 21 → (-20 ≤ (nI v).toInt ∧ (nI v).toInt ≤ 20) ∧ (-20 ≤ (-(nI v)).toInt ∧ (-(nI v)).toInt ≤ 20) ∧ (v < 10 → (-9 ≤ (nI v).toInt ∧ (nI v).toInt ≤ 9) ∧ (-9 ≤ (-(nI v)).toInt ∧ (-(nI v)).toInt ≤ 9)) := by decide
theorem tn_m1 (x : Int32) : (-1 : Int32) * x = -x := by
  rw [Int32.neg_mul, Int32.one_mul]
theorem tn_p1x (x : Int32) : (1 : Int32) * x = x := Int32.one_mul x
/-- the sign of a kind, and the value -/
def ux_sg (code sg : Int32) : Prop := (code = 1 ∧ sg = -1) ∨ (code = 2 ∧ sg = 1)
theorem ux_hours {W : Int32} (hW : -20 ≤ W.toInt ∧ W.toInt ≤ 20) (hsg : ux_sg code sg) (hWx : sg * x = W) {vv : Nat} (hvv : vv < 100) : ∀ (d i h : Nat) (μ ν : tw_M), i + d = vv → h + d ≤ 24 → tw_gi ν 6 0 8 = -1 → ux_Dr p h s n μ ν → ∃ μ' ν', tw_run 21 2 [some (tw_R 0 1), some (tw_I (nI vv)), some (tw_I W), some (tw_I (nI i))] [] μ = some (none, μ') ∧ tw_run 115 69 [some (tw_R 6 0), some (tw_I code), some (tw_I x), some (tw_I (nI vv)), some (tw_I (nI i))] [] ν = some (none, ν') ∧ ux_fr ux_pd μ μ' ∧ ux_fr ux_qd ν ν' ∧ ux_Dr p (h + d) s n μ' ν' := by
  intro d
  induction d with
  | zero =>
    intro i h μ ν hi hh hw D
    have e1 : nI vv ≤ nI i := nI_le (by omega) (by omega)
    exact ⟨μ, ν, by rw [tb_21_2, if_pos e1, tb_21_35], by rw [tb_115_69, if_pos e1, tb_115_121, tb_115_222], ux_fr.rf, ux_fr.rf, D⟩
  | succ d ih =>
    intro i h μ ν hi hh hw D
    have e1 : ¬ nI vv ≤ nI i := nI_ge (by omega) (by omega)
    obtain ⟨d1, d2, d3, d4, d5, d6, d7, d8, d9, da, db, dc, dd, de, df, dg⟩ := D
    have fd : ux_fr ux_pd μ (tw_si (tw_si μ 11 1 h W) 0 1 6 (nI (h + 1))) := (ux_fr.rf.si (by unfold ux_pd; omega)).si (by unfold ux_pd; omega)
    have gd : ux_fr ux_qd ν (tw_si (tw_si ν 32 0 (24 + h) W) 6 0 19 (nI (h + 1))) := (ux_fr.rf.si (by unfold ux_qd; omega)).si (by unfold ux_qd; omega)
    have D2 : ux_Dr p (h + 1) s n (tw_si (tw_si μ 11 1 h W) 0 1 6 (nI (h + 1))) (tw_si (tw_si ν 32 0 (24 + h) W) 6 0 19 (nI (h + 1))) := by
      refine ⟨d1, by omega, d3, d4, ?_, tw_gi_eq, ?_, ?_, ?_, tw_gi_eq, ?_, ?_, fun j hj => ?_, fun j hj => ?_, fun j hj => ?_, fun j hj => ?_⟩
      · rw [tw_gi_ne (by omega), tw_gi_ne (by omega)]; exact d5
      · rw [tw_gi_ne (by omega), tw_gi_ne (by omega)]; exact d7
      · rw [tw_gi_ne (by omega), tw_gi_ne (by omega)]; exact d8
      · rw [tw_gi_ne (by omega), tw_gi_ne (by omega)]; exact d9
      · rw [tw_gi_ne (by omega), tw_gi_ne (by omega)]; exact db
      · rw [tw_gi_ne (by omega), tw_gi_ne (by omega)]; exact dc
      · rw [ux_ne (k' := 10) (by decide), ux_ne (k' := 10) (by decide), ux_ne (k' := 31) (by decide), ux_ne (k' := 31) (by decide)]
        exact dd j hj
      · rw [tw_gi_ne (k' := 11) (by omega), tw_gi_ne (k' := 32) (by omega)]
        by_cases z : j = h
        · subst z
          rw [tw_gi_eq, tw_gi_eq]
          exact ⟨hW, rfl⟩
        · rw [tw_gi_ne (k' := 11) (by omega), tw_gi_ne (k' := 32) (by omega)]
          exact de j (by omega)
      · rw [ux_ne (k' := 12) (by decide), ux_ne (k' := 12) (by decide), ux_ne (k' := 33) (by decide), ux_ne (k' := 33) (by decide)]
        exact df j hj
      · rw [ux_ne (k' := 13) (by decide), ux_ne (k' := 13) (by decide), ux_ne (k' := 14) (by decide), ux_ne (k' := 14) (by decide), ux_ne (k' := 34) (by decide), ux_ne (k' := 34) (by decide), ux_ne (k' := 35) (by decide), ux_ne (k' := 35) (by decide)]
        exact dg j hj
    obtain ⟨μ', ν', t1, t2, t3, t4, t5⟩ := ih (i + 1) (h + 1) _ _ (by omega) (by omega) (by rw [gd.1 6 0 8 (by unfold ux_qd; omega)]; exact hw) D2
    refine ⟨μ', ν', ?_, ?_, fd.tr t3, gd.tr t4, by rw [show h + (d + 1) = h + 1 + d by omega]; exact t5⟩
    · rw [tb_21_2, if_neg e1, tb_21_7, d6, s_put (k := 11) rfl, tw_wr_n (k := 11) (show h < tw_al 11 by show h < 24; omega)]
      simp only [Option.bind_some, Option.toList_some, Option.toList_none, List.cons_append, List.nil_append, List.append_nil, tb_21_19]
      rw [tw_gi_ne (by omega), d6, nI_1, nI_1]
      exact t1
    · have ix : (24 : Int32) + nI h = nI (24 + h) := nI_add 24 h
      have put : tw_run 115 104 [some (tw_R 6 0), some (tw_I code), some (tw_I x), some (tw_I (nI vv)), some (tw_I (nI i))] [tw_I W, tw_I (nI (24 + h)), tw_R 32 0] ν = some (none, ν') := by
        rw [tb_115_104, if_pos (show tw_in (nI (24 + h)) (tw_al 32) from tn_in (show 24 + h < 48 by omega) (by decide)), nI_clamp (by omega), tb_115_105, tw_gi_ne (by omega), da, nI_1, nI_1]
        exact t2
      rw [tb_115_69, if_neg e1, tb_115_75, m_well1 hw]
      simp only [Option.bind_some, Option.toList_some, Option.toList_none, List.cons_append, List.nil_append, List.append_nil, tb_115_79]
      rw [if_neg (by decide), tb_115_82, da, ix]
      rcases hsg with ⟨rfl, rfl⟩ | ⟨rfl, rfl⟩
      · rw [if_pos rfl, tb_115_98, ← tn_m1, hWx]
        exact put
      · rw [if_neg (by decide), tb_115_103]
        rw [tn_p1x] at hWx
        subst hWx
        exact put
theorem ux_weather (B : ux_B b T e μ ν) (D : ux_Dr p h s n μ ν) (hsg : ux_sg code sg) : ux_It b T e μ ν (tw_call 22 [tw_R 4 0, tw_R 0 1, tw_I sg] μ) code := by
  obtain ⟨μ1, ν1, f1, g1, h1⟩ := ux_number (lo := 0) (hi := 20) B (by decide)
  have D1 := D.fr f1 g1
  have h24 : h ≤ 24 := D.2.1
  have headm : tw_call 115 [tw_R 6 0, tw_I code] ν = tw_run 115 45 [some (tw_R 6 0), some (tw_I code), none, none, none] [] ν := by
    rcases hsg with ⟨rfl, rfl⟩ | ⟨rfl, rfl⟩
    · rw [te_115, tb_115_0, if_neg (by decide), tb_115_35, if_pos rfl]
    · rw [te_115, tb_115_0, if_neg (by decide), tb_115_35, if_neg (by decide), tb_115_40, if_pos rfl]
  have s24 : (24 : Int32) - nI h = nI (24 - h) := pk_sub (a := 24) h24
  rcases h1 with ⟨v, e1, v1, v2, v3, v4, r1, r2, m1, B1⟩ | ⟨r1, m1, F1⟩
  · have e6 : tw_gi μ1 0 1 6 = nI h := D1.2.2.2.2.2.1
    have e19 : tw_gi ν1 6 0 19 = nI h := D1.2.2.2.2.2.2.2.2.2.1
    have v20 : v < 21 := by
      have := (nI_leI (b := 20) (by omega) (by omega)).mp v2
      omega
    have hW : -20 ≤ (sg * nI v).toInt ∧ (sg * nI v).toInt ≤ 20 := by
      rcases hsg with ⟨_, rfl⟩ | ⟨_, rfl⟩
      · rw [tn_m1]; exact (tn_sg v v20).2.1
      · rw [tn_p1x]; exact (tn_sg v v20).1
    obtain ⟨μ2, ν2, f2, g2, h2⟩ := ux_number (lo := 1) (hi := nI (24 - h)) B1 (by decide)
    have D2 := D1.fr f2 g2
    rcases h2 with ⟨w, e2, w1, w2, w3, w4, q1, q2, n1, B2⟩ | ⟨q1, n1, F2⟩
    · have wh : w ≤ 24 - h := (nI_leI (by omega) (by omega)).mp w2
      obtain ⟨μ3, ν3, t1, t2, t3, t4, t5⟩ := ux_hours (code := code) (sg := sg) (x := nI v) hW hsg rfl w3 w 0 h μ2 ν2 (by omega) (by omega) B2.2.2.2.2.2 D2
      refine ux_done (B2.fr t3 t4) t5 ((ux_lp f1).tr ((ux_lp f2).tr (ux_ld t3))) ((ux_rp g1).tr ((ux_rp g2).tr (ux_rd t4))) (by omega) (fun r μ' hr hmk => ?_) ?_
      · rw [te_22, tb_22_0, r1]
        simp only [Option.bind_some, Option.toList_some, Option.toList_none, List.cons_append, List.nil_append, List.append_nil, tb_22_7]
        rw [if_neg (by decide), tb_22_12, r2, e6, s24, q1]
        simp only [Option.bind_some, Option.toList_some, Option.toList_none, List.cons_append, List.nil_append, List.append_nil, tb_22_31]
        rw [if_neg (by decide), tb_22_36, q2, te_21, tb_21_0]
        rw [show tw_run 21 2 [some (tw_R 0 1), some (tw_I (nI w)), some (tw_I (sg * nI v)), some (tw_I 0)] [] μ2 = _ from t1]
        simp only [Option.bind_some, Option.toList_some, Option.toList_none, List.cons_append, List.nil_append, List.append_nil, tb_22_45]
        rw [hmk]
        simp only [Option.bind_some, Option.toList_some, Option.toList_none, List.cons_append, List.nil_append, List.append_nil, tb_22_49]
        exact tn_bo hr
      · rw [headm, tb_115_45, m1]
        simp only [Option.bind_some, Option.toList_some, Option.toList_none, List.cons_append, List.nil_append, List.append_nil, tb_115_52]
        rw [e19, s24, n1]
        simp only [Option.bind_some, Option.toList_some, Option.toList_none, List.cons_append, List.nil_append, List.append_nil, tb_115_65]
        exact t2
    · refine ux_bad F2 ((ux_lp f1).tr (ux_lp f2)) ((ux_rp g1).tr (ux_rp g2)) ?_ ?_
      · rw [te_22, tb_22_0, r1]
        simp only [Option.bind_some, Option.toList_some, Option.toList_none, List.cons_append, List.nil_append, List.append_nil, tb_22_7]
        rw [if_neg (by decide), tb_22_12, r2, e6, s24, q1]
        simp only [Option.bind_some, Option.toList_some, Option.toList_none, List.cons_append, List.nil_append, List.append_nil, tb_22_31]
        rw [if_pos trivial, tb_22_34, tn_bo0]
      · rw [headm, tb_115_45, m1]
        simp only [Option.bind_some, Option.toList_some, Option.toList_none, List.cons_append, List.nil_append, List.append_nil, tb_115_52]
        rw [e19, s24, n1]
        simp only [Option.bind_some, Option.toList_some, Option.toList_none, List.cons_append, List.nil_append, List.append_nil, tb_115_65]
        rw [tb_115_69, if_pos (by decide), tb_115_121, tb_115_222]
  · obtain ⟨fs, fs1, fs2, fs3⟩ := id F1
    refine ux_bad F1 (ux_lp f1) (ux_rp g1) ?_ ?_
    · rw [te_22, tb_22_0, r1]
      simp only [Option.bind_some, Option.toList_some, Option.toList_none, List.cons_append, List.nil_append, List.append_nil, tb_22_7]
      rw [if_pos trivial, tb_22_10, tn_bo0]
    · rw [headm, tb_115_45, m1]
      simp only [Option.bind_some, Option.toList_some, Option.toList_none, List.cons_append, List.nil_append, List.append_nil, tb_115_52]
      rw [m_numberF fs3 fs1]
      simp only [Option.bind_some, Option.toList_some, Option.toList_none, List.cons_append, List.nil_append, List.append_nil, tb_115_65]
      rw [tb_115_69, if_pos (by decide), tb_115_121, tb_115_222]
def ux_sh (code sg : Int32) : Prop := (code = 3 ∧ sg = -1) ∨ (code = 4 ∧ sg = 1)
theorem ux_sound (B : ux_B b T e μ ν) (D : ux_Dr p h s n μ ν) (hsg : ux_sh code sg) (hs : s < 5) : ux_It b T e μ ν (tw_call 24 [tw_R 4 0, tw_R 0 1, tw_I sg] μ) code := by
  obtain ⟨μ1, ν1, f1, g1, h1⟩ := ux_number (lo := 0) (hi := 9) B (by decide)
  have D1 := D.fr f1 g1
  obtain ⟨d1, d2, d3, d4, d5, d6, d7, d8, d9, da, db, dc, dd, de, df, dg⟩ := D1
  have e7 : tw_gi μ 0 1 7 = nI s := D.2.2.2.2.2.2.1
  have ix : (5 : Int32) + nI s = nI (5 + s) := nI_add 5 s
  have jx : tw_in (nI (5 + s)) (tw_al 33) := tn_in (show 5 + s < 10 by omega) (by decide)
  have cx : (nI (5 + s)).toNatClampNeg = 5 + s := nI_clamp (by omega)
  have n4 : ¬ (5 : Int32) ≤ nI s := nI_ge (b := 5) hs (by omega)
  have headm : tw_call 115 [tw_R 6 0, tw_I code] ν = tw_run 115 182 [some (tw_R 6 0), some (tw_I code), none, none, none] [] ν := by
    rcases hsg with ⟨rfl, rfl⟩ | ⟨rfl, rfl⟩ <;> rw [te_115, tb_115_0, if_neg (by decide), tb_115_35, if_neg (by decide), tb_115_40, if_neg (by decide), tb_115_124, if_neg (by decide)]
  have tailm : ∀ (y : Int32), tw_run 115 189 [some (tw_R 6 0), some (tw_I code), none, none, none] [tw_I y] ν1 = some (none, tw_si (tw_si ν1 33 0 (5 + s) (sg * y)) 6 0 20 (nI (s + 1))) := by
    intro y
    rw [tb_115_189, db, ix]
    rcases hsg with ⟨rfl, rfl⟩ | ⟨rfl, rfl⟩
    · rw [if_pos rfl, tb_115_205, tb_115_211, if_pos jx, cx, tb_115_212, tw_gi_ne (by omega), db, nI_1, tb_115_222, tn_m1]
    · rw [if_neg (by decide), tb_115_210, tb_115_211, if_pos jx, cx, tb_115_212, tw_gi_ne (by omega), db, nI_1, tb_115_222, tn_p1x]
  rcases h1 with ⟨v, e', v1, v2, v3, v4, r1, r2, m1, B1⟩ | ⟨r1, m1, F1⟩
  · have v10 := tn_le9 v2 v3
    have hW : -9 ≤ (sg * nI v).toInt ∧ (sg * nI v).toInt ≤ 9 := by
      rcases hsg with ⟨_, rfl⟩ | ⟨_, rfl⟩
      · rw [tn_m1]; exact ((tn_sg v (by omega)).2.2 v10).2
      · rw [tn_p1x]; exact ((tn_sg v (by omega)).2.2 v10).1
    have fd : ux_fr ux_pd μ1 (tw_si (tw_si μ1 12 1 s (sg * nI v)) 0 1 7 (nI (s + 1))) := (ux_fr.rf.si (by unfold ux_pd; omega)).si (by unfold ux_pd; omega)
    have gd : ux_fr ux_qd ν1 (tw_si (tw_si ν1 33 0 (5 + s) (sg * nI v)) 6 0 20 (nI (s + 1))) := (ux_fr.rf.si (by unfold ux_qd; omega)).si (by unfold ux_qd; omega)
    have D2 : ux_Dr p h (s + 1) n (tw_si (tw_si μ1 12 1 s (sg * nI v)) 0 1 7 (nI (s + 1))) (tw_si (tw_si ν1 33 0 (5 + s) (sg * nI v)) 6 0 20 (nI (s + 1))) := by
      refine ⟨d1, d2, by omega, d4, ?_, ?_, tw_gi_eq, ?_, ?_, ?_, tw_gi_eq, ?_, fun j hj => ?_, fun j hj => ?_, fun j hj => ?_, fun j hj => ?_⟩
      · rw [tw_gi_ne (by omega), tw_gi_ne (by omega)]; exact d5
      · rw [tw_gi_ne (by omega), tw_gi_ne (by omega)]; exact d6
      · rw [tw_gi_ne (by omega), tw_gi_ne (by omega)]; exact d8
      · rw [tw_gi_ne (by omega), tw_gi_ne (by omega)]; exact d9
      · rw [tw_gi_ne (by omega), tw_gi_ne (by omega)]; exact da
      · rw [tw_gi_ne (by omega), tw_gi_ne (by omega)]; exact dc
      · rw [ux_ne (k' := 10) (by decide), ux_ne (k' := 10) (by decide), ux_ne (k' := 31) (by decide), ux_ne (k' := 31) (by decide)]
        exact dd j hj
      · rw [ux_ne (k' := 11) (by decide), ux_ne (k' := 11) (by decide), ux_ne (k' := 32) (by decide), ux_ne (k' := 32) (by decide)]
        exact de j hj
      · rw [tw_gi_ne (k' := 12) (by omega), tw_gi_ne (k' := 33) (by omega)]
        by_cases z : j = s
        · subst z
          rw [tw_gi_eq, tw_gi_eq]
          exact ⟨hW, rfl⟩
        · rw [tw_gi_ne (k' := 12) (by omega), tw_gi_ne (k' := 33) (by omega)]
          exact df j (by omega)
      · rw [ux_ne (k' := 13) (by decide), ux_ne (k' := 13) (by decide), ux_ne (k' := 14) (by decide), ux_ne (k' := 14) (by decide), ux_ne (k' := 34) (by decide), ux_ne (k' := 34) (by decide), ux_ne (k' := 35) (by decide), ux_ne (k' := 35) (by decide)]
        exact dg j hj
    refine ux_done (B1.fr fd gd) D2 ((ux_lp f1).tr (ux_ld fd)) ((ux_rp g1).tr (ux_rd gd)) (by omega) (fun r μ' hr hmk => ?_) ?_
    · rw [te_24, tb_24_0, e7, if_neg n4, tb_24_8, r1]
      simp only [Option.bind_some, Option.toList_some, Option.toList_none, List.cons_append, List.nil_append, List.append_nil, tb_24_15]
      rw [if_neg (by decide), tb_24_20, r2, te_23, tb_23_0, d7, s_put (k := 12) rfl, tw_wr_n (k := 12) (show s < tw_al 12 from hs)]
      simp only [Option.bind_some, Option.toList_some, Option.toList_none, List.cons_append, List.nil_append, List.append_nil, tb_23_12]
      rw [tw_gi_ne (by omega), d7, nI_1, tb_24_30, hmk]
      simp only [Option.bind_some, Option.toList_some, Option.toList_none, List.cons_append, List.nil_append, List.append_nil, tb_24_34]
      exact tn_bo hr
    · rw [headm, tb_115_182, m1]
      simp only [Option.bind_some, Option.toList_some, Option.toList_none, List.cons_append, List.nil_append, List.append_nil]
      exact tailm _
  · have gd : ux_fr ux_qd ν1 (tw_si (tw_si ν1 33 0 (5 + s) (sg * 0)) 6 0 20 (nI (s + 1))) := (ux_fr.rf.si (by unfold ux_qd; omega)).si (by unfold ux_qd; omega)
    refine ux_bad (F1.fr gd) (ux_lp f1) ((ux_rp g1).tr (ux_rd gd)) ?_ ?_
    · rw [te_24, tb_24_0, e7, if_neg n4, tb_24_8, r1]
      simp only [Option.bind_some, Option.toList_some, Option.toList_none, List.cons_append, List.nil_append, List.append_nil, tb_24_15]
      rw [if_pos trivial, tb_24_18, tn_bo0]
    · rw [headm, tb_115_182, m1]
      simp only [Option.bind_some, Option.toList_some, Option.toList_none, List.cons_append, List.nil_append, List.append_nil]
      exact tailm _
theorem ux_person (B : ux_B b T e μ ν) (D : ux_Dr p h s n μ ν) (hn : n < 4) : ux_It b T e μ ν (tw_call 26 [tw_R 4 0, tw_R 0 1] μ) 5 := by
  obtain ⟨μ1, ν1, f1, g1, h1⟩ := ux_number (lo := 0) (hi := 9) B (by decide)
  have D1 := D.fr f1 g1
  have e8 : tw_gi μ 0 1 8 = nI n := D.2.2.2.2.2.2.2.1
  have e21 : tw_gi ν 6 0 21 = nI n := D.2.2.2.2.2.2.2.2.2.2.2.1
  have ix : (4 : Int32) + nI n = nI (4 + n) := nI_add 4 n
  have jx : tw_in (nI (4 + n)) (tw_al 34) := tn_in (show 4 + n < 8 by omega) (by decide)
  have jy : tw_in (nI (4 + n)) (tw_al 35) := tn_in (show 4 + n < 8 by omega) (by decide)
  have cx : (nI (4 + n)).toNatClampNeg = 4 + n := nI_clamp (by omega)
  have n4 : ¬ (4 : Int32) ≤ nI n := nI_ge (b := 4) hn (by omega)
  have headm : tw_call 115 [tw_R 6 0, tw_I 5] ν = tw_run 115 129 [some (tw_R 6 0), some (tw_I 5), none, none, none] [] ν := by
    rw [te_115, tb_115_0, if_neg (by decide), tb_115_35, if_neg (by decide), tb_115_40, if_neg (by decide), tb_115_124, if_pos rfl]
  rcases h1 with ⟨v, e1, v1, v2, v3, v4, r1, r2, m1, B1⟩ | ⟨r1, m1, F1⟩
  · have v10 := tn_le9 v2 v3
    have gw : ux_fr ux_qd ν1 (tw_si ν1 34 0 (4 + n) (nI v)) := ux_fr.rf.si (by unfold ux_qd; omega)
    have B1w := B1.fr ux_fr.rf gw
    have e5 : tw_gi μ1 0 1 5 = nI p := D1.2.2.2.2.1
    have e18 : tw_gi ν1 6 0 18 = nI p := D1.2.2.2.2.2.2.2.2.1
    have e21' : tw_gi ν1 6 0 21 = nI n := D1.2.2.2.2.2.2.2.2.2.2.2.1
    have p4 : p ≤ 4 := D.1
    obtain ⟨μ2, ν2, f2, g2, h2⟩ := ux_number (lo := 0) (hi := nI p - 1) B1w (by decide)
    have D1w : ux_Dr p h s n μ1 (tw_si ν1 34 0 (4 + n) (nI v)) := by
      obtain ⟨d1, d2, d3, d4, d5, d6, d7, d8, d9, da, db, dc, dd, de, df, dg⟩ := D1
      refine ⟨d1, d2, d3, d4, d5, d6, d7, d8, ?_, ?_, ?_, ?_, fun j hj => ?_, fun j hj => ?_, fun j hj => ?_, fun j hj => ?_⟩
      · rw [tw_gi_ne (by omega)]; exact d9
      · rw [tw_gi_ne (by omega)]; exact da
      · rw [tw_gi_ne (by omega)]; exact db
      · rw [tw_gi_ne (by omega)]; exact dc
      · rw [tw_gi_ne (by omega)]; exact dd j hj
      · rw [tw_gi_ne (by omega)]; exact de j hj
      · rw [tw_gi_ne (by omega)]; exact df j hj
      · rw [tw_gi_ne (k' := 34) (by omega), tw_gi_ne (k' := 35) (by omega)]; exact dg j hj
    have D2 := D1w.fr f2 g2
    obtain ⟨d1, d2, d3, d4, d5, d6, d7, d8, d9, da, db, dc, dd, de, df, dg⟩ := D2
    have v34 : tw_gi ν2 34 0 (4 + n) = nI v := by
      rw [g2.1 34 0 (4 + n) (by unfold ux_qt; omega), tw_gi_eq]
    have tailm : ∀ (y : Int32), tw_run 115 168 [some (tw_R 6 0), some (tw_I 5), none, none, none] [tw_I y, tw_I (nI (4 + n)), tw_R 35 0] ν2 = some (none, tw_si (tw_si ν2 35 0 (4 + n) y) 6 0 21 (nI (n + 1))) := by
      intro y
      rw [tb_115_168, if_pos jy, cx, tb_115_169, tw_gi_ne (by omega), dc, nI_1, tb_115_222]
    rcases h2 with ⟨w, e2, w1, w2, w3, w4, q1, q2, n1, B2⟩ | ⟨q1, n1, F2⟩
    · have wp : w < p := by
        rw [Int32.le_iff_toInt_le, tn_p1 (by omega), nI_toInt (by omega)] at w2
        omega
      have fd : ux_fr ux_pd μ2 (tw_si (tw_si (tw_si μ2 13 1 n (nI v)) 14 1 n (nI w)) 0 1 8 (nI (n + 1))) := ((ux_fr.rf.si (by unfold ux_pd; omega)).si (by unfold ux_pd; omega)).si (by unfold ux_pd; omega)
      have gd : ux_fr ux_qd ν2 (tw_si (tw_si ν2 35 0 (4 + n) (nI w)) 6 0 21 (nI (n + 1))) := (ux_fr.rf.si (by unfold ux_qd; omega)).si (by unfold ux_qd; omega)
      have D3 : ux_Dr p h s (n + 1) (tw_si (tw_si (tw_si μ2 13 1 n (nI v)) 14 1 n (nI w)) 0 1 8 (nI (n + 1))) (tw_si (tw_si ν2 35 0 (4 + n) (nI w)) 6 0 21 (nI (n + 1))) := by
        refine ⟨d1, d2, d3, by omega, ?_, ?_, ?_, tw_gi_eq, ?_, ?_, ?_, tw_gi_eq, fun j hj => ?_, fun j hj => ?_, fun j hj => ?_, fun j hj => ?_⟩
        · rw [tw_gi_ne (by omega), tw_gi_ne (by omega), tw_gi_ne (by omega)]; exact d5
        · rw [tw_gi_ne (by omega), tw_gi_ne (by omega), tw_gi_ne (by omega)]; exact d6
        · rw [tw_gi_ne (by omega), tw_gi_ne (by omega), tw_gi_ne (by omega)]; exact d7
        · rw [tw_gi_ne (by omega), tw_gi_ne (by omega)]; exact d9
        · rw [tw_gi_ne (by omega), tw_gi_ne (by omega)]; exact da
        · rw [tw_gi_ne (by omega), tw_gi_ne (by omega)]; exact db
        · rw [ux_ne (k' := 10) (by decide), ux_ne (k' := 10) (by decide), ux_ne (k' := 10) (by decide), ux_ne (k' := 31) (by decide), ux_ne (k' := 31) (by decide)]
          exact dd j hj
        · rw [ux_ne (k' := 11) (by decide), ux_ne (k' := 11) (by decide), ux_ne (k' := 11) (by decide), ux_ne (k' := 32) (by decide), ux_ne (k' := 32) (by decide)]
          exact de j hj
        · rw [ux_ne (k' := 12) (by decide), ux_ne (k' := 12) (by decide), ux_ne (k' := 12) (by decide), ux_ne (k' := 33) (by decide), ux_ne (k' := 33) (by decide)]
          exact df j hj
        · rw [ux_ne (k' := 13) (by decide), ux_ne (k' := 13) (by decide), ux_ne (k' := 14) (by decide), ux_ne (k' := 34) (by decide), ux_ne (k' := 34) (by decide), ux_ne (k' := 35) (by decide)]
          by_cases z : j = n
          · subst z
            rw [tw_gi_eq, tw_gi_eq, tw_gi_eq, v34]
            exact ⟨⟨v, v10, rfl⟩, ⟨w, wp, rfl⟩, rfl, rfl⟩
          · rw [tw_gi_ne (k' := 13) (by omega), tw_gi_ne (k' := 14) (by omega), ux_ne (k' := 14) (by decide), tw_gi_ne (k' := 35) (by omega)]
            exact dg j (by omega)
      refine ux_done (B2.fr fd gd) D3 ((ux_lp f1).tr ((ux_lp f2).tr (ux_ld fd))) ((ux_rp g1).tr ((ux_rd gw).tr ((ux_rp g2).tr (ux_rd gd)))) (by omega) (fun r μ' hr hmk => ?_) ?_
      · rw [te_26, tb_26_0, e8, if_neg n4, tb_26_8, r1]
        simp only [Option.bind_some, Option.toList_some, Option.toList_none, List.cons_append, List.nil_append, List.append_nil, tb_26_15]
        rw [if_neg (by decide), tb_26_20, r2, e5, q1]
        simp only [Option.bind_some, Option.toList_some, Option.toList_none, List.cons_append, List.nil_append, List.append_nil, tb_26_36]
        rw [if_neg (by decide), tb_26_41, q2, te_25, tb_25_0, d8, s_put (k := 13) rfl, tw_wr_n (k := 13) (show n < tw_al 13 from hn)]
        simp only [Option.bind_some, Option.toList_some, Option.toList_none, List.cons_append, List.nil_append, List.append_nil, tb_25_12]
        rw [tw_gi_ne (by omega), d8, s_put (k := 14) rfl, tw_wr_n (k := 14) (show n < tw_al 14 from hn)]
        simp only [Option.bind_some, Option.toList_some, Option.toList_none, List.cons_append, List.nil_append, List.append_nil, tb_25_24]
        rw [tw_gi_ne (by omega), tw_gi_ne (by omega), d8, nI_1, tb_26_50, hmk]
        simp only [Option.bind_some, Option.toList_some, Option.toList_none, List.cons_append, List.nil_append, List.append_nil, tb_26_54]
        exact tn_bo hr
      · rw [headm, tb_115_129, m1, e21, ix]
        simp only [Option.bind_some, Option.toList_some, Option.toList_none, List.cons_append, List.nil_append, List.append_nil, tb_115_146]
        rw [if_pos jx, cx, tb_115_147, tw_gi_ne (by omega), e18, tw_gi_ne (by omega), e21', ix, n1]
        simp only [Option.bind_some, Option.toList_some, Option.toList_none, List.cons_append, List.nil_append, List.append_nil]
        exact tailm _
    · have gd : ux_fr ux_qd ν2 (tw_si (tw_si ν2 35 0 (4 + n) 0) 6 0 21 (nI (n + 1))) := (ux_fr.rf.si (by unfold ux_qd; omega)).si (by unfold ux_qd; omega)
      refine ux_bad (F2.fr gd) ((ux_lp f1).tr (ux_lp f2)) ((ux_rp g1).tr ((ux_rd gw).tr ((ux_rp g2).tr (ux_rd gd)))) ?_ ?_
      · rw [te_26, tb_26_0, e8, if_neg n4, tb_26_8, r1]
        simp only [Option.bind_some, Option.toList_some, Option.toList_none, List.cons_append, List.nil_append, List.append_nil, tb_26_15]
        rw [if_neg (by decide), tb_26_20, r2, e5, q1]
        simp only [Option.bind_some, Option.toList_some, Option.toList_none, List.cons_append, List.nil_append, List.append_nil, tb_26_36]
        rw [if_pos trivial, tb_26_39, tn_bo0]
      · rw [headm, tb_115_129, m1, e21, ix]
        simp only [Option.bind_some, Option.toList_some, Option.toList_none, List.cons_append, List.nil_append, List.append_nil, tb_115_146]
        rw [if_pos jx, cx, tb_115_147, tw_gi_ne (by omega), e18, tw_gi_ne (by omega), e21', ix, n1]
        simp only [Option.bind_some, Option.toList_some, Option.toList_none, List.cons_append, List.nil_append, List.append_nil]
        exact tailm _
  · obtain ⟨fs, fs1, fs2, fs3⟩ := id F1
    have e18 : tw_gi ν1 6 0 18 = nI p := D1.2.2.2.2.2.2.2.2.1
    have e21' : tw_gi ν1 6 0 21 = nI n := D1.2.2.2.2.2.2.2.2.2.2.2.1
    have gd : ux_fr ux_qd ν1 (tw_si (tw_si (tw_si ν1 34 0 (4 + n) 0) 35 0 (4 + n) 0) 6 0 21 (nI (n + 1))) := ((ux_fr.rf.si (by unfold ux_qd; omega)).si (by unfold ux_qd; omega)).si (by unfold ux_qd; omega)
    refine ux_bad (F1.fr gd) (ux_lp f1) ((ux_rp g1).tr (ux_rd gd)) ?_ ?_
    · rw [te_26, tb_26_0, e8, if_neg n4, tb_26_8, r1]
      simp only [Option.bind_some, Option.toList_some, Option.toList_none, List.cons_append, List.nil_append, List.append_nil, tb_26_15]
      rw [if_pos trivial, tb_26_18, tn_bo0]
    · rw [headm, tb_115_129, m1, e21, ix]
      simp only [Option.bind_some, Option.toList_some, Option.toList_none, List.cons_append, List.nil_append, List.append_nil, tb_115_146]
      rw [if_pos jx, cx, tb_115_147, tw_gi_ne (k' := 6) (by omega), tw_gi_ne (k' := 6) (by omega), e21', ix, m_numberF (s := fs) (by rw [tw_gi_ne (by omega)]; exact fs3) fs1]
      simp only [Option.bind_some, Option.toList_some, Option.toList_none, List.cons_append, List.nil_append, List.append_nil]
      rw [tb_115_168, if_pos jy, cx, tb_115_169, tw_gi_ne (k' := 6) (by omega), tw_gi_ne (k' := 6) (by omega), e21', nI_1, tb_115_222]
end
