/-! numbers, marks, items, in both -/
def ux_pt (k n j : Nat) : Prop := k = 4 ∧ n = 0 ∧ 2 ≤ j ∧ j ≤ 5
def ux_qt (k _n j : Nat) : Prop := k = 6 ∧ 4 ≤ j ∧ j ≤ 8
/-- both stand before the token from e on; the reference has looked at it -/
def ux_B (b : Nat → Int32) (T e : Nat) (μ ν : tw_M) : Prop := ux_ct b T μ ∧ ux_mt b T ν ∧ tw_gi μ 4 0 3 = nI e ∧ e ≤ T ∧ ux_tm b T e ν ∧ tw_gi ν 6 0 8 = -1
/-- both have met the same fault -/
def ux_F (μ ν : tw_M) : Prop := ∃ s, s ≤ 300 ∧ tw_gi μ 4 0 2 = nI s ∧ tw_gi ν 6 0 8 = nI s
section
variable {b : Nat → Int32} {lo hi : Int32} {μ μ' ν ν' : tw_M} {x y z u v A l : Int32} {s k p h j t w n P H S N C T i a m F e d E : Nat}
theorem ux_ct.pt (c : ux_ct b T μ) (f : ux_fr ux_pt μ μ') : ux_ct b T μ' := c.fr (f.1 4 0 1 (by unfold ux_pt; omega)) (fun j => f.1 20 0 j (by unfold ux_pt; omega))
theorem ux_mt.qt (c : ux_mt b T ν) (f : ux_fr ux_qt ν ν') : ux_mt b T ν' := c.fr (f.1 6 0 3 (by unfold ux_qt; omega)) (fun j => f.1 30 0 j (by unfold ux_qt; omega))
theorem m_well1 (h : tw_gi ν 6 0 8 = -1) : tw_call 111 [tw_R 6 0] ν = some (some (tw_I 1), ν) := by
  rw [te_111, tb_111_0, h, if_neg (by decide), tb_111_7, tb_111_12, tn_bo1]
theorem m_well0 (h : tw_gi ν 6 0 8 = nI s) (hs : s ≤ 300) : tw_call 111 [tw_R 6 0] ν = some (some (tw_I 0), ν) := by
  rw [te_111, tb_111_0, h, if_pos (nI_pos' (by omega)), tb_111_11, tb_111_12, tn_bo0]
theorem m_takesF (h : tw_gi ν 6 0 8 = nI s) (hs : s ≤ 300) : tw_call 113 [tw_R 6 0, tw_I x] ν = some (some (tw_I 0), ν) := by
  rw [te_113, tb_113_0, m_well0 h hs]
  simp only [Option.bind_some, Option.toList_some, Option.toList_none, List.cons_append, List.nil_append, List.append_nil, tb_113_4]
  rw [if_pos trivial, tb_113_7]
theorem m_takes0 (h : tw_gi ν 6 0 8 = -1) : tw_call 113 [tw_R 6 0, tw_I 0] ν = some (some (tw_I 0), tw_si ν 6 0 8 (tw_gi ν 6 0 6)) := by
  rw [te_113, tb_113_0, m_well1 h]
  simp only [Option.bind_some, Option.toList_some, Option.toList_none, List.cons_append, List.nil_append, List.append_nil, tb_113_4]
  rw [if_neg (by decide), tb_113_9, if_pos rfl, tb_113_13]
theorem m_takes1 (c : ux_mt b T ν) (h : tw_gi ν 6 0 8 = -1) (h4 : tw_gi ν 6 0 4 = nI e) (he : e ≤ T) : ∃ ν', tw_call 113 [tw_R 6 0, tw_I 1] ν = some (some (tw_I (tw_gi ν 6 0 7)), ν') ∧ ux_fr ux_qt ν ν' ∧ ux_tm b T e ν' ∧ tw_gi ν' 6 0 8 = -1 := by
  obtain ⟨ν', t1, t2, t3⟩ := m_adv c he h4
  refine ⟨ν', ?_, t2.mo (fun k n j q => by unfold ux_qt; omega), t3, by rw [t2.1 6 0 8 (by omega)]; exact h⟩
  rw [te_113, tb_113_0, m_well1 h]
  simp only [Option.bind_some, Option.toList_some, Option.toList_none, List.cons_append, List.nil_append, List.append_nil, tb_113_4]
  rw [if_neg (by decide), tb_113_9, if_neg (by decide), tb_113_23, t1]
  simp only [Option.bind_some, Option.toList_some, Option.toList_none, List.cons_append, List.nil_append, List.append_nil, tb_113_32]
theorem m_numberF (h : tw_gi ν 6 0 8 = nI s) (hs : s ≤ 300) : tw_call 114 [tw_R 6 0, tw_I x, tw_I y] ν = some (some (tw_I 0), ν) := by
  have fin : ∀ v : Int32, tw_run 114 26 [some (tw_R 6 0), some (tw_I x), some (tw_I y)] [tw_I v, tw_R 6 0] ν = some (some (tw_I 0), ν) := by
    intro v
    rw [tb_114_26, m_takesF h hs]
    simp only [Option.bind_some, Option.toList_some, Option.toList_none, List.cons_append, List.nil_append, List.append_nil, tb_114_29]
  rw [te_114, tb_114_0]
  by_cases z : tw_gi ν 6 0 5 = 2
  · rw [if_pos z, tb_114_9, m_inr]
    simp only [Option.bind_some, Option.toList_some, Option.toList_none, List.cons_append, List.nil_append, List.append_nil, tb_114_18]
    by_cases q : x ≤ tw_gi ν 6 0 7 ∧ tw_gi ν 6 0 7 ≤ y
    · rw [if_pos (show x ≤ tw_gi ν 6 0 7 ∧ tw_gi ν 6 0 7 ≤ y from q), if_neg (show ¬ (1 : Int32) = 0 by decide), tb_114_21]
      exact fin 1
    · rw [if_neg (show ¬ (x ≤ tw_gi ν 6 0 7 ∧ tw_gi ν 6 0 7 ≤ y) from q), if_pos (show (0 : Int32) = 0 from rfl), tb_114_25]
      exact fin 0
  · rw [if_neg z, tb_114_25]
    exact fin 0
/-- a number is read -/
theorem ux_number (B : ux_B b T e μ ν) (h0 : 0 ≤ lo) : ∃ μ' ν', ux_fr ux_pt μ μ' ∧ ux_fr ux_qt ν ν' ∧
    ((∃ v e', lo ≤ nI v ∧ nI v ≤ hi ∧ v < 100 ∧ e < e' ∧ tw_call 17 [tw_R 4 0, tw_I lo, tw_I hi] μ = some (some (tw_I 1), μ') ∧ tw_gi μ' 4 0 5 = nI v ∧ tw_call 114 [tw_R 6 0, tw_I lo, tw_I hi] ν = some (some (tw_I (nI v)), ν') ∧ ux_B b T e' μ' ν') ∨
     (tw_call 17 [tw_R 4 0, tw_I lo, tw_I hi] μ = some (some (tw_I 0), μ') ∧ tw_call 114 [tw_R 6 0, tw_I lo, tw_I hi] ν = some (some (tw_I 0), ν') ∧ ux_F μ' ν')) := by
  obtain ⟨c, cm, h3, he, tm, hw⟩ := B
  have hT := c.1
  obtain ⟨hs1, hs2⟩ := ux_sk_le (b := b) he
  obtain ⟨μ1, a1, a2, a3, a4, a5⟩ := s_next c he h3
  have fa : ux_fr ux_pt μ μ1 := a2.mo (fun k n j q => by unfold ux_pt; omega)
  have c1 : ux_ct b T μ1 := c.pt fa
  obtain ⟨t6, t0, t4, tw, td, tq3, tq4⟩ := tm
  have tk := ux_tk (b := b) he
  have ed := ux_ed_le (b := b) he
  obtain ⟨s, hs⟩ : ∃ s, s = ux_sk b T e := ⟨_, rfl⟩
  obtain ⟨E, hE⟩ : ∃ E, E = ux_ed b T e := ⟨_, rfl⟩
  obtain ⟨K, hK⟩ : ∃ K, K = ux_kd b T e := ⟨_, rfl⟩
  rw [← hs] at hs1 hs2 t6 tw td tk ed a3
  rw [← hE] at t4 tw td tk ed a4
  rw [← hK] at t0 t4 tw td tq3 tq4 tk a5
  -- the class's way on, with the value
  have cls : ∀ V : Int32, tw_run 17 21 [some (tw_R 4 0), some (tw_I lo), some (tw_I hi)] [tw_I V, tw_R 4 0] μ1 = some (some (tw_I (if lo ≤ V ∧ V ≤ hi then 1 else 0)), tw_si μ1 4 0 5 V) := by
    intro V
    rw [tb_17_21, tw_gi_eq]
    by_cases z1 : lo ≤ V
    · rw [if_neg (tn_l1 z1), tb_17_32, tw_gi_eq]
      by_cases z2 : V ≤ hi
      · rw [if_neg (tn_l1 z2), tb_17_40, tb_17_45, tn_bo1, if_pos ⟨z1, z2⟩]
      · rw [if_pos (tn_l2 z2), tb_17_44, tb_17_45, tn_bo0, if_neg (fun q => z2 q.2)]
    · rw [if_pos (tn_l2 z1), tb_17_44, tb_17_45, tn_bo0, if_neg (fun q => z1 q.1)]
  have m1neg : ¬ lo ≤ (-1 : Int32) := by
    rw [Int32.le_iff_toInt_le] at h0 ⊢
    have : (0 : Int32).toInt = 0 := rfl
    have : (-1 : Int32).toInt = -1 := rfl
    omega
  -- a fault
  have bad : ∀ V : Int32, ¬ (lo ≤ V ∧ V ≤ hi) → (tw_call 17 [tw_R 4 0, tw_I lo, tw_I hi] μ = tw_run 17 21 [some (tw_R 4 0), some (tw_I lo), some (tw_I hi)] [tw_I V, tw_R 4 0] μ1) → (tw_call 114 [tw_R 6 0, tw_I lo, tw_I hi] ν = tw_run 114 26 [some (tw_R 6 0), some (tw_I lo), some (tw_I hi)] [tw_I 0, tw_R 6 0] ν) →
      ∃ μ' ν', ux_fr ux_pt μ μ' ∧ ux_fr ux_qt ν ν' ∧
      ((∃ v e', lo ≤ nI v ∧ nI v ≤ hi ∧ v < 100 ∧ e < e' ∧ tw_call 17 [tw_R 4 0, tw_I lo, tw_I hi] μ = some (some (tw_I 1), μ') ∧ tw_gi μ' 4 0 5 = nI v ∧ tw_call 114 [tw_R 6 0, tw_I lo, tw_I hi] ν = some (some (tw_I (nI v)), ν') ∧ ux_B b T e' μ' ν') ∨
       (tw_call 17 [tw_R 4 0, tw_I lo, tw_I hi] μ = some (some (tw_I 0), μ') ∧ tw_call 114 [tw_R 6 0, tw_I lo, tw_I hi] ν = some (some (tw_I 0), ν') ∧ ux_F μ' ν')) := by
    intro V hV g1 g2
    refine ⟨tw_si μ1 4 0 5 V, tw_si ν 6 0 8 (nI s), fa.si (by unfold ux_pt; omega), ux_fr.rf.si (by unfold ux_qt; omega), Or.inr ⟨?_, ?_, s, by omega, ?_, tw_gi_eq⟩⟩
    · rw [g1, cls, if_neg hV]
    · rw [g2, tb_114_26, m_takes0 hw, t6]
      simp only [Option.bind_some, Option.toList_some, Option.toList_none, List.cons_append, List.nil_append, List.append_nil, tb_114_29]
    · rw [tw_gi_ne (by omega), a3]
  have cm1 : ∀ n : Int32, ¬ nI K = (2 : Int32) → tw_call 17 [tw_R 4 0, tw_I lo, tw_I hi] μ = tw_run 17 21 [some (tw_R 4 0), some (tw_I lo), some (tw_I hi)] [tw_I (-1), tw_R 4 0] μ1 := by
    intro _ hk
    rw [te_17, tb_17_0, a1]
    simp only [Option.bind_some, Option.toList_some, Option.toList_none, List.cons_append, List.nil_append, List.append_nil, tb_17_4]
    rw [a5, if_neg hk, tb_17_20]
  have m25 : ¬ tw_gi ν 6 0 5 = 2 → tw_call 114 [tw_R 6 0, tw_I lo, tw_I hi] ν = tw_run 114 26 [some (tw_R 6 0), some (tw_I lo), some (tw_I hi)] [tw_I 0, tw_R 6 0] ν := by
    intro q
    rw [te_114, tb_114_0, if_neg q, tb_114_25]
  by_cases k2 : K = 2
  · obtain ⟨d1, d2, d3⟩ := td k2
    have sT : s < T := by
      rcases tk with ⟨k, z⟩ | ⟨z, _⟩
      · omega
      · exact z
    obtain ⟨ed1, ed2⟩ := ed sT
    have hdig : ∀ j, j < E - s → ∃ g, g < 10 ∧ b (s + j) = nI (48 + g) := by
      intro j hj
      have eE : E = ux_er b 48 57 (T - s) s := by
        rcases tk with ⟨k, z⟩ | ⟨z, ⟨k, q1, q2, q3⟩ | ⟨k, q1, q2, q3, q4⟩ | ⟨k, q1, q2, q3, q4⟩ | ⟨k, q1, q2, q3, q4⟩⟩
        · omega
        · omega
        · exact q4
        · omega
        · omega
      have q := ux_er_in (b := b) (lo := 48) (hi := 57) (T - s) s (s + j) (by omega) (by rw [← eE]; omega)
      obtain ⟨g, hg, eg⟩ := (cm.2.2 (s + j) (by omega)).2
      rw [eg] at q
      have q1 := (nI_leI (a := 48) (by omega) (by omega)).mp q.1
      have q2 := (nI_leI (b := 57) (by omega) (by omega)).mp q.2
      exact ⟨g - 48, by omega, by rw [eg]; congr 1; omega⟩
    have sh := s_short c1 a3 a4 ed1 ed2 hdig
    have g1 : tw_call 17 [tw_R 4 0, tw_I lo, tw_I hi] μ = tw_run 17 21 [some (tw_R 4 0), some (tw_I lo), some (tw_I hi)] [tw_I (if 99 < ux_ac b s (E - s) ∨ (b s = 48 ∧ 1 < E - s) then -1 else nI (ux_ac b s (E - s))), tw_R 4 0] μ1 := by
      rw [te_17, tb_17_0, a1]
      simp only [Option.bind_some, Option.toList_some, Option.toList_none, List.cons_append, List.nil_append, List.append_nil, tb_17_4]
      rw [a5, k2, if_pos (show nI 2 = (2 : Int32) from rfl), tb_17_13, sh]
      simp only [Option.bind_some, Option.toList_some, Option.toList_none, List.cons_append, List.nil_append, List.append_nil, tb_17_17]
    by_cases wr : 99 < ux_ac b s (E - s) ∨ (b s = 48 ∧ 1 < E - s)
    · rw [if_pos wr] at g1 d3
      exact bad (-1) (fun q => m1neg q.1) g1 (m25 (by rw [d3]; decide))
    · rw [if_neg wr] at g1 d3
      obtain ⟨V, hV⟩ : ∃ V, V = ux_ac b s (E - s) := ⟨_, rfl⟩
      have v100 : V < 100 := by
        rw [hV]
        exact Nat.lt_of_not_le (fun q => wr (Or.inl q))
      rw [← hV] at g1 d1
      by_cases rg : lo ≤ nI V ∧ nI V ≤ hi
      · obtain ⟨ν1, b1, b2, b3, b4⟩ := m_takes1 (e := E) cm hw (t4 (by omega)) ed2
        refine ⟨tw_si μ1 4 0 5 (nI V), ν1, fa.si (by unfold ux_pt; omega), b2, Or.inl ⟨V, E, rg.1, rg.2, v100, by omega, ?_, tw_gi_eq, ?_, ?_⟩⟩
        · rw [g1, cls, if_pos rg]
        · rw [te_114, tb_114_0, d3, if_pos rfl, tb_114_9, d1, m_inr]
          simp only [Option.bind_some, Option.toList_some, Option.toList_none, List.cons_append, List.nil_append, List.append_nil, tb_114_18]
          rw [if_pos (show lo ≤ nI V ∧ nI V ≤ hi from rg), if_neg (show ¬ (1 : Int32) = 0 by decide), tb_114_21, tb_114_26, b1, d1]
          simp only [Option.bind_some, Option.toList_some, Option.toList_none, List.cons_append, List.nil_append, List.append_nil, tb_114_29]
        · exact ⟨c.pt (fa.si (by unfold ux_pt; omega)), cm.qt b2, by rw [tw_gi_ne (by omega), a4], ed2, b3, b4⟩
      · refine bad (nI V) rg g1 ?_
        rw [te_114, tb_114_0, d3, if_pos rfl, tb_114_9, d1, m_inr]
        simp only [Option.bind_some, Option.toList_some, Option.toList_none, List.cons_append, List.nil_append, List.append_nil, tb_114_18]
        rw [if_neg (show ¬ (lo ≤ nI V ∧ nI V ≤ hi) from rg), if_pos (show (0 : Int32) = 0 from rfl), tb_114_25]
  · have kl : K ≤ 4 := by
      rcases tk with ⟨k, z⟩ | ⟨z, ⟨k, q1, q2, q3⟩ | ⟨k, q1, q2, q3, q4⟩ | ⟨k, q1, q2, q3, q4⟩ | ⟨k, q1, q2, q3, q4⟩⟩ <;> omega
    refine bad (-1) (fun q => m1neg q.1) (cm1 0 (fun q => k2 ((nI_eq (b := 2) (by omega) (by omega)).mp q))) (m25 ?_)
    rcases tk with ⟨k, z⟩ | ⟨z, ⟨k, q1, q2, q3⟩ | ⟨k, q1, q2, q3, q4⟩ | ⟨k, q1, q2, q3, q4⟩ | ⟨k, q1, q2, q3, q4⟩⟩
    · rw [t0 k]; decide
    · rw [(tw k).2]
      split <;> decide
    · exact absurd k k2
    · rw [tq3 k]; decide
    · rw [tq4 k]; decide
/-- a mark is read, and the reference goes on -/
theorem ux_mark (B : ux_B b T e μ ν) {o2 : Option tw_V} : ∃ μ' ν' r, ux_fr ux_pt μ μ' ∧ ux_fr ux_qt ν ν' ∧ tw_call 19 [tw_R 4 0] μ = some (some (tw_I r), μ') ∧
    (∀ x1 : Int32, tw_run 116 96 [some (tw_R 6 0), some (tw_I x1), o2] [] ν = tw_run 116 41 [some (tw_R 6 0), some (tw_I (x1 + 1)), o2] [] ν') ∧
    ((r = 1 ∧ ∃ e', e < e' ∧ ux_B b T e' μ' ν') ∨ (r = 0 ∧ ux_F μ' ν')) := by
  obtain ⟨c, cm, h3, he, tm, hw⟩ := B
  have hT := c.1
  obtain ⟨hs1, hs2⟩ := ux_sk_le (b := b) he
  obtain ⟨μ1, a1, a2, a3, a4, a5⟩ := s_next c he h3
  have fa : ux_fr ux_pt μ μ1 := a2.mo (fun k n j q => by unfold ux_pt; omega)
  obtain ⟨t6, t0, t4, tw, td, tq3, tq4⟩ := tm
  have tk := ux_tk (b := b) he
  have ed := ux_ed_le (b := b) he
  by_cases k3 : ux_kd b T e = 3
  · have sT : ux_sk b T e < T := by
      rcases tk with ⟨k, z⟩ | ⟨z, _⟩
      · omega
      · exact z
    obtain ⟨ed1, ed2⟩ := ed sT
    obtain ⟨ν1, b1, b2, b3, b4⟩ := m_takes1 (e := ux_ed b T e) cm hw (t4 (by omega)) ed2
    refine ⟨μ1, ν1, 1, fa, b2, ?_, fun x1 => ?_, Or.inl ⟨rfl, ux_ed b T e, by omega, c.pt fa, cm.qt b2, a4, ed2, b3, b4⟩⟩
    · rw [te_19, tb_19_0, a1]
      simp only [Option.bind_some, Option.toList_some, Option.toList_none, List.cons_append, List.nil_append, List.append_nil, tb_19_4]
      rw [a5, k3, if_pos (show nI 3 = (3 : Int32) from rfl), tb_19_12, tb_19_17, tn_bo1]
    · rw [tb_116_96, tq3 k3, if_pos rfl, tb_116_105, tb_116_110, b1]
      simp only [Option.bind_some, Option.toList_some, Option.toList_none, List.cons_append, List.nil_append, List.append_nil, tb_116_113]
  · have kl : ux_kd b T e ≤ 4 := by
      rcases tk with ⟨k, z⟩ | ⟨z, ⟨k, q1, q2, q3⟩ | ⟨k, q1, q2, q3, q4⟩ | ⟨k, q1, q2, q3, q4⟩ | ⟨k, q1, q2, q3, q4⟩⟩ <;> omega
    have n3 : ¬ tw_gi ν 6 0 5 = 3 := by
      rcases tk with ⟨k, z⟩ | ⟨z, ⟨k, q1, q2, q3⟩ | ⟨k, q1, q2, q3, q4⟩ | ⟨k, q1, q2, q3, q4⟩ | ⟨k, q1, q2, q3, q4⟩⟩
      · rw [t0 k]; decide
      · rw [(tw k).2]
        split <;> decide
      · rw [(td k).2.2]
        split <;> decide
      · exact absurd k k3
      · rw [tq4 k]; decide
    refine ⟨μ1, tw_si ν 6 0 8 (nI (ux_sk b T e)), 0, fa, ux_fr.rf.si (by unfold ux_qt; omega), ?_, fun x1 => ?_, Or.inr ⟨rfl, _, by omega, a3, tw_gi_eq⟩⟩
    · rw [te_19, tb_19_0, a1]
      simp only [Option.bind_some, Option.toList_some, Option.toList_none, List.cons_append, List.nil_append, List.append_nil, tb_19_4]
      rw [a5, if_neg (show ¬ nI (ux_kd b T e) = (3 : Int32) from fun q => k3 ((nI_eq (b := 3) (by omega) (by omega)).mp q)), tb_19_16, tb_19_17, tn_bo0]
    · rw [tb_116_96, if_neg n3, tb_116_109, tb_116_110, m_takes0 hw, t6]
      simp only [Option.bind_some, Option.toList_some, Option.toList_none, List.cons_append, List.nil_append, List.append_nil, tb_116_113]
theorem m_markF (h : tw_gi ν 6 0 8 = nI s) (hs : s ≤ 300) {o2 : Option tw_V} : tw_run 116 96 [some (tw_R 6 0), some (tw_I x), o2] [] ν = tw_run 116 41 [some (tw_R 6 0), some (tw_I (x + 1)), o2] [] ν := by
  rw [tb_116_96]
  by_cases z : tw_gi ν 6 0 5 = 3
  · rw [if_pos z, tb_116_105, tb_116_110, m_takesF h hs]
    simp only [Option.bind_some, Option.toList_some, Option.toList_none, List.cons_append, List.nil_append, List.append_nil, tb_116_113]
  · rw [if_neg z, tb_116_109, tb_116_110, m_takesF h hs]
    simp only [Option.bind_some, Option.toList_some, Option.toList_none, List.cons_append, List.nil_append, List.append_nil, tb_116_113]
end
