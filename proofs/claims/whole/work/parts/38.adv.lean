/-! the reference's tokens -/
/-- a word as a number; what a row of figures tells -/
def ux_pk (b : Nat → Int32) (s : Nat) : Nat → Nat
  | 0 => 0
  | n + 1 => 256 * ux_pk b s n + (b (s + n)).toNatClampNeg
def ux_ac (b : Nat → Int32) (s : Nat) : Nat → Nat
  | 0 => 0
  | n + 1 => if 99 < ux_ac b s n then ux_ac b s n else 10 * ux_ac b s n + ((b (s + n)).toNatClampNeg - 48)
def ux_wo (v : Nat) : Int32 := if v = 482854658917 then 0 else if v = 440006570868 then 1 else if v = 2002874989 then 2 else if v = 1668246628 then 3 else if v = 495791205988 then 4 else if v = 123581014175598 then 5 else -9
section
variable {b : Nat → Int32} {lo hi : Int32} {μ μ' ν ν' : tw_M} {x y z u v A l : Int32} {s k p h j t w n P H S N C T i a m F e d : Nat}
theorem ux_pk_lt (hb : ∀ i, i < n → (b (s + i)).toNatClampNeg < 256) : ux_pk b s n < 256 ^ n := by
  induction n with
  | zero => rw [ux_pk]; decide
  | succ n ih =>
    have := ih (fun i hi => hb i (by omega))
    have h2 := hb n (by omega)
    rw [ux_pk, Nat.pow_succ]
    omega
theorem m_add0 {V : Int64} : tw_call 107 [tw_J V, tw_I 0] ν = some (some (tw_J V), ν) := by
  rw [te_107, tb_107_0, if_pos rfl, tb_107_4, tb_107_16]
theorem m_addn {V : Nat} {c : Nat} (h0 : 0 < c) (hc : c < 2 ^ 31) : tw_call 107 [tw_J (lN V), tw_I (nI c)] ν = some (some (tw_J (lN (256 * V + c))), ν) := by
  rw [te_107, tb_107_0, if_neg (nI_ne0 h0 hc), tb_107_8, tb_107_16, nI_l hc, show (256 : Int64) = lN 256 from rfl, lN_mul, lN_add]
theorem tn_cmpE {a c : Nat} (ha : a < 2 ^ 63) (hc : c < 2 ^ 63) : (lg_cmp (lN a) (lN c) = 0) = (a = c) := by
  apply propext
  unfold lg_cmp
  by_cases z : a = c
  · subst z
    rw [if_neg (fun q => absurd ((pk_lLT ha ha).mp q) (Nat.lt_irrefl _)), if_pos rfl]
    exact ⟨fun _ => rfl, fun _ => rfl⟩
  · by_cases z2 : c < a
    · rw [if_pos (show lN a > lN c from (pk_lLT hc ha).mpr z2)]
      exact ⟨fun q => absurd q (by decide), fun q => absurd q z⟩
    · rw [if_neg (fun q => z2 ((pk_lLT hc ha).mp q)), if_neg (fun q => z ((pk_lEQ ha hc).mp q))]
      exact ⟨fun q => absurd q (by decide), fun q => absurd q z⟩
theorem m_named5 {c1 c2 c3 c4 c5 : Nat} (h1 : 0 < c1) (h2 : 0 < c2) (h3 : 0 < c3) (h4 : 0 < c4) (h5 : 0 < c5) (g1 : c1 < 256) (g2 : c2 < 256) (g3 : c3 < 256) (g4 : c4 < 256) (g5 : c5 < 256) : tw_call 108 [tw_I (nI c1), tw_I (nI c2), tw_I (nI c3), tw_I (nI c4), tw_I (nI c5), tw_I 0] ν = some (some (tw_J (lN (256 * (256 * (256 * (256 * (256 * 0 + c1) + c2) + c3) + c4) + c5))), ν) := by
  rw [te_108, tb_108_0, show (0 : Int64) = lN 0 from rfl, m_addn h1 (by omega)]
  simp only [Option.bind_some, Option.toList_some, Option.toList_none, List.cons_append, List.nil_append, List.append_nil, tb_108_5]
  rw [m_addn h2 (by omega)]
  simp only [Option.bind_some, Option.toList_some, Option.toList_none, List.cons_append, List.nil_append, List.append_nil, tb_108_9]
  rw [m_addn h3 (by omega)]
  simp only [Option.bind_some, Option.toList_some, Option.toList_none, List.cons_append, List.nil_append, List.append_nil, tb_108_13]
  rw [m_addn h4 (by omega)]
  simp only [Option.bind_some, Option.toList_some, Option.toList_none, List.cons_append, List.nil_append, List.append_nil, tb_108_17]
  rw [m_addn h5 (by omega)]
  simp only [Option.bind_some, Option.toList_some, Option.toList_none, List.cons_append, List.nil_append, List.append_nil, tb_108_22]
  rw [m_add0]
  simp only [Option.bind_some, Option.toList_some, Option.toList_none, List.cons_append, List.nil_append, List.append_nil, tb_108_27]
theorem m_named4 {c1 c2 c3 c4 : Nat} (h1 : 0 < c1) (h2 : 0 < c2) (h3 : 0 < c3) (h4 : 0 < c4) (g1 : c1 < 256) (g2 : c2 < 256) (g3 : c3 < 256) (g4 : c4 < 256) : tw_call 108 [tw_I (nI c1), tw_I (nI c2), tw_I (nI c3), tw_I (nI c4), tw_I 0, tw_I 0] ν = some (some (tw_J (lN (256 * (256 * (256 * (256 * 0 + c1) + c2) + c3) + c4))), ν) := by
  rw [te_108, tb_108_0, show (0 : Int64) = lN 0 from rfl, m_addn h1 (by omega)]
  simp only [Option.bind_some, Option.toList_some, Option.toList_none, List.cons_append, List.nil_append, List.append_nil, tb_108_5]
  rw [m_addn h2 (by omega)]
  simp only [Option.bind_some, Option.toList_some, Option.toList_none, List.cons_append, List.nil_append, List.append_nil, tb_108_9]
  rw [m_addn h3 (by omega)]
  simp only [Option.bind_some, Option.toList_some, Option.toList_none, List.cons_append, List.nil_append, List.append_nil, tb_108_13]
  rw [m_addn h4 (by omega)]
  simp only [Option.bind_some, Option.toList_some, Option.toList_none, List.cons_append, List.nil_append, List.append_nil, tb_108_17]
  rw [m_add0]
  simp only [Option.bind_some, Option.toList_some, Option.toList_none, List.cons_append, List.nil_append, List.append_nil, tb_108_22]
  rw [m_add0]
  simp only [Option.bind_some, Option.toList_some, Option.toList_none, List.cons_append, List.nil_append, List.append_nil, tb_108_27]
theorem m_named6 {c1 c2 c3 c4 c5 c6 : Nat} (h1 : 0 < c1) (h2 : 0 < c2) (h3 : 0 < c3) (h4 : 0 < c4) (h5 : 0 < c5) (h6 : 0 < c6) (g1 : c1 < 256) (g2 : c2 < 256) (g3 : c3 < 256) (g4 : c4 < 256) (g5 : c5 < 256) (g6 : c6 < 256) : tw_call 108 [tw_I (nI c1), tw_I (nI c2), tw_I (nI c3), tw_I (nI c4), tw_I (nI c5), tw_I (nI c6)] ν = some (some (tw_J (lN (256 * (256 * (256 * (256 * (256 * (256 * 0 + c1) + c2) + c3) + c4) + c5) + c6))), ν) := by
  rw [te_108, tb_108_0, show (0 : Int64) = lN 0 from rfl, m_addn h1 (by omega)]
  simp only [Option.bind_some, Option.toList_some, Option.toList_none, List.cons_append, List.nil_append, List.append_nil, tb_108_5]
  rw [m_addn h2 (by omega)]
  simp only [Option.bind_some, Option.toList_some, Option.toList_none, List.cons_append, List.nil_append, List.append_nil, tb_108_9]
  rw [m_addn h3 (by omega)]
  simp only [Option.bind_some, Option.toList_some, Option.toList_none, List.cons_append, List.nil_append, List.append_nil, tb_108_13]
  rw [m_addn h4 (by omega)]
  simp only [Option.bind_some, Option.toList_some, Option.toList_none, List.cons_append, List.nil_append, List.append_nil, tb_108_17]
  rw [m_addn h5 (by omega)]
  simp only [Option.bind_some, Option.toList_some, Option.toList_none, List.cons_append, List.nil_append, List.append_nil, tb_108_22]
  rw [m_addn h6 (by omega)]
  simp only [Option.bind_some, Option.toList_some, Option.toList_none, List.cons_append, List.nil_append, List.append_nil, tb_108_27]
theorem m_wordOf {V : Nat} (hV : V < 2 ^ 63) : tw_call 109 [tw_J (lN V)] ν = some (some (tw_I (ux_wo V)), ν) := by
  have n0 : tw_call 108 [tw_I 112, tw_I 108, tw_I 97, tw_I 99, tw_I 101, tw_I 0] ν = some (some (tw_J (lN 482854658917)), ν) := m_named5 (c1 := 112) (c2 := 108) (c3 := 97) (c4 := 99) (c5 := 101) (by omega) (by omega) (by omega) (by omega) (by omega) (by omega) (by omega) (by omega) (by omega) (by omega)
  have n1 : tw_call 108 [tw_I 102, tw_I 114, tw_I 111, tw_I 115, tw_I 116, tw_I 0] ν = some (some (tw_J (lN 440006570868)), ν) := m_named5 (c1 := 102) (c2 := 114) (c3 := 111) (c4 := 115) (c5 := 116) (by omega) (by omega) (by omega) (by omega) (by omega) (by omega) (by omega) (by omega) (by omega) (by omega)
  have n2 : tw_call 108 [tw_I 119, tw_I 97, tw_I 114, tw_I 109, tw_I 0, tw_I 0] ν = some (some (tw_J (lN 2002874989)), ν) := m_named4 (c1 := 119) (c2 := 97) (c3 := 114) (c4 := 109) (by omega) (by omega) (by omega) (by omega) (by omega) (by omega) (by omega) (by omega)
  have n3 : tw_call 108 [tw_I 99, tw_I 111, tw_I 108, tw_I 100, tw_I 0, tw_I 0] ν = some (some (tw_J (lN 1668246628)), ν) := m_named4 (c1 := 99) (c2 := 111) (c3 := 108) (c4 := 100) (by omega) (by omega) (by omega) (by omega) (by omega) (by omega) (by omega) (by omega)
  have n4 : tw_call 108 [tw_I 115, tw_I 111, tw_I 117, tw_I 110, tw_I 100, tw_I 0] ν = some (some (tw_J (lN 495791205988)), ν) := m_named5 (c1 := 115) (c2 := 111) (c3 := 117) (c4 := 110) (c5 := 100) (by omega) (by omega) (by omega) (by omega) (by omega) (by omega) (by omega) (by omega) (by omega) (by omega)
  have n5 : tw_call 108 [tw_I 112, tw_I 101, tw_I 114, tw_I 115, tw_I 111, tw_I 110] ν = some (some (tw_J (lN 123581014175598)), ν) := m_named6 (c1 := 112) (c2 := 101) (c3 := 114) (c4 := 115) (c5 := 111) (c6 := 110) (by omega) (by omega) (by omega) (by omega) (by omega) (by omega) (by omega) (by omega) (by omega) (by omega) (by omega) (by omega)
  rw [te_109, tb_109_0, n0]
  unfold ux_wo
  simp only [Option.bind_some, Option.toList_some, Option.toList_none, List.cons_append, List.nil_append, List.append_nil, tb_109_15, tn_cmpE hV (show 482854658917 < 2 ^ 63 by omega)]
  by_cases z0 : V = 482854658917
  · rw [if_pos z0, if_pos z0, tb_109_19, tb_109_70, if_neg (by decide), tb_109_77]
  · rw [if_neg z0, if_neg z0, tb_109_23, n1]
    simp only [Option.bind_some, Option.toList_some, Option.toList_none, List.cons_append, List.nil_append, List.append_nil, tb_109_38, tn_cmpE hV (show 440006570868 < 2 ^ 63 by omega)]
    by_cases z1 : V = 440006570868
    · rw [if_pos z1, if_pos z1, tb_109_42, tb_109_70, if_neg (by decide), tb_109_77]
    · rw [if_neg z1, if_neg z1, tb_109_46, n2]
      simp only [Option.bind_some, Option.toList_some, Option.toList_none, List.cons_append, List.nil_append, List.append_nil, tb_109_60, tn_cmpE hV (show 2002874989 < 2 ^ 63 by omega)]
      by_cases z2 : V = 2002874989
      · rw [if_pos z2, if_pos z2, tb_109_64, tb_109_70, if_neg (by decide), tb_109_77]
      · rw [if_neg z2, if_neg z2, tb_109_68, tb_109_70, if_pos rfl, tb_109_79, n3]
        simp only [Option.bind_some, Option.toList_some, Option.toList_none, List.cons_append, List.nil_append, List.append_nil, tb_109_93, tn_cmpE hV (show 1668246628 < 2 ^ 63 by omega)]
        by_cases z3 : V = 1668246628
        · rw [if_pos z3, if_pos z3, tb_109_97, tb_109_150]
        · rw [if_neg z3, if_neg z3, tb_109_101, n4]
          simp only [Option.bind_some, Option.toList_some, Option.toList_none, List.cons_append, List.nil_append, List.append_nil, tb_109_116, tn_cmpE hV (show 495791205988 < 2 ^ 63 by omega)]
          by_cases z4 : V = 495791205988
          · rw [if_pos z4, if_pos z4, tb_109_120, tb_109_150]
          · rw [if_neg z4, if_neg z4, tb_109_124, n5]
            simp only [Option.bind_some, Option.toList_some, Option.toList_none, List.cons_append, List.nil_append, List.append_nil, tb_109_140, tn_cmpE hV (show 123581014175598 < 2 ^ 63 by omega)]
            by_cases z5 : V = 123581014175598
            · rw [if_pos z5, if_pos z5, tb_109_144, tb_109_150]
            · rw [if_neg z5, if_neg z5, tb_109_148, tb_109_150]
/-- the reference's text -/
def ux_mt (b : Nat → Int32) (T : Nat) (ν : tw_M) : Prop := T ≤ 300 ∧ tw_gi ν 6 0 3 = nI T ∧ ∀ j, j < T → tw_gi ν 30 0 j = b j ∧ tw_bd (b j) 256
theorem ux_mt.fr (c : ux_mt b T ν) (f1 : tw_gi ν' 6 0 3 = tw_gi ν 6 0 3) (f2 : ∀ j, tw_gi ν' 30 0 j = tw_gi ν 30 0 j) : ux_mt b T ν' :=
  ⟨c.1, f1.trans c.2.1, fun j hj => ⟨(f2 j).trans (c.2.2 j hj).1, (c.2.2 j hj).2⟩⟩
theorem ux_mt.si (c : ux_mt b T ν) (hw : w ≠ 3) : ux_mt b T (tw_si ν 6 0 w v) := c.fr (by rw [tw_gi_ne (by omega)]) (fun j => by rw [tw_gi_ne (by omega)])
theorem m_byte (c : ux_mt b T ν) (hj : j < T) : tw_call 106 [tw_R 6 0, tw_I (nI j)] ν = some (some (tw_I (b j)), ν) := by
  have hT := c.1
  rw [te_106, tb_106_0, c.2.1, if_neg (nI_ge hj (by omega)), tb_106_8, if_pos (show tw_in (nI j) (tw_al 30) from tn_in (show j < 300 by omega) (by decide)), nI_clamp (by omega), (c.2.2 j hj).1, tb_106_14, tb_106_18]
theorem m_byteE (c : ux_mt b T ν) : tw_call 106 [tw_R 6 0, tw_I (nI T)] ν = some (some (tw_I (-1)), ν) := by
  have hT := c.1
  rw [te_106, tb_106_0, c.2.1, if_pos (nI_le (Nat.le_refl _) (by omega)), tb_106_17, tb_106_18]
theorem tn_32 : (32 ≤ x ∧ x ≤ 32) ↔ x = 32 := by
  rw [Int32.le_iff_toInt_le, Int32.le_iff_toInt_le, ← Int32.toInt_inj]
  omega
theorem m_inr : tw_call 103 [tw_I x, tw_I lo, tw_I hi] ν = some (some (tw_I (if lo ≤ x ∧ x ≤ hi then 1 else 0)), ν) := by
  rw [m_in0]
  by_cases z1 : lo ≤ x
  · rw [if_neg (tn_l1 z1)]
    by_cases z2 : x ≤ hi
    · rw [if_neg (tn_l1 z2), if_pos ⟨z1, z2⟩]
    · rw [if_pos (tn_l2 z2), if_neg (fun q => z2 q.2)]
  · rw [if_pos (tn_l2 z1), if_neg (fun q => z1 q.1)]
theorem m_skip {o1 o2 o3 : Option tw_V} : ∀ (d e : Nat) (ν : tw_M), e + d = T → ux_mt b T ν → tw_gi ν 6 0 4 = nI e → ∃ ν', tw_run 110 0 [some (tw_R 6 0), o1, o2, o3] [] ν = tw_run 110 26 [some (tw_R 6 0), o1, o2, o3] [] ν' ∧ ux_fr (fun k n j => k = 6 ∧ n = 0 ∧ j = 4) ν ν' ∧ tw_gi ν' 6 0 4 = nI (ux_er b 32 32 d e) := by
  intro d
  induction d with
  | zero =>
    intro e ν he c h4
    have : e = T := by omega
    subst this
    refine ⟨ν, ?_, ux_fr.rf, h4⟩
    rw [tb_110_0, h4, m_byteE c]
    simp only [Option.bind_some, Option.toList_some, Option.toList_none, List.cons_append, List.nil_append, List.append_nil, tb_110_8]
    rw [if_neg (by decide)]
  | succ d ih =>
    intro e ν he c h4
    by_cases z : b e = 32
    · obtain ⟨ν', t1, t2, t3⟩ := ih (e + 1) (tw_si ν 6 0 4 (nI (e + 1))) (by omega) (c.si (by omega)) tw_gi_eq
      refine ⟨ν', ?_, (ux_fr.rf.si ⟨rfl, rfl, rfl⟩).tr t2, ?_⟩
      · rw [tb_110_0, h4, m_byte c (by omega)]
        simp only [Option.bind_some, Option.toList_some, Option.toList_none, List.cons_append, List.nil_append, List.append_nil, tb_110_8]
        rw [if_pos z, tb_110_13, h4, nI_1]
        exact t1
      · rw [ux_er, if_pos (tn_32.mpr z)]
        exact t3
    · refine ⟨ν, ?_, ux_fr.rf, ?_⟩
      · rw [tb_110_0, h4, m_byte c (by omega)]
        simp only [Option.bind_some, Option.toList_some, Option.toList_none, List.cons_append, List.nil_append, List.append_nil, tb_110_8]
        rw [if_neg z]
      · rw [ux_er, if_neg (fun q => z (tn_32.mp q))]
        exact h4
theorem m_word {o1 o3 : Option tw_V} (hs : s < T) : ∀ (d i : Nat) (ν : tw_M) (o1 o3 : Option tw_V), s + i + d = T → ux_mt b T ν → tw_gi ν 6 0 4 = nI (s + i) → tw_gi ν 6 0 6 = nI s → (∀ j, j < i → 97 ≤ b (s + j) ∧ b (s + j) ≤ 122) → ∃ ν' q1 q3, tw_run 110 68 [some (tw_R 6 0), o1, some (tw_J (lN (ux_pk b s (min i 7)))), o3] [] ν = tw_run 110 130 [some (tw_R 6 0), q1, some (tw_J (lN (ux_pk b s (min (ux_er b 97 122 d (s + i) - s) 7)))), q3] [] ν' ∧ ux_fr (fun k n j => k = 6 ∧ n = 0 ∧ j = 4) ν ν' ∧ tw_gi ν' 6 0 4 = nI (ux_er b 97 122 d (s + i)) := by
  intro d
  induction d with
  | zero =>
    intro i ν o1 o3 hi c h4 h6 hl
    have e : s + i = T := by omega
    refine ⟨ν, o1, o3, ?_, ux_fr.rf, h4⟩
    rw [tb_110_68, h4, e, m_byteE c]
    simp only [Option.bind_some, Option.toList_some, Option.toList_none, List.cons_append, List.nil_append, List.append_nil, tb_110_76, m_inr]
    rw [if_neg (by decide), tb_110_83, if_pos rfl, show ux_er b 97 122 0 T = T from rfl, show T - s = i by omega]
  | succ d ih =>
    intro i ν o1 o3 hi c h4 h6 hl
    have hT := c.1
    have hlt : s + i < T := by omega
    obtain ⟨cc, hcc, ec⟩ := (c.2.2 (s + i) hlt).2
    by_cases z : 97 ≤ b (s + i) ∧ b (s + i) ≤ 122
    · have c0 : 0 < cc := by
        rcases Nat.eq_zero_or_pos cc with q | q
        · rw [ec, q] at z
          exact absurd z.1 (by decide)
        · exact q
      have hl2 : ∀ j, j < i + 1 → 97 ≤ b (s + j) ∧ b (s + j) ≤ 122 := fun j hj => by
        by_cases e : j = i
        · rw [e]; exact z
        · exact hl j (by omega)
      obtain ⟨ν', q1, q3, t1, t2, t3⟩ := ih (i + 1) (tw_si ν 6 0 4 (nI (s + i + 1))) (tw_k o1) none (by omega) (c.si (by omega)) (by rw [tw_gi_eq]; rfl) (by rw [tw_gi_ne (by omega)]; exact h6) hl2
      have er : ux_er b 97 122 (d + 1) (s + i) = ux_er b 97 122 d (s + (i + 1)) := by rw [ux_er, if_pos z]; rfl
      rw [er]
      refine ⟨ν', q1, q3, ?_, (ux_fr.rf.si ⟨rfl, rfl, rfl⟩).tr t2, t3⟩
      rw [tb_110_68, h4, m_byte c hlt]
      simp only [Option.bind_some, Option.toList_some, Option.toList_none, List.cons_append, List.nil_append, List.append_nil, tb_110_76, m_inr]
      rw [if_pos z, tb_110_83, if_neg (by decide), tb_110_86, h4, h6, pk_sub (by omega), show s + i - s = i by omega]
      by_cases i7 : 7 ≤ i
      · rw [show min (i + 1) 7 = 7 by omega] at t1
        rw [if_pos (show (7 : Int32) ≤ nI i from nI_le (a := 7) i7 (by omega)), tb_110_115, tb_110_116, h4, nI_1, show min i 7 = 7 by omega]
        exact t1
      · rw [show min (i + 1) 7 = i + 1 by omega, ux_pk, ec, nI_clamp (by omega)] at t1
        rw [if_neg (show ¬ (7 : Int32) ≤ nI i from nI_ge (b := 7) (by omega) (by omega)), tb_110_100, h4, m_byte c hlt]
        simp only [Option.bind_some, Option.toList_some, Option.toList_none, List.cons_append, List.nil_append, List.append_nil, tb_110_109]
        rw [ec, m_addn c0 (by omega)]
        simp only [Option.bind_some, Option.toList_some, Option.toList_none, List.cons_append, List.nil_append, List.append_nil, tb_110_112]
        rw [tb_110_116, h4, nI_1, show min i 7 = i by omega]
        exact t1
    · refine ⟨ν, o1, o3, ?_, ux_fr.rf, ?_⟩
      · rw [tb_110_68, h4, m_byte c hlt]
        simp only [Option.bind_some, Option.toList_some, Option.toList_none, List.cons_append, List.nil_append, List.append_nil, tb_110_76, m_inr]
        rw [if_neg z, tb_110_83, if_pos rfl, ux_er, if_neg z, show s + i - s = i by omega]
      · rw [ux_er, if_neg z]
        exact h4
theorem m_figs {o1 o2 o3 : Option tw_V} (hs : s < T) : ∀ (d i : Nat) (ν : tw_M), s + i + d = T → ux_mt b T ν → tw_gi ν 6 0 4 = nI (s + i) → tw_gi ν 6 0 7 = nI (ux_ac b s i) → ux_ac b s i < 2 ^ 20 → (∀ j, j < i → 48 ≤ b (s + j) ∧ b (s + j) ≤ 57) → ∃ ν', tw_run 110 175 [some (tw_R 6 0), some (tw_I x), o2, o3] [] ν = tw_run 110 245 [some (tw_R 6 0), some (tw_I x), o2, o3] [] ν' ∧ ux_fr (fun k n j => k = 6 ∧ n = 0 ∧ (j = 4 ∨ j = 7)) ν ν' ∧ tw_gi ν' 6 0 4 = nI (ux_er b 48 57 d (s + i)) ∧ tw_gi ν' 6 0 7 = nI (ux_ac b s (ux_er b 48 57 d (s + i) - s)) ∧ ux_ac b s (ux_er b 48 57 d (s + i) - s) < 2 ^ 20 := by
  intro d
  induction d with
  | zero =>
    intro i ν hi c h4 h7 hac hl
    have e : s + i = T := by omega
    have e2 : ux_er b 48 57 0 (s + i) - s = i := by rw [ux_er]; omega
    rw [e2]
    refine ⟨ν, ?_, ux_fr.rf, h4, h7, hac⟩
    rw [tb_110_175, h4, e, m_byteE c]
    simp only [Option.bind_some, Option.toList_some, Option.toList_none, List.cons_append, List.nil_append, List.append_nil, tb_110_183, m_inr]
    rw [if_neg (by decide), tb_110_190, if_pos rfl]
  | succ d ih =>
    intro i ν hi c h4 h7 hac hl
    have hT := c.1
    have hlt : s + i < T := by omega
    obtain ⟨cc, hcc, ec⟩ := (c.2.2 (s + i) hlt).2
    by_cases z : 48 ≤ b (s + i) ∧ b (s + i) ≤ 57
    · have c48 : 48 ≤ cc ∧ cc ≤ 57 := by
        rw [ec] at z
        exact ⟨(nI_leI (a := 48) (by omega) (by omega)).mp z.1, (nI_leI (b := 57) (by omega) (by omega)).mp z.2⟩
      have hl2 : ∀ j, j < i + 1 → 48 ≤ b (s + j) ∧ b (s + j) ≤ 57 := fun j hj => by
        by_cases e : j = i
        · rw [e]; exact z
        · exact hl j (by omega)
      have er : ux_er b 48 57 (d + 1) (s + i) = ux_er b 48 57 d (s + (i + 1)) := by rw [ux_er, if_pos z]; rfl
      have step : ∀ V : Nat, V = ux_ac b s (i + 1) → V < 2 ^ 20 → ∃ ν', tw_run 110 229 [some (tw_R 6 0), some (tw_I x), o2, o3] [tw_I (nI V), tw_R 6 0] ν = tw_run 110 245 [some (tw_R 6 0), some (tw_I x), o2, o3] [] ν' ∧ ux_fr (fun k n j => k = 6 ∧ n = 0 ∧ (j = 4 ∨ j = 7)) ν ν' ∧ tw_gi ν' 6 0 4 = nI (ux_er b 48 57 d (s + (i + 1))) ∧ tw_gi ν' 6 0 7 = nI (ux_ac b s (ux_er b 48 57 d (s + (i + 1)) - s)) ∧ ux_ac b s (ux_er b 48 57 d (s + (i + 1)) - s) < 2 ^ 20 := by
        intro V hV hV2
        obtain ⟨ν', t1, t2, t3, t4, t5⟩ := ih (i + 1) (tw_si (tw_si ν 6 0 7 (nI V)) 6 0 4 (nI (s + i + 1))) (by omega) ((c.si (by omega)).si (by omega)) (by rw [tw_gi_eq]; rfl) (by rw [tw_gi_ne (by omega), tw_gi_eq, hV]) (by rw [← hV]; exact hV2) hl2
        refine ⟨ν', ?_, ((ux_fr.rf.si ⟨rfl, rfl, Or.inr rfl⟩).si ⟨rfl, rfl, Or.inl rfl⟩).tr t2, t3, t4, t5⟩
        rw [tb_110_229, tw_gi_ne (by omega), h4, nI_1]
        exact t1
      rw [er]
      by_cases v99 : 99 < ux_ac b s i
      · obtain ⟨ν', t1, t2, t3, t4, t5⟩ := step (ux_ac b s i) (by rw [ux_ac, if_pos v99]) hac
        refine ⟨ν', ?_, t2, t3, t4, t5⟩
        rw [tb_110_175, h4, m_byte c hlt]
        simp only [Option.bind_some, Option.toList_some, Option.toList_none, List.cons_append, List.nil_append, List.append_nil, tb_110_183, m_inr]
        rw [if_pos z, tb_110_190, if_neg (by decide), tb_110_193, h7, if_neg (show ¬ nI (ux_ac b s i) ≤ (99 : Int32) from nI_ge (a := 99) v99 (by omega)), tb_110_203, h7]
        exact t1
      · obtain ⟨ν', t1, t2, t3, t4, t5⟩ := step (10 * ux_ac b s i + (cc - 48)) (by rw [ux_ac, if_neg v99, ec, nI_clamp (by omega)]) (by omega)
        refine ⟨ν', ?_, t2, t3, t4, t5⟩
        rw [tb_110_175, h4, m_byte c hlt]
        simp only [Option.bind_some, Option.toList_some, Option.toList_none, List.cons_append, List.nil_append, List.append_nil, tb_110_183, m_inr]
        rw [if_pos z, tb_110_190, if_neg (by decide), tb_110_193, h7, if_pos (show nI (ux_ac b s i) ≤ (99 : Int32) from nI_le (b := 99) (by omega) (by omega)), tb_110_210, h4, m_byte c hlt, h7]
        simp only [Option.bind_some, Option.toList_some, Option.toList_none, List.cons_append, List.nil_append, List.append_nil, tb_110_225]
        rw [ec, show (10 : Int32) * nI (ux_ac b s i) = nI (10 * ux_ac b s i) from pk_mul 10 _, nI_add, show (48 : Int32) = nI 48 from rfl, pk_sub (by omega), show 10 * ux_ac b s i + cc - 48 = 10 * ux_ac b s i + (cc - 48) by omega]
        exact t1
    · have e2 : ux_er b 48 57 (d + 1) (s + i) = s + i := by rw [ux_er, if_neg z]
      rw [e2, show s + i - s = i by omega]
      refine ⟨ν, ?_, ux_fr.rf, h4, h7, hac⟩
      rw [tb_110_175, h4, m_byte c hlt]
      simp only [Option.bind_some, Option.toList_some, Option.toList_none, List.cons_append, List.nil_append, List.append_nil, tb_110_183, m_inr]
      rw [if_neg z, tb_110_190, if_pos rfl]
/-- the reference's token from e on -/
def ux_tm (b : Nat → Int32) (T e : Nat) (ν : tw_M) : Prop :=
  tw_gi ν 6 0 6 = nI (ux_sk b T e) ∧ (ux_kd b T e = 0 → tw_gi ν 6 0 5 = 0) ∧ (ux_kd b T e ≠ 0 → tw_gi ν 6 0 4 = nI (ux_ed b T e)) ∧
  (ux_kd b T e = 1 → tw_gi ν 6 0 7 = ux_wo (ux_pk b (ux_sk b T e) (min (ux_ed b T e - ux_sk b T e) 7)) ∧ tw_gi ν 6 0 5 = if tw_gi ν 6 0 7 = -9 then 4 else 1) ∧
  (ux_kd b T e = 2 → tw_gi ν 6 0 7 = nI (ux_ac b (ux_sk b T e) (ux_ed b T e - ux_sk b T e)) ∧ ux_ac b (ux_sk b T e) (ux_ed b T e - ux_sk b T e) < 2 ^ 20 ∧ tw_gi ν 6 0 5 = if 99 < ux_ac b (ux_sk b T e) (ux_ed b T e - ux_sk b T e) ∨ (b (ux_sk b T e) = 48 ∧ 1 < ux_ed b T e - ux_sk b T e) then 4 else 2) ∧
  (ux_kd b T e = 3 → tw_gi ν 6 0 5 = 3) ∧ (ux_kd b T e = 4 → tw_gi ν 6 0 5 = 4)
theorem m_adv (c : ux_mt b T ν) (he : e ≤ T) (h4 : tw_gi ν 6 0 4 = nI e) : ∃ ν', tw_call 110 [tw_R 6 0] ν = some (none, ν') ∧ ux_fr (fun k n j => k = 6 ∧ n = 0 ∧ 4 ≤ j ∧ j ≤ 7) ν ν' ∧ ux_tm b T e ν' := by
  have hT := c.1
  obtain ⟨hs1, hs2⟩ := ux_sk_le (b := b) he
  have tk := ux_tk (b := b) he
  have ed := ux_ed_le (b := b) he
  obtain ⟨ν1, t1, t2, t3⟩ := m_skip (b := b) (o1 := none) (o2 := none) (o3 := none) (T - e) e ν (by omega) c h4
  have t3 : tw_gi ν1 6 0 4 = nI (ux_sk b T e) := t3
  unfold ux_tm
  obtain ⟨s, hs⟩ : ∃ s, s = ux_sk b T e := ⟨_, rfl⟩
  obtain ⟨E, hE⟩ : ∃ E, E = ux_ed b T e := ⟨_, rfl⟩
  obtain ⟨K, hK⟩ : ∃ K, K = ux_kd b T e := ⟨_, rfl⟩
  rw [← hs] at hs1 hs2 tk t3 ed ⊢
  rw [← hE] at tk ed ⊢
  rw [← hK] at tk ⊢
  have f1 : ux_fr (fun k n j => k = 6 ∧ n = 0 ∧ 4 ≤ j ∧ j ≤ 7) ν ν1 := t2.mo (fun k n j q => by omega)
  have c1 : ux_mt b T ν1 := c.fr (t2.1 6 0 3 (by omega)) (fun j => t2.1 30 0 j (by omega))
  obtain ⟨ν2, hν2⟩ : ∃ ν2, ν2 = tw_si ν1 6 0 6 (nI s) := ⟨_, rfl⟩
  have c2 : ux_mt b T ν2 := by rw [hν2]; exact c1.si (by omega)
  have f2 : ux_fr (fun k n j => k = 6 ∧ n = 0 ∧ 4 ≤ j ∧ j ≤ 7) ν ν2 := by rw [hν2]; exact f1.si (by omega)
  have n4 : tw_gi ν2 6 0 4 = nI s := by rw [hν2, tw_gi_ne (by omega)]; exact t3
  have n6 : tw_gi ν2 6 0 6 = nI s := by rw [hν2, tw_gi_eq]
  rw [te_110, t1, tb_110_26, t3, ← hν2, n4]
  rcases tk with ⟨k, z⟩ | ⟨z, tk⟩
  · rw [z, m_byteE c2]
    simp only [Option.bind_some, Option.toList_some, Option.toList_none, List.cons_append, List.nil_append, List.append_nil, tb_110_42]
    rw [if_neg (by decide), tb_110_47, tb_110_310]
    refine ⟨_, rfl, f2.si (by omega), ?_, fun _ => tw_gi_eq, fun q => absurd k q, fun q => absurd k (by omega), fun q => absurd k (by omega), fun q => absurd k (by omega), fun q => absurd k (by omega)⟩
    rw [tw_gi_ne (by omega), n6, z]
  · obtain ⟨cc, hcc, ec⟩ := (c2.2.2 s z).2
    have pos : (0 : Int32) ≤ b s := by rw [ec]; exact nI_pos' (by omega)
    obtain ⟨ed1, ed2⟩ := ed z
    rw [m_byte c2 z]
    simp only [Option.bind_some, Option.toList_some, Option.toList_none, List.cons_append, List.nil_append, List.append_nil, tb_110_42]
    rw [if_pos pos, tb_110_55, m_inr]
    simp only [Option.bind_some, Option.toList_some, Option.toList_none, List.cons_append, List.nil_append, List.append_nil, tb_110_63]
    rcases tk with ⟨k, q1, q2, q3⟩ | ⟨k, q1, q2, q3, q4⟩ | ⟨k, q1, q2, q3, q4⟩ | ⟨k, q1, q2, q3, q4⟩
    · -- a word
      rw [if_pos (show 97 ≤ b s ∧ b s ≤ 122 from ⟨q1, q2⟩), if_neg (show ¬ (1 : Int32) = 0 by decide), tb_110_66]
      obtain ⟨ν3, p1, p3, u1, u2, u3⟩ := m_word (b := b) (o1 := none) (o3 := none) z (T - s) 0 ν2 (tw_k (some (tw_I (b s)))) none (by omega) c2 n4 n6 (fun j hj => absurd hj (Nat.not_lt_zero _))
      rw [Nat.add_zero, ← q3] at u1 u3
      have wb : ∀ i, i < min (E - s) 7 → (b (s + i)).toNatClampNeg < 256 := fun i hi => by
        obtain ⟨g, hg, eg⟩ := (c2.2.2 (s + i) (by omega)).2
        rw [eg, nI_clamp (by omega)]
        exact hg
      have pkl : ux_pk b s (min (E - s) 7) < 2 ^ 63 := by
        have h1 := ux_pk_lt wb
        have h2 : 256 ^ (min (E - s) 7) ≤ 256 ^ 7 := Nat.pow_le_pow_right (by omega) (by omega)
        have h3 : 256 ^ 7 < 2 ^ 63 := by decide
        omega
      rw [show (0 : Int64) = lN (ux_pk b s (min 0 7)) from rfl, u1, tb_110_130, m_wordOf pkl]
      simp only [Option.bind_some, Option.toList_some, Option.toList_none, List.cons_append, List.nil_append, List.append_nil, tb_110_135]
      rw [tw_gi_eq]
      obtain ⟨V, hV⟩ : ∃ V, V = ux_wo (ux_pk b s (min (E - s) 7)) := ⟨_, rfl⟩
      rw [← hV]
      have f3 : ux_fr (fun k n j => k = 6 ∧ n = 0 ∧ 4 ≤ j ∧ j ≤ 7) ν ν3 := f2.tr (u2.mo (fun k n j q => by omega))
      have m6 : tw_gi ν3 6 0 6 = nI s := by rw [u2.1 6 0 6 (by omega)]; exact n6
      have fin : ∀ v : Int32, v = (if V = -9 then 4 else 1) → ∃ ν', tw_run 110 153 [some (tw_R 6 0), p1, some (tw_J (lN (ux_pk b s (min (E - s) 7)))), p3] [tw_I v, tw_R 6 0] (tw_si ν3 6 0 7 V) = some (none, ν') ∧ ux_fr (fun k n j => k = 6 ∧ n = 0 ∧ 4 ≤ j ∧ j ≤ 7) ν ν' ∧ tw_gi ν' 6 0 6 = nI s ∧ (K = 0 → tw_gi ν' 6 0 5 = 0) ∧ (K ≠ 0 → tw_gi ν' 6 0 4 = nI E) ∧ (K = 1 → tw_gi ν' 6 0 7 = V ∧ tw_gi ν' 6 0 5 = if tw_gi ν' 6 0 7 = -9 then 4 else 1) ∧ (K = 2 → tw_gi ν' 6 0 7 = nI (ux_ac b s (E - s)) ∧ ux_ac b s (E - s) < 2 ^ 20 ∧ tw_gi ν' 6 0 5 = if 99 < ux_ac b s (E - s) ∨ (b s = 48 ∧ 1 < E - s) then 4 else 2) ∧ (K = 3 → tw_gi ν' 6 0 5 = 3) ∧ (K = 4 → tw_gi ν' 6 0 5 = 4) := by
        intro v hv
        rw [tb_110_153, tb_110_310]
        have e7 : tw_gi (tw_si (tw_si ν3 6 0 7 V) 6 0 5 v) 6 0 7 = V := by rw [tw_gi_ne (by omega), tw_gi_eq]
        refine ⟨_, rfl, (f3.si (by omega)).si (by omega), ?_, fun q => absurd k (by omega), fun _ => ?_, fun _ => ⟨e7, ?_⟩, fun q => absurd k (by omega), fun q => absurd k (by omega), fun q => absurd k (by omega)⟩
        · rw [tw_gi_ne (by omega), tw_gi_ne (by omega), m6]
        · rw [tw_gi_ne (by omega), tw_gi_ne (by omega), u3]
        · rw [e7, tw_gi_eq, hv]
      by_cases v9 : V = -9
      · rw [if_pos v9, tb_110_148]
        exact fin 4 (by rw [if_pos v9])
      · rw [if_neg v9, tb_110_152]
        exact fin 1 (by rw [if_neg v9])
    · -- figures
      rw [if_neg q1, if_pos rfl, tb_110_159, m_inr]
      simp only [Option.bind_some, Option.toList_some, Option.toList_none, List.cons_append, List.nil_append, List.append_nil, tb_110_167]
      rw [if_pos (show 48 ≤ b s ∧ b s ≤ 57 from ⟨q2, q3⟩), if_neg (show ¬ (1 : Int32) = 0 by decide), tb_110_170]
      obtain ⟨ν3, u1, u2, u3, u4, u5⟩ := m_figs (b := b) (x := b s) (o1 := none) (o2 := none) (o3 := none) z (T - s) 0 (tw_si ν2 6 0 7 0) (by omega) (c2.si (by omega)) (by rw [tw_gi_ne (by omega)]; exact n4) (by rw [tw_gi_eq]; rfl) (by rw [ux_ac]; omega) (fun j hj => absurd hj (Nat.not_lt_zero _))
      rw [Nat.add_zero, ← q4] at u3 u4 u5
      have f3 : ux_fr (fun k n j => k = 6 ∧ n = 0 ∧ 4 ≤ j ∧ j ≤ 7) ν ν3 := (f2.si (by omega)).tr (u2.mo (fun k n j q => by omega))
      have m6 : tw_gi ν3 6 0 6 = nI s := by rw [u2.1 6 0 6 (by omega), tw_gi_ne (by omega)]; exact n6
      rw [u1]
      have fin : ∀ v : Int32, v = (if 99 < ux_ac b s (E - s) ∨ (b s = 48 ∧ 1 < E - s) then 4 else 2) → ∃ ν', tw_run 110 279 [some (tw_R 6 0), some (tw_I (b s)), none, none] [tw_I v, tw_R 6 0] ν3 = some (none, ν') ∧ ux_fr (fun k n j => k = 6 ∧ n = 0 ∧ 4 ≤ j ∧ j ≤ 7) ν ν' ∧ tw_gi ν' 6 0 6 = nI s ∧ (K = 0 → tw_gi ν' 6 0 5 = 0) ∧ (K ≠ 0 → tw_gi ν' 6 0 4 = nI E) ∧ (K = 1 → tw_gi ν' 6 0 7 = ux_wo (ux_pk b s (min (E - s) 7)) ∧ tw_gi ν' 6 0 5 = if tw_gi ν' 6 0 7 = -9 then 4 else 1) ∧ (K = 2 → tw_gi ν' 6 0 7 = nI (ux_ac b s (E - s)) ∧ ux_ac b s (E - s) < 2 ^ 20 ∧ tw_gi ν' 6 0 5 = if 99 < ux_ac b s (E - s) ∨ (b s = 48 ∧ 1 < E - s) then 4 else 2) ∧ (K = 3 → tw_gi ν' 6 0 5 = 3) ∧ (K = 4 → tw_gi ν' 6 0 5 = 4) := by
        intro v hv
        rw [tb_110_279, tb_110_310]
        refine ⟨_, rfl, f3.si (by omega), ?_, fun q => absurd k (by omega), fun _ => ?_, fun q => absurd k (by omega), fun _ => ⟨?_, u5, ?_⟩, fun q => absurd k (by omega), fun q => absurd k (by omega)⟩
        · rw [tw_gi_ne (by omega), m6]
        · rw [tw_gi_ne (by omega), u3]
        · rw [tw_gi_ne (by omega), u4]
        · rw [tw_gi_eq, hv]
      rw [tb_110_245, u4]
      by_cases v99 : 99 < ux_ac b s (E - s)
      · rw [if_pos (show (99 : Int32) < nI (ux_ac b s (E - s)) from nI_lt (a := 99) v99 (by omega)), tb_110_274]
        exact fin 4 (by rw [if_pos (Or.inl v99)])
      · rw [if_neg (show ¬ (99 : Int32) < nI (ux_ac b s (E - s)) from nI_nlt (b := ux_ac b s (E - s)) (a := 99) (by omega) (by omega)), tb_110_255]
        by_cases v48 : b s = 48
        · rw [if_pos v48, tb_110_261, u3, m6, pk_sub (by omega)]
          by_cases l1 : 1 < E - s
          · rw [if_neg (show ¬ nI (E - s) ≤ (1 : Int32) from nI_ge (a := 1) l1 (by omega)), tb_110_274]
            exact fin 4 (by rw [if_pos (Or.inr ⟨v48, l1⟩)])
          · rw [if_pos (show nI (E - s) ≤ (1 : Int32) from nI_le (b := 1) (by omega) (by omega)), tb_110_278]
            exact fin 2 (by rw [if_neg (fun q => q.elim v99 (fun w => l1 w.2))])
        · rw [if_neg v48, tb_110_278]
          exact fin 2 (by rw [if_neg (fun q => q.elim v99 (fun w => v48 w.1))])
    · rw [if_neg q1, if_pos rfl, tb_110_159, m_inr]
      simp only [Option.bind_some, Option.toList_some, Option.toList_none, List.cons_append, List.nil_append, List.append_nil, tb_110_167]
      rw [if_neg q2, if_pos rfl, tb_110_285, n4, nI_1, if_pos q3, tb_110_302, tb_110_307, tb_110_310]
      refine ⟨_, rfl, (f2.si (by omega)).si (by omega), ?_, fun q => absurd k (by omega), fun _ => ?_, fun q => absurd k (by omega), fun q => absurd k (by omega), fun _ => tw_gi_eq, fun q => absurd k (by omega)⟩
      · rw [tw_gi_ne (by omega), tw_gi_ne (by omega), n6]
      · rw [tw_gi_ne (by omega), tw_gi_eq, q4]
    · rw [if_neg q1, if_pos rfl, tb_110_159, m_inr]
      simp only [Option.bind_some, Option.toList_some, Option.toList_none, List.cons_append, List.nil_append, List.append_nil, tb_110_167]
      rw [if_neg q2, if_pos rfl, tb_110_285, n4, nI_1, if_neg q3, tb_110_306, tb_110_307, tb_110_310]
      refine ⟨_, rfl, (f2.si (by omega)).si (by omega), ?_, fun q => absurd k (by omega), fun _ => ?_, fun q => absurd k (by omega), fun q => absurd k (by omega), fun q => absurd k (by omega), fun _ => tw_gi_eq⟩
      · rw [tw_gi_ne (by omega), tw_gi_ne (by omega), n6]
      · rw [tw_gi_ne (by omega), tw_gi_eq, q4]
end
