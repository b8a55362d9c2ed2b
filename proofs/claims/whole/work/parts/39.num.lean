/-! words, numbers, marks -/
def ux_ln (i : Nat) : Nat := tw_lenT.getD i 0
def ux_ch (i j : Nat) : Int32 := (tw_bytT.getD i []).getD j 0
/-- the word i stands from s to E -/
def ux_is (b : Nat → Int32) (s E i : Nat) : Prop := E - s = ux_ln i ∧ ∀ j, j < ux_ln i → b (s + j) = ux_ch i j
theorem ux_len : ∀ i, i < 6 → 1 ≤ ux_ln i ∧ ux_ln i ≤ 6 ∧ (nI (ux_ln i) >>> ((0 : Int32) &&& 31)) = nI (ux_ln i) := by decide
theorem ux_chw : ∀ i, i < 6 → ∀ j, j < 6 → ((ux_ch i j &&& (255 : Int32)).toUInt32 % 65536).toInt32 = ux_ch i j ∧ vp_nar .char (ux_ch i j) = ux_ch i j := by decide +kernel
theorem ux_chb : ∀ i, i < 6 → ∀ j, j < ux_ln i → 0 < (ux_ch i j).toNatClampNeg ∧ (ux_ch i j).toNatClampNeg < 256 ∧ nI (ux_ch i j).toNatClampNeg = ux_ch i j := by decide
theorem ux_pkw : ux_pk (ux_ch 0) 0 (ux_ln 0) = 482854658917 ∧ ux_pk (ux_ch 1) 0 (ux_ln 1) = 440006570868 ∧ ux_pk (ux_ch 2) 0 (ux_ln 2) = 2002874989 ∧ ux_pk (ux_ch 3) 0 (ux_ln 3) = 1668246628 ∧ ux_pk (ux_ch 4) 0 (ux_ln 4) = 495791205988 ∧ ux_pk (ux_ch 5) 0 (ux_ln 5) = 123581014175598 := by decide +kernel
theorem ux_pk_in {b b' : Nat → Int32} {s s' : Nat} : ∀ (n m : Nat), (∀ i, i < n → 0 < (b (s + i)).toNatClampNeg ∧ (b (s + i)).toNatClampNeg < 256) → (∀ i, i < m → 0 < (b' (s' + i)).toNatClampNeg ∧ (b' (s' + i)).toNatClampNeg < 256) → (ux_pk b s n = ux_pk b' s' m ↔ n = m ∧ ∀ i, i < m → (b (s + i)).toNatClampNeg = (b' (s' + i)).toNatClampNeg)
  | 0, 0, _, _ => ⟨fun _ => ⟨rfl, fun i hi => absurd hi (Nat.not_lt_zero _)⟩, fun _ => rfl⟩
  | 0, m + 1, _, h2 => by
    have := h2 m (by omega)
    rw [ux_pk, ux_pk]
    exact ⟨fun q => by omega, fun q => by omega⟩
  | n + 1, 0, h1, _ => by
    have := h1 n (by omega)
    rw [ux_pk, ux_pk]
    exact ⟨fun q => by omega, fun q => by omega⟩
  | n + 1, m + 1, h1, h2 => by
    have ih := ux_pk_in (b := b) (b' := b') (s := s) (s' := s') n m (fun i hi => h1 i (by omega)) (fun i hi => h2 i (by omega))
    have a1 := h1 n (by omega)
    have a2 := h2 m (by omega)
    rw [ux_pk, ux_pk]
    constructor
    · intro q
      have q1 : ux_pk b s n = ux_pk b' s' m := by omega
      have q2 : (b (s + n)).toNatClampNeg = (b' (s' + m)).toNatClampNeg := by omega
      obtain ⟨e, f⟩ := ih.mp q1
      subst e
      refine ⟨rfl, fun i hi => ?_⟩
      by_cases z : i = n
      · rw [z]; exact q2
      · exact f i (by omega)
    · rintro ⟨e, f⟩
      have e : n = m := by omega
      subst e
      rw [ih.mpr ⟨rfl, fun i hi => f i (by omega)⟩, f n (by omega)]
section
variable {b : Nat → Int32} {lo hi : Int32} {μ μ' ν ν' : tw_M} {x y z u v A l : Int32} {s k p h j t w n P H S N C T i a m F e d E : Nat}
theorem s_length (hi : i < 6) : tw_call 9 [tw_R 8 i] μ = some (some (tw_I (nI (ux_ln i))), μ) := by
  have h8 : tw_call 8 [tw_R 8 i] μ = some (some (tw_I 0), μ) := by
    rw [te_8, tb_8_0, if_neg (by decide), tb_8_6, tb_8_14]
    rfl
  rw [te_9, tb_9_0, h8]
  simp only [Option.bind_some, Option.toList_some, Option.toList_none, List.cons_append, List.nil_append, List.append_nil, tb_9_9]
  have := (ux_len i hi).2.2
  rw [show nI (tw_lenT.getD i 0) >>> ((0 : Int32) &&& 31) = nI (ux_ln i) from this]
theorem s_charAt (hi : i < 6) (hj : j < ux_ln i) : tw_call 14 [tw_R 8 i, tw_I (nI j)] μ = some (some (tw_I (ux_ch i j)), μ) := by
  obtain ⟨l1, l2, l3⟩ := ux_len i hi
  obtain ⟨w1, w2⟩ := ux_chw i hi j (by omega)
  have h10 : tw_call 10 [tw_R 8 i] μ = some (some (tw_I 1), μ) := by
    rw [te_10, tb_10_0, if_neg (by decide), tb_10_6, if_pos rfl, tb_10_13, tb_10_18]
    rfl
  have bo : tw_bo .char (ux_ch i j) μ = some (some (tw_I (ux_ch i j)), μ) := by
    unfold tw_bo
    rw [if_pos w2]
  have h11 : tw_call 11 [tw_I (nI j), tw_I (nI (ux_ln i)), tw_R 98 0] μ = some (some (tw_I (nI j)), μ) := by
    rw [te_11, tb_11_0, if_neg (nI_pos (by omega)), tb_11_4, if_pos (nI_lt hj (by omega)), tb_11_16]
  have h12 : tw_call 12 [tw_I (nI j), tw_I (nI (ux_ln i))] μ = some (none, μ) := by
    rw [te_12, tb_12_0, h11]
    simp only [Option.bind_some, Option.toList_some, Option.toList_none, List.cons_append, List.nil_append, List.append_nil, tb_12_8]
  have h13 : tw_call 13 [tw_R 9 i, tw_I (nI j)] μ = some (some (tw_I (ux_ch i j)), μ) := by
    rw [te_13, tb_13_0, show tw_lenT.getD i 0 = ux_ln i from rfl, h12]
    simp only [Option.bind_some, Option.toList_some, Option.toList_none, List.cons_append, List.nil_append, List.append_nil, tb_13_6]
    rw [show tw_lenT.getD i 0 = ux_ln i from rfl, if_pos (tn_in hj (by omega)), nI_clamp (by omega), tb_13_9, show (tw_bytT.getD i []).getD j 0 = ux_ch i j from rfl, w1, bo]
  rw [te_14, tb_14_0, h10]
  simp only [Option.bind_some, Option.toList_some, Option.toList_none, List.cons_append, List.nil_append, List.append_nil, tb_14_4]
  rw [if_neg (by decide), tb_14_7, h13]
  simp only [Option.bind_some, Option.toList_some, Option.toList_none, List.cons_append, List.nil_append, List.append_nil, tb_14_15]
  exact bo
theorem s_isWord (hi : i < 6) (c : ux_ct b T μ) (h2 : tw_gi μ 4 0 2 = nI s) (h3 : tw_gi μ 4 0 3 = nI E) (hs : s < E) (hE : E ≤ T) : (ux_is b s E i → tw_call 15 [tw_R 4 0, tw_R 8 i] μ = some (some (tw_I 1), μ)) ∧ (¬ ux_is b s E i → tw_call 15 [tw_R 4 0, tw_R 8 i] μ = some (some (tw_I 0), μ)) := by
  obtain ⟨l1, l2, l3⟩ := ux_len i hi
  have hT := c.1
  have loop : ∀ (d j : Nat), j + d = ux_ln i → E - s = ux_ln i → (∀ q, q < j → b (s + q) = ux_ch i q) → (ux_is b s E i → tw_run 15 20 [some (tw_R 4 0), some (tw_R 8 i), some (tw_I (nI j))] [] μ = some (some (tw_I 1), μ)) ∧ (¬ ux_is b s E i → tw_run 15 20 [some (tw_R 4 0), some (tw_R 8 i), some (tw_I (nI j))] [] μ = some (some (tw_I 0), μ)) := by
    intro d
    induction d with
    | zero =>
      intro j hj hl hq
      have hj2 : j = ux_ln i := by omega
      refine ⟨fun _ => ?_, fun q => absurd ⟨hl, fun q hq2 => hq q (by omega)⟩ q⟩
      rw [tb_15_20, s_length hi]
      simp only [Option.bind_some, Option.toList_some, Option.toList_none, List.cons_append, List.nil_append, List.append_nil, tb_15_25]
      rw [if_pos (nI_le (by omega) (by omega)), tb_15_57, tn_bo1]
    | succ d ih =>
      intro j hj hl hq
      have e1 : ¬ nI (ux_ln i) ≤ nI j := nI_ge (by omega) (by omega)
      have rd : tw_run 15 20 [some (tw_R 4 0), some (tw_R 8 i), some (tw_I (nI j))] [] μ = if b (s + j) = ux_ch i j then tw_run 15 51 [some (tw_R 4 0), some (tw_R 8 i), some (tw_I (nI j))] [] μ else tw_run 15 49 [some (tw_R 4 0), some (tw_R 8 i), some (tw_I (nI j))] [] μ := by
        rw [tb_15_20, s_length hi]
        simp only [Option.bind_some, Option.toList_some, Option.toList_none, List.cons_append, List.nil_append, List.append_nil, tb_15_25]
        rw [if_neg e1, tb_15_28, h2, nI_add, s_at (k := 20) rfl, tw_rd_p (μ := μ) (k := 20) (n := 0) 300 rfl (show s + j < 300 by omega), c.2.2 (s + j) (by omega)]
        simp only [Option.bind_some, Option.toList_some, Option.toList_none, List.cons_append, List.nil_append, List.append_nil, tb_15_41]
        rw [s_charAt hi (by omega)]
        simp only [Option.bind_some, Option.toList_some, Option.toList_none, List.cons_append, List.nil_append, List.append_nil, tb_15_46]
      rw [rd]
      by_cases z : b (s + j) = ux_ch i j
      · obtain ⟨t1, t2⟩ := ih (j + 1) (by omega) hl (fun q hq2 => by
          by_cases e : q = j
          · rw [e]; exact z
          · exact hq q (by omega))
        rw [if_pos z, tb_15_51, nI_1]
        exact ⟨t1, t2⟩
      · refine ⟨fun q => absurd (q.2 j (by omega)) z, fun _ => ?_⟩
        rw [if_neg z, tb_15_49, tn_bo0]
  have head : tw_call 15 [tw_R 4 0, tw_R 8 i] μ = if nI (E - s) = nI (ux_ln i) then tw_run 15 18 [some (tw_R 4 0), some (tw_R 8 i), none] [] μ else tw_run 15 16 [some (tw_R 4 0), some (tw_R 8 i), none] [] μ := by
    rw [te_15, tb_15_0, s_length hi, h2, h3, pk_sub (by omega)]
    simp only [Option.bind_some, Option.toList_some, Option.toList_none, List.cons_append, List.nil_append, List.append_nil, tb_15_13]
  rw [head]
  by_cases z : E - s = ux_ln i
  · rw [if_pos (by rw [z]), tb_15_18]
    exact loop (ux_ln i) 0 (by omega) z (fun q hq => absurd hq (Nat.not_lt_zero _))
  · refine ⟨fun q => absurd q.1 z, fun _ => ?_⟩
    rw [if_neg (fun q => z ((nI_eq (by omega) (by omega)).mp q)), tb_15_16, tn_bo0]
/-- the reference's number of a word tells which it is -/
theorem ux_pk_is (hi : i < 6) (hs : s < E) (hb : ∀ j, j < E - s → 97 ≤ b (s + j) ∧ b (s + j) ≤ 122 ∧ tw_bd (b (s + j)) 256) : ux_pk b s (min (E - s) 7) = ux_pk (ux_ch i) 0 (ux_ln i) ↔ ux_is b s E i := by
  obtain ⟨l1, l2, l3⟩ := ux_len i hi
  have hb2 : ∀ j, j < E - s → 0 < (b (s + j)).toNatClampNeg ∧ (b (s + j)).toNatClampNeg < 256 ∧ nI (b (s + j)).toNatClampNeg = b (s + j) := by
    intro j hj
    obtain ⟨g1, g2, c, hc, ec⟩ := hb j hj
    rw [ec] at g1 ⊢
    rw [nI_clamp (by omega)]
    refine ⟨?_, hc, rfl⟩
    have := (nI_leI (a := 97) (by omega) (by omega)).mp g1
    omega
  rw [ux_pk_in (b := b) (b' := ux_ch i) (s := s) (s' := 0) _ _ (fun j hj => ⟨(hb2 j (by omega)).1, (hb2 j (by omega)).2.1⟩) (fun j hj => by rw [Nat.zero_add]; exact ⟨(ux_chb i hi j hj).1, (ux_chb i hi j hj).2.1⟩)]
  unfold ux_is
  constructor
  · rintro ⟨q1, q2⟩
    refine ⟨by omega, fun j hj => ?_⟩
    have := q2 j hj
    rw [Nat.zero_add] at this
    rw [← (hb2 j (by omega)).2.2, this]
    exact (ux_chb i hi j hj).2.2
  · rintro ⟨q1, q2⟩
    refine ⟨by omega, fun j hj => ?_⟩
    rw [Nat.zero_add, q2 j hj]
theorem ux_ac_big : ∀ (d n : Nat), 99 < ux_ac b s n → 99 < ux_ac b s (n + d)
  | 0, n, h => h
  | d + 1, n, h => by
    have := ux_ac_big d n h
    rw [← Nat.add_assoc, ux_ac, if_pos this]
    exact this
theorem s_short (c : ux_ct b T μ) (h2 : tw_gi μ 4 0 2 = nI s) (h3 : tw_gi μ 4 0 3 = nI E) (hs : s < E) (hE : E ≤ T) (hd : ∀ j, j < E - s → ∃ g, g < 10 ∧ b (s + j) = nI (48 + g)) :
    tw_call 16 [tw_R 4 0] μ = some (some (tw_I (if 99 < ux_ac b s (E - s) ∨ (b s = 48 ∧ 1 < E - s) then -1 else nI (ux_ac b s (E - s)))), μ) := by
  have hT := c.1
  obtain ⟨g0, hg0, e0⟩ := hd 0 (by omega)
  rw [Nat.add_zero] at e0
  have d0 : b s - 48 = nI g0 := by
    rw [e0, show (48 : Int32) = nI 48 from rfl, pk_sub (by omega), show 48 + g0 - 48 = g0 by omega]
  have n0 : (b s).toNatClampNeg - 48 = g0 := by rw [e0, nI_clamp (by omega)]; omega
  have a1 : ux_ac b s 1 = g0 := by rw [ux_ac, ux_ac, if_neg (by omega), Nat.add_zero, n0]; omega
  have b48 : b s = 48 ↔ g0 = 0 := by
    rw [e0, show (48 : Int32) = nI 48 from rfl, nI_eq (by omega) (by omega)]
    omega
  rw [te_16, tb_16_0, h2, s_at (k := 20) rfl, tw_rd_p (μ := μ) (k := 20) (n := 0) 300 rfl (show s < 300 by omega), c.2.2 s (by omega)]
  simp only [Option.bind_some, Option.toList_some, Option.toList_none, List.cons_append, List.nil_append, List.append_nil, tb_16_11]
  rw [h2, h3, pk_sub (by omega), d0]
  by_cases l1 : E - s = 1
  · rw [l1, if_pos (show nI 1 = (1 : Int32) from rfl), tb_16_28, a1, if_neg (by omega)]
  · rw [if_neg (show ¬ nI (E - s) = (1 : Int32) from fun q => l1 ((nI_eq (b := 1) (by omega) (by omega)).mp q)), tb_16_30, h2, h3, pk_sub (by omega)]
    by_cases l2 : 2 < E - s
    · rw [if_pos (show (2 : Int32) < nI (E - s) from nI_lt (a := 2) l2 (by omega)), tb_16_47, if_pos]
      by_cases g00 : g0 = 0
      · exact Or.inr ⟨b48.mpr g00, by omega⟩
      · obtain ⟨g1, hg1, e1⟩ := hd 1 (by omega)
        obtain ⟨g2, hg2, e2⟩ := hd 2 (by omega)
        have n1 : (b (s + 1)).toNatClampNeg - 48 = g1 := by rw [e1, nI_clamp (by omega)]; omega
        have n2 : (b (s + 2)).toNatClampNeg - 48 = g2 := by rw [e2, nI_clamp (by omega)]; omega
        have a2 : ux_ac b s 2 = 10 * g0 + g1 := by rw [ux_ac, a1, if_neg (by omega), n1]
        have a3 : ux_ac b s 3 = 10 * (10 * g0 + g1) + g2 := by rw [ux_ac, a2, if_neg (by omega), n2]
        have big : 99 < ux_ac b s 3 := by omega
        have := ux_ac_big (b := b) (s := s) (E - s - 3) 3 big
        rw [show 3 + (E - s - 3) = E - s by omega] at this
        exact Or.inl this
    · have l3 : E - s = 2 := by omega
      obtain ⟨g1, hg1, e1⟩ := hd 1 (by omega)
      have n1 : (b (s + 1)).toNatClampNeg - 48 = g1 := by rw [e1, nI_clamp (by omega)]; omega
      have a2 : ux_ac b s 2 = 10 * g0 + g1 := by rw [ux_ac, a1, if_neg (by omega), n1]
      rw [if_neg (show ¬ (2 : Int32) < nI (E - s) from nI_nlt (a := 2) (by omega) (by omega)), tb_16_43, l3, a2]
      by_cases g00 : g0 = 0
      · rw [g00, if_pos (show nI 0 = (0 : Int32) from rfl), tb_16_47, if_pos (Or.inr ⟨b48.mpr g00, by omega⟩)]
      · rw [if_neg (nI_ne0 (by omega) (by omega)), tb_16_49, h2, nI_1, s_at (k := 20) rfl, tw_rd_p (μ := μ) (k := 20) (n := 0) 300 rfl (show s + 1 < 300 by omega), c.2.2 (s + 1) (by omega), e1]
        simp only [Option.bind_some, Option.toList_some, Option.toList_none, List.cons_append, List.nil_append, List.append_nil, tb_16_66]
        rw [if_neg (fun q => q.elim (by omega) (fun w => g00 (b48.mp w.1))), show (10 : Int32) * nI g0 = nI (10 * g0) from pk_mul 10 _, nI_add, show (48 : Int32) = nI 48 from rfl, pk_sub (by omega), show 10 * g0 + (48 + g1) - 48 = 10 * g0 + g1 by omega]
end
