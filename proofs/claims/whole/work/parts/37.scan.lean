/-! tokens -/
def ux_er (b : Nat → Int32) (lo hi : Int32) : Nat → Nat → Nat
  | 0, s => s
  | d + 1, s => if lo ≤ b s ∧ b s ≤ hi then ux_er b lo hi d (s + 1) else s
section
variable {b : Nat → Int32} {lo hi : Int32} {μ μ' ν ν' : tw_M} {x y z u v A l : Int32} {s k p h j t w n P H S N C T i a m F e d : Nat}
theorem ux_er_le : ∀ (d s : Nat), s ≤ ux_er b lo hi d s ∧ ux_er b lo hi d s ≤ s + d
  | 0, s => ⟨Nat.le_refl _, Nat.le_refl _⟩
  | d + 1, s => by
    have h := ux_er_le d (s + 1)
    rw [ux_er]
    split <;> omega
theorem ux_er_in : ∀ (d s i : Nat), s ≤ i → i < ux_er b lo hi d s → lo ≤ b i ∧ b i ≤ hi
  | 0, s, i, h1, h2 => absurd h1 (by rw [ux_er] at h2; omega)
  | d + 1, s, i, h1, h2 => by
    rw [ux_er] at h2
    by_cases q : lo ≤ b s ∧ b s ≤ hi
    · rw [if_pos q] at h2
      by_cases e : i = s
      · rw [e]; exact q
      · exact ux_er_in d (s + 1) i (by omega) h2
    · rw [if_neg q] at h2
      omega
theorem ux_er_out : ∀ (d s : Nat), ux_er b lo hi d s < s + d → ¬ (lo ≤ b (ux_er b lo hi d s) ∧ b (ux_er b lo hi d s) ≤ hi)
  | 0, s, h => absurd h (by rw [ux_er]; omega)
  | d + 1, s, h => by
    rw [ux_er] at h ⊢
    by_cases q : lo ≤ b s ∧ b s ≤ hi
    · rw [if_pos q] at h ⊢
      exact ux_er_out d (s + 1) (by omega)
    · rw [if_neg q]
      exact q
theorem ux_er_pos (q : lo ≤ b s ∧ b s ≤ hi) : s < ux_er b lo hi (d + 1) s := by
  rw [ux_er, if_pos q]
  have := (ux_er_le (b := b) (lo := lo) (hi := hi) d (s + 1)).1
  omega
theorem ux_er_neg (q : ¬ (lo ≤ b s ∧ b s ≤ hi)) : ux_er b lo hi d s = s := by
  cases d with
  | zero => rfl
  | succ d => rw [ux_er, if_neg q]
def ux_sk (b : Nat → Int32) (T e : Nat) : Nat := ux_er b 32 32 (T - e) e
def ux_kd (b : Nat → Int32) (T e : Nat) : Nat :=
  if T ≤ ux_sk b T e then 0 else if 97 ≤ b (ux_sk b T e) ∧ b (ux_sk b T e) ≤ 122 then 1 else if 48 ≤ b (ux_sk b T e) ∧ b (ux_sk b T e) ≤ 57 then 2 else if b (ux_sk b T e) = 59 then 3 else 4
def ux_ed (b : Nat → Int32) (T e : Nat) : Nat :=
  if ux_kd b T e = 1 then ux_er b 97 122 (T - ux_sk b T e) (ux_sk b T e) else if ux_kd b T e = 2 then ux_er b 48 57 (T - ux_sk b T e) (ux_sk b T e) else ux_sk b T e + 1
theorem ux_sk_le (he : e ≤ T) : e ≤ ux_sk b T e ∧ ux_sk b T e ≤ T := by
  have := ux_er_le (b := b) (lo := 32) (hi := 32) (T - e) e
  unfold ux_sk
  omega
/-- what is known of a token -/
theorem ux_tk (he : e ≤ T) : (ux_kd b T e = 0 ∧ ux_sk b T e = T) ∨ (ux_sk b T e < T ∧ (
    (ux_kd b T e = 1 ∧ 97 ≤ b (ux_sk b T e) ∧ b (ux_sk b T e) ≤ 122 ∧ ux_ed b T e = ux_er b 97 122 (T - ux_sk b T e) (ux_sk b T e)) ∨
    (ux_kd b T e = 2 ∧ ¬ (97 ≤ b (ux_sk b T e) ∧ b (ux_sk b T e) ≤ 122) ∧ 48 ≤ b (ux_sk b T e) ∧ b (ux_sk b T e) ≤ 57 ∧ ux_ed b T e = ux_er b 48 57 (T - ux_sk b T e) (ux_sk b T e)) ∨
    (ux_kd b T e = 3 ∧ ¬ (97 ≤ b (ux_sk b T e) ∧ b (ux_sk b T e) ≤ 122) ∧ ¬ (48 ≤ b (ux_sk b T e) ∧ b (ux_sk b T e) ≤ 57) ∧ b (ux_sk b T e) = 59 ∧ ux_ed b T e = ux_sk b T e + 1) ∨
    (ux_kd b T e = 4 ∧ ¬ (97 ≤ b (ux_sk b T e) ∧ b (ux_sk b T e) ≤ 122) ∧ ¬ (48 ≤ b (ux_sk b T e) ∧ b (ux_sk b T e) ≤ 57) ∧ ¬ b (ux_sk b T e) = 59 ∧ ux_ed b T e = ux_sk b T e + 1))) := by
  have hs := ux_sk_le (b := b) he
  by_cases z : T ≤ ux_sk b T e
  · refine Or.inl ⟨?_, by omega⟩
    unfold ux_kd
    rw [if_pos z]
  · refine Or.inr ⟨by omega, ?_⟩
    by_cases z1 : 97 ≤ b (ux_sk b T e) ∧ b (ux_sk b T e) ≤ 122
    · have k : ux_kd b T e = 1 := by unfold ux_kd; rw [if_neg z, if_pos z1]
      refine Or.inl ⟨k, z1.1, z1.2, ?_⟩
      unfold ux_ed
      rw [if_pos k]
    · by_cases z2 : 48 ≤ b (ux_sk b T e) ∧ b (ux_sk b T e) ≤ 57
      · have k : ux_kd b T e = 2 := by unfold ux_kd; rw [if_neg z, if_neg z1, if_pos z2]
        refine Or.inr (Or.inl ⟨k, z1, z2.1, z2.2, ?_⟩)
        unfold ux_ed
        rw [if_neg (by omega), if_pos k]
      · by_cases z3 : b (ux_sk b T e) = 59
        · have k : ux_kd b T e = 3 := by unfold ux_kd; rw [if_neg z, if_neg z1, if_neg z2, if_pos z3]
          refine Or.inr (Or.inr (Or.inl ⟨k, z1, z2, z3, ?_⟩))
          unfold ux_ed
          rw [if_neg (by omega), if_neg (by omega)]
        · have k : ux_kd b T e = 4 := by unfold ux_kd; rw [if_neg z, if_neg z1, if_neg z2, if_neg z3]
          refine Or.inr (Or.inr (Or.inr ⟨k, z1, z2, z3, ?_⟩))
          unfold ux_ed
          rw [if_neg (by omega), if_neg (by omega)]
theorem ux_ed_le (he : e ≤ T) (hs : ux_sk b T e < T) : ux_sk b T e < ux_ed b T e ∧ ux_ed b T e ≤ T := by
  obtain ⟨d, hd⟩ : ∃ d, T - ux_sk b T e = d + 1 := ⟨T - ux_sk b T e - 1, by omega⟩
  rcases ux_tk (b := b) he with ⟨k, z⟩ | ⟨z, q⟩
  · omega
  · rcases q with ⟨k, q1, q2, q3⟩ | ⟨k, q1, q2, q3, q4⟩ | ⟨k, q1, q2, q3, q4⟩ | ⟨k, q1, q2, q3, q4⟩
    · rw [q3, hd]
      have h1 := ux_er_pos (d := d) ⟨q1, q2⟩
      have h2 := (ux_er_le (b := b) (lo := 97) (hi := 122) (d + 1) (ux_sk b T e)).2
      omega
    · rw [q4, hd]
      have h1 := ux_er_pos (d := d) ⟨q2, q3⟩
      have h2 := (ux_er_le (b := b) (lo := 48) (hi := 57) (d + 1) (ux_sk b T e)).2
      omega
    · omega
    · omega
/-- the class's text -/
def ux_ct (b : Nat → Int32) (T : Nat) (μ : tw_M) : Prop := T ≤ 300 ∧ tw_gi μ 4 0 1 = nI T ∧ ∀ j, j < T → tw_gi μ 20 0 j = b j
theorem ux_ct.fr (c : ux_ct b T μ) (f1 : tw_gi μ' 4 0 1 = tw_gi μ 4 0 1) (f2 : ∀ j, tw_gi μ' 20 0 j = tw_gi μ 20 0 j) : ux_ct b T μ' :=
  ⟨c.1, f1.trans c.2.1, fun j hj => (f2 j).trans (c.2.2 j hj)⟩
theorem s_endOfRow (c : ux_ct b T μ) (hs : s ≤ T) : tw_call 5 [tw_R 4 0, tw_I (nI s), tw_I lo, tw_I hi] μ = some (some (tw_I (nI (ux_er b lo hi (T - s) s))), μ) := by
  obtain ⟨hT, h1, h2⟩ := c
  have loop : ∀ (d s : Nat) (o1 : Option tw_V), s + d = T → tw_run 5 7 [some (tw_R 4 0), o1, some (tw_I lo), some (tw_I hi), some (tw_I (nI s))] [] μ = some (some (tw_I (nI (ux_er b lo hi d s))), μ) := by
    intro d
    induction d with
    | zero =>
      intro s o1 hs
      have : s = T := by omega
      subst this
      rw [tb_5_7, h1, if_pos (nI_le (Nat.le_refl _) (by omega)), tb_5_57, h1]
      rfl
    | succ d ih =>
      intro s o1 hs
      have sT : s < T := by omega
      have hin : tw_in (nI s) (tw_al 20) := tn_in (show s < 300 by omega) (by decide)
      have hcl : (nI s).toNatClampNeg = s := nI_clamp (by omega)
      rw [tb_5_7, h1, if_neg (nI_ge sT (by omega)), tb_5_16, if_neg (show ¬ nI (tw_al 20) ≤ nI s from nI_ge (b := 300) (by omega) (by omega)), tb_5_26, if_pos hin, hcl, h2 s sT, tb_5_33, ux_er]
      by_cases z1 : lo ≤ b s
      · rw [if_neg (tn_l1 z1), tb_5_37, if_pos hin, hcl, h2 s sT, tb_5_44]
        by_cases z2 : b s ≤ hi
        · rw [if_pos z2, tb_5_51, nI_1, if_pos ⟨z1, z2⟩]
          exact ih (s + 1) _ (by omega)
        · rw [if_neg z2, tb_5_48, if_neg (fun q => z2 q.2)]
      · rw [if_pos (tn_l2 z1), tb_5_48, if_neg (fun q => z1 q.1)]
  rw [te_5, tb_5_0, if_neg (nI_pos (by omega))]
  exact loop (T - s) s _ (by omega)
theorem s_next (c : ux_ct b T μ) (he : e ≤ T) (h3 : tw_gi μ 4 0 3 = nI e) : ∃ μ', tw_call 7 [tw_R 4 0] μ = some (none, μ') ∧ ux_fr (fun k n j => k = 4 ∧ n = 0 ∧ 2 ≤ j ∧ j ≤ 4) μ μ' ∧ tw_gi μ' 4 0 2 = nI (ux_sk b T e) ∧ tw_gi μ' 4 0 3 = nI (ux_ed b T e) ∧ tw_gi μ' 4 0 4 = nI (ux_kd b T e) := by
  have hT := c.1
  obtain ⟨hs1, hs2⟩ := ux_sk_le (b := b) he
  obtain ⟨s, hs⟩ : ∃ s, s = ux_sk b T e := ⟨_, rfl⟩
  have hc : ∀ (w : Nat) (v : Int32) (μ : tw_M), ux_ct b T μ → w ≠ 1 → ux_ct b T (tw_si μ 4 0 w v) := fun w v μ c hw => c.fr (by rw [tw_gi_ne (by omega)]) (fun j => by rw [tw_gi_ne (by omega)])
  have tk := ux_tk (b := b) he
  rw [← hs] at hs1 hs2 tk ⊢
  have c1 := hc 2 (nI s) μ c (by omega)
  obtain ⟨e1, he1⟩ : ∃ e1, e1 = ux_er b 97 122 (T - s) s := ⟨_, rfl⟩
  obtain ⟨l1, l2⟩ := ux_er_le (b := b) (lo := 97) (hi := 122) (T - s) s
  rw [← he1] at l1 l2
  have call0 : tw_call 5 [tw_R 4 0, tw_I (nI e), tw_I 32, tw_I 32] μ = some (some (tw_I (nI s)), μ) := by
    rw [s_endOfRow c he, hs]
    rfl
  rw [te_7, tb_7_0, h3, call0]
  simp only [Option.bind_some, Option.toList_some, Option.toList_none, List.cons_append, List.nil_append, List.append_nil, tb_7_13]
  rw [tw_gi_eq, s_endOfRow c1 hs2, ← he1]
  simp only [Option.bind_some, Option.toList_some, Option.toList_none, List.cons_append, List.nil_append, List.append_nil, tb_7_29]
  have v2 : tw_gi (tw_si (tw_si (tw_si μ 4 0 2 (nI s)) 4 0 3 (nI e1)) 4 0 4 1) 4 0 2 = nI s := by rw [tw_gi_ne (by omega), tw_gi_ne (by omega), tw_gi_eq]
  have v3 : tw_gi (tw_si (tw_si (tw_si μ 4 0 2 (nI s)) 4 0 3 (nI e1)) 4 0 4 1) 4 0 3 = nI e1 := by rw [tw_gi_ne (by omega), tw_gi_eq]
  rw [v2, v3]
  have fr1 : ux_fr (fun k n j => k = 4 ∧ n = 0 ∧ 2 ≤ j ∧ j ≤ 4) μ (tw_si (tw_si (tw_si μ 4 0 2 (nI s)) 4 0 3 (nI e1)) 4 0 4 1) := by
    refine ux_fr.si (ux_fr.si (ux_fr.si ux_fr.rf ?_) ?_) ?_
    all_goals omega
  by_cases z1 : s < e1
  · -- a word
    have hw : s < T ∧ 97 ≤ b s ∧ b s ≤ 122 := by
      have := ux_er_in (b := b) (lo := 97) (hi := 122) (T - s) s s (Nat.le_refl _) (by rw [← he1]; exact z1)
      exact ⟨by omega, this.1, this.2⟩
    rw [if_neg (nI_ge z1 (by omega)), tb_7_48]
    refine ⟨_, rfl, fr1, v2, v3.trans ?_, tw_gi_eq.trans ?_⟩
    · rcases tk with ⟨k, z⟩ | ⟨z, ⟨k, q1, q2, q3⟩ | ⟨k, q1, q2, q3, q4⟩ | ⟨k, q1, q2, q3, q4⟩ | ⟨k, q1, q2, q3, q4⟩⟩
      · omega
      · rw [q3, he1]
      · exact absurd hw.2 q1
      · exact absurd hw.2 q1
      · exact absurd hw.2 q1
    · rcases tk with ⟨k, z⟩ | ⟨z, ⟨k, q1, q2, q3⟩ | ⟨k, q1, q2, q3, q4⟩ | ⟨k, q1, q2, q3, q4⟩ | ⟨k, q1, q2, q3, q4⟩⟩
      · omega
      · rw [k]; rfl
      · exact absurd hw.2 q1
      · exact absurd hw.2 q1
      · exact absurd hw.2 q1
  · have hn1 : ∀ q : 97 ≤ b s ∧ b s ≤ 122, s < T → False := fun q hT2 => by
      obtain ⟨d, hd⟩ : ∃ d, T - s = d + 1 := ⟨T - s - 1, by omega⟩
      rw [hd] at he1
      have := ux_er_pos (d := d) q
      omega
    obtain ⟨μ1, hμ1⟩ : ∃ μ1, μ1 = tw_si (tw_si (tw_si μ 4 0 2 (nI s)) 4 0 3 (nI e1)) 4 0 4 1 := ⟨_, rfl⟩
    rw [← hμ1] at v2 v3 fr1 ⊢
    have c2 : ux_ct b T μ1 := by
      rw [hμ1]
      exact hc 4 _ _ (hc 3 _ _ c1 (by omega)) (by omega)
    obtain ⟨e2, he2⟩ : ∃ e2, e2 = ux_er b 48 57 (T - s) s := ⟨_, rfl⟩
    obtain ⟨m1, m2⟩ := ux_er_le (b := b) (lo := 48) (hi := 57) (T - s) s
    rw [← he2] at m1 m2
    rw [if_pos (nI_le (by omega) (by omega)), tb_7_49, v2, s_endOfRow c2 hs2, ← he2]
    simp only [Option.bind_some, Option.toList_some, Option.toList_none, List.cons_append, List.nil_append, List.append_nil, tb_7_62]
    have w2 : tw_gi (tw_si (tw_si μ1 4 0 3 (nI e2)) 4 0 4 2) 4 0 2 = nI s := by rw [tw_gi_ne (by omega), tw_gi_ne (by omega), v2]
    have w3 : tw_gi (tw_si (tw_si μ1 4 0 3 (nI e2)) 4 0 4 2) 4 0 3 = nI e2 := by rw [tw_gi_ne (by omega), tw_gi_eq]
    rw [w2, w3]
    have fr2 : ux_fr (fun k n j => k = 4 ∧ n = 0 ∧ 2 ≤ j ∧ j ≤ 4) μ (tw_si (tw_si μ1 4 0 3 (nI e2)) 4 0 4 2) := by
      refine ux_fr.si (ux_fr.si fr1 ?_) ?_
      all_goals omega
    by_cases z2 : s < e2
    · have hw : s < T ∧ 48 ≤ b s ∧ b s ≤ 57 := by
        have := ux_er_in (b := b) (lo := 48) (hi := 57) (T - s) s s (Nat.le_refl _) (by rw [← he2]; exact z2)
        exact ⟨by omega, this.1, this.2⟩
      rw [if_neg (nI_ge z2 (by omega)), tb_7_81]
      refine ⟨_, rfl, fr2, w2, w3.trans ?_, tw_gi_eq.trans ?_⟩
      · rcases tk with ⟨k, z⟩ | ⟨z, ⟨k, q1, q2, q3⟩ | ⟨k, q1, q2, q3, q4⟩ | ⟨k, q1, q2, q3, q4⟩ | ⟨k, q1, q2, q3, q4⟩⟩
        · omega
        · exact absurd hw.1 (fun _ => hn1 ⟨q1, q2⟩ z)
        · rw [q4, he2]
        · exact absurd hw.2 q2
        · exact absurd hw.2 q2
      · rcases tk with ⟨k, z⟩ | ⟨z, ⟨k, q1, q2, q3⟩ | ⟨k, q1, q2, q3, q4⟩ | ⟨k, q1, q2, q3, q4⟩ | ⟨k, q1, q2, q3, q4⟩⟩
        · omega
        · exact absurd hw.1 (fun _ => hn1 ⟨q1, q2⟩ z)
        · rw [k]; rfl
        · exact absurd hw.2 q2
        · exact absurd hw.2 q2
    · have hn2 : ∀ q : 48 ≤ b s ∧ b s ≤ 57, s < T → False := fun q hT2 => by
        obtain ⟨d, hd⟩ : ∃ d, T - s = d + 1 := ⟨T - s - 1, by omega⟩
        rw [hd] at he2
        have := ux_er_pos (d := d) q
        omega
      obtain ⟨μ2, hμ2⟩ : ∃ μ2, μ2 = tw_si (tw_si μ1 4 0 3 (nI e2)) 4 0 4 2 := ⟨_, rfl⟩
      rw [← hμ2] at w2 w3 fr2 ⊢
      have c3 : ux_ct b T μ2 := by
        rw [hμ2]
        exact hc 4 _ _ (hc 3 _ _ c2 (by omega)) (by omega)
      have fin : ∀ v : Int32, tw_run 7 119 [some (tw_R 4 0)] [tw_I v, tw_R 4 0] μ2 = some (none, tw_si (tw_si μ2 4 0 4 v) 4 0 3 (nI (s + 1))) ∧ ux_fr (fun k n j => k = 4 ∧ n = 0 ∧ 2 ≤ j ∧ j ≤ 4) μ (tw_si (tw_si μ2 4 0 4 v) 4 0 3 (nI (s + 1))) ∧ tw_gi (tw_si (tw_si μ2 4 0 4 v) 4 0 3 (nI (s + 1))) 4 0 2 = nI s ∧ tw_gi (tw_si (tw_si μ2 4 0 4 v) 4 0 3 (nI (s + 1))) 4 0 3 = nI (s + 1) ∧ tw_gi (tw_si (tw_si μ2 4 0 4 v) 4 0 3 (nI (s + 1))) 4 0 4 = v := by
        intro v
        refine ⟨?_, ?_, ?_, tw_gi_eq, ?_⟩
        · rw [tb_7_119, tw_gi_ne (by omega), w2, nI_1]
        · refine ux_fr.si (ux_fr.si fr2 ?_) ?_
          all_goals omega
        · rw [tw_gi_ne (by omega), tw_gi_ne (by omega), w2]
        · rw [tw_gi_ne (by omega), tw_gi_eq]
      rw [if_pos (nI_le (by omega) (by omega)), tb_7_82, w2, c3.2.1]
      rcases tk with ⟨k, z⟩ | ⟨z, ⟨k, q1, q2, q3⟩ | ⟨k, q1, q2, q3, q4⟩ | ⟨k, q1, q2, q3, q4⟩ | ⟨k, q1, q2, q3, q4⟩⟩
      · obtain ⟨t1, t2, t3, t4, t5⟩ := fin 0
        have ed : ux_ed b T e = s + 1 := by
          unfold ux_ed
          rw [if_neg (by omega), if_neg (by omega), hs]
        rw [if_neg (nI_nlt (by omega) (by omega)), tb_7_94, t1, ed, k]
        exact ⟨_, rfl, t2, t3, t4, t5⟩
      · exact absurd z (fun _ => hn1 ⟨q1, q2⟩ z)
      · exact absurd z (fun _ => hn2 ⟨q2, q3⟩ z)
      · obtain ⟨t1, t2, t3, t4, t5⟩ := fin 3
        rw [if_pos (nI_lt z (by omega)), tb_7_98, w2, s_at (k := 20) rfl, tw_rd_p (μ := μ2) (k := 20) (n := 0) 300 rfl (show s < 300 by omega), c3.2.2 s z]
        simp only [Option.bind_some, Option.toList_some, Option.toList_none, List.cons_append, List.nil_append, List.append_nil, tb_7_109]
        rw [if_pos q3, tb_7_114, t1, q4, k]
        exact ⟨_, rfl, t2, t3, t4, t5⟩
      · obtain ⟨t1, t2, t3, t4, t5⟩ := fin 4
        rw [if_pos (nI_lt z (by omega)), tb_7_98, w2, s_at (k := 20) rfl, tw_rd_p (μ := μ2) (k := 20) (n := 0) 300 rfl (show s < 300 by omega), c3.2.2 s z]
        simp only [Option.bind_some, Option.toList_some, Option.toList_none, List.cons_append, List.nil_append, List.append_nil, tb_7_109]
        rw [if_neg q3, tb_7_118, t1, q4, k]
        exact ⟨_, rfl, t2, t3, t4, t5⟩
end
