/-! numbers -/
theorem tn_bo0 {μ : tw_M} : tw_bo .boolean 0 μ = some (some (tw_I 0), μ) := rfl
theorem tn_bo1 {μ : tw_M} : tw_bo .boolean 1 μ = some (some (tw_I 1), μ) := rfl
theorem tn_boi {μ : tw_M} {c : Prop} [d : Decidable c] : tw_bo .boolean (if c then 1 else 0) μ = some (some (tw_I (if c then 1 else 0)), μ) := by
  by_cases h : c
  · rw [if_pos h]; rfl
  · rw [if_neg h]; rfl
theorem tn_in {j n : Nat} (h : j < n) (hn : n < 2 ^ 31) : tw_in (nI j) n := vp_in_nI h hn
theorem tn_z {c : Prop} [d : Decidable c] : ((if c then (1 : Int32) else 0) = 0) = ¬ c := by
  by_cases h : c
  · simp [h]
  · simp [h]
theorem tn_lt {a b : Nat} (ha : a < 2 ^ 31) (hb : b < 2 ^ 31) : (nI a < nI b) = (a < b) := propext (nI_ltI ha hb)
theorem tn_le {a b : Nat} (ha : a < 2 ^ 31) (hb : b < 2 ^ 31) : (nI a ≤ nI b) = (a ≤ b) := propext (nI_leI ha hb)
theorem tn_eq {a b : Nat} (ha : a < 2 ^ 31) (hb : b < 2 ^ 31) : (nI a = nI b) = (a = b) := propext (nI_eq ha hb)
theorem tn_n0 {a : Nat} (ha : a < 2 ^ 31) : (nI a < 0) = False := eq_false (nI_pos ha)
theorem tn_of_in {x : Int32} {n : Nat} (h : tw_in x n) (hn : n < 2 ^ 31) : ∃ j : Nat, j < n ∧ x = nI j := vp_in_of h hn
theorem tn_al (k : Nat) : tw_al k < 2 ^ 31 := by
  unfold tw_al
  rw [List.getD_eq_getElem?_getD]
  cases h : tw_alT[k - 10]? with
  | none => show 0 < 2 ^ 31; decide
  | some v =>
    have hm := List.mem_of_getElem? h
    have : ∀ v ∈ tw_alT, v < 2 ^ 31 := by decide
    exact this v hm
/-- not in a range: it is below 0 or too large -/
theorem tn_out {x : Int32} {n : Nat} (hn : n < 2 ^ 31) (h0 : ¬ x < 0) (h1 : ¬ nI n ≤ x) : tw_in x n := by
  obtain ⟨j, hj, rfl⟩ := nI_of h0
  refine tn_in ?_ hn
  rw [nI_leI hn hj] at h1
  omega
theorem tn_in_lt {x : Int32} {n : Nat} (hn : n < 2 ^ 31) (h : tw_in x n) : ¬ x < 0 ∧ ¬ nI n ≤ x := by
  obtain ⟨j, hj, rfl⟩ := tn_of_in h hn
  exact ⟨nI_pos (by omega), by rw [nI_leI hn (by omega)]; omega⟩
/-! reading and writing a row -/
def tw_rd (μ : tw_M) (k n : Nat) (x : Int32) : Int32 := if tw_in x (tw_al k) then tw_gi μ k n x.toNatClampNeg else 0
def tw_wr (μ : tw_M) (k n : Nat) (x v : Int32) : tw_M := if tw_in x (tw_al k) then tw_si μ k n x.toNatClampNeg v else μ
theorem tw_rd_n {μ : tw_M} {k n j : Nat} (h : j < tw_al k) : tw_rd μ k n (nI j) = tw_gi μ k n j := by
  have ha := tn_al k
  unfold tw_rd
  rw [if_pos (tn_in h ha), nI_clamp (by omega)]
theorem tw_wr_n {μ : tw_M} {k n j : Nat} {v : Int32} (h : j < tw_al k) : tw_wr μ k n (nI j) v = tw_si μ k n j v := by
  have ha := tn_al k
  unfold tw_wr
  rw [if_pos (tn_in h ha), nI_clamp (by omega)]
theorem s_at {k n : Nat} {x : Int32} {μ : tw_M} (hk : tw_ia k = true) : tw_call 6 [tw_R k n, tw_I x] μ = some (some (tw_I (tw_rd μ k n x)), μ) := by
  simp only [te_6, tb_6_0 hk, tb_6_16, tb_6_4 hk, tb_6_17, tb_6_7 hk, tb_6_10 hk, tb_6_13]
  unfold tw_rd
  have ha := tn_al k
  by_cases h : tw_in x (tw_al k)
  · obtain ⟨h1, h2⟩ := tn_in_lt ha h
    rw [if_neg h1, if_neg h2, if_pos h, if_pos h]
  · by_cases h1 : x < 0
    · rw [if_pos h1, if_neg h]
    · by_cases h2 : nI (tw_al k) ≤ x
      · rw [if_neg h1, if_pos h2, if_neg h]
      · exact absurd (tn_out ha h1 h2) h
theorem s_put {k n : Nat} {x v : Int32} {μ : tw_M} (hk : tw_ia k = true) : tw_call 0 [tw_R k n, tw_I x, tw_I v] μ = some (none, tw_wr μ k n x v) := by
  simp only [te_0, tb_0_0 hk, tb_0_14, tb_0_4 hk, tb_0_7 hk, tb_0_10 hk]
  unfold tw_wr
  have ha := tn_al k
  by_cases h : tw_in x (tw_al k)
  · obtain ⟨h1, h2⟩ := tn_in_lt ha h
    rw [if_neg h1, if_neg h2, if_pos h, if_pos h]
  · by_cases h1 : x < 0
    · rw [if_pos h1, if_neg h]
    · by_cases h2 : nI (tw_al k) ≤ x
      · rw [if_neg h1, if_pos h2, if_neg h]
      · exact absurd (tn_out ha h1 h2) h
/-- a row copied, its first N places -/
def tw_cp (μ : tw_M) (k n k' n' N : Nat) : tw_M := (fun a b c => if a = k' ∧ b = n' ∧ c < N then μ.1 k n c else μ.1 a b c, μ.2)
theorem tw_gi_cp {μ : tw_M} {k n k' n' N a b c : Nat} : tw_gi (tw_cp μ k n k' n' N) a b c = if a = k' ∧ b = n' ∧ c < N then tw_gi μ k n c else tw_gi μ a b c := rfl
theorem tw_gl_cp {μ : tw_M} {k n k' n' N a : Nat} : tw_gl (tw_cp μ k n k' n' N) a = tw_gl μ a := rfl
theorem tw_cp_0 {μ : tw_M} {k n k' n' : Nat} : tw_cp μ k n k' n' 0 = μ := by
  unfold tw_cp
  simp
theorem tw_cp_s {μ : tw_M} {k n k' n' N : Nat} (h : (k, n) ≠ (k', n')) : tw_si (tw_cp μ k n k' n' N) k' n' N (tw_gi (tw_cp μ k n k' n' N) k n N) = tw_cp μ k n k' n' (N + 1) := by
  have e : tw_gi (tw_cp μ k n k' n' N) k n N = μ.1 k n N := by
    rw [tw_gi_cp, if_neg]
    · rfl
    · rintro ⟨h1, h2, -⟩
      exact h (Prod.ext h1 h2)
  rw [e]
  unfold tw_si tw_cp
  refine Prod.ext ?_ rfl
  funext a b c
  dsimp only
  by_cases h1 : a = k' ∧ b = n'
  · obtain ⟨rfl, rfl⟩ := h1
    by_cases h2 : c = N
    · subst h2; simp
    · by_cases h3 : c < N
      · have : c < N + 1 := by omega
        simp [h2, h3, this]
      · have : ¬ c < N + 1 := by omega
        simp [h2, h3, this]
  · have n1 : ¬ (a = k' ∧ b = n' ∧ c = N) := fun z => h1 ⟨z.1, z.2.1⟩
    have n2 : ¬ (a = k' ∧ b = n' ∧ c < N) := fun z => h1 ⟨z.1, z.2.1⟩
    have n3 : ¬ (a = k' ∧ b = n' ∧ c < N + 1) := fun z => h1 ⟨z.1, z.2.1⟩
    rw [if_neg n1, if_neg n2, if_neg n3]
theorem s_copy {k n k' n' N : Nat} {μ : tw_M} (hk : tw_ia k = true) (hk' : tw_ia k' = true) (h1 : tw_al k = N) (h2 : tw_al k' = N) (hne : (k, n) ≠ (k', n')) : tw_call 29 [tw_R k n, tw_R k' n'] μ = some (none, tw_cp μ k n k' n' N) := by
  have hN : N < 2 ^ 31 := by rw [← h1]; exact tn_al k
  have loop : ∀ (d i : Nat), i + d = N → tw_run 29 2 [some (tw_R k n), some (tw_R k' n'), some (tw_I (nI i))] [] (tw_cp μ k n k' n' i) = some (none, tw_cp μ k n k' n' N) := by
    intro d
    induction d with
    | zero =>
      intro i hi
      have : i = N := by omega
      subst this
      rw [tb_29_2 hk hk', h1, tb_29_5 hk hk', if_pos (nI_le (Nat.le_refl _) hN), tb_29_26]
    | succ d ih =>
      intro i hi
      have hlt : i < N := by omega
      rw [tb_29_2 hk hk', h1, tb_29_5 hk hk', if_neg (nI_ge hlt hN), tb_29_8 hk hk', h2, tb_29_11 hk hk', if_neg (nI_ge hlt hN), tb_29_14 hk hk', h1, if_pos (tn_in hlt hN), tb_29_19 hk hk' hk', h2, if_pos (tn_in hlt hN), nI_clamp (by omega), tw_cp_s hne, tb_29_20 hk hk', nI_1]
      exact ih (i + 1) (by omega)
  rw [te_29, tb_29_0 hk hk']
  have := loop N 0 (by omega)
  rw [tw_cp_0] at this
  exact this
def tw_bit (b i : Int32) : Prop := ¬ ((b >>> (i &&& 31)) &&& 1 = 0)
noncomputable def tw_bv (b i : Int32) : Int32 := if ((b >>> (i &&& 31)) &&& 1) = 0 then 0 else 1
theorem s_hasBit {b i : Int32} {μ : tw_M} : tw_call 37 [tw_I b, tw_I i] μ = some (some (tw_I (tw_bv b i)), μ) := by
  simp only [te_37, tb_37_0, tb_37_12, tb_37_8, tb_37_13]
  unfold tw_bv
  split <;> rfl
