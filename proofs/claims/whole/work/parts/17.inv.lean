/-! what holds of the class's cells, and how the reference's stand to them -/
/-- a number below b -/
def tw_bd (x : Int32) (b : Nat) : Prop := ∃ j : Nat, j < b ∧ x = nI j
theorem tw_bd.eq {x : Int32} {b : Nat} (h : tw_bd x b) (hb : b ≤ 2 ^ 31) : x = nI x.toNatClampNeg ∧ x.toNatClampNeg < b := by
  obtain ⟨j, hj, rfl⟩ := h
  rw [nI_clamp (by omega)]
  exact ⟨rfl, hj⟩
theorem tw_bd.mono {x : Int32} {b c : Nat} (h : tw_bd x b) (hc : b ≤ c) : tw_bd x c := by
  obtain ⟨j, hj, e⟩ := h
  exact ⟨j, by omega, e⟩
/-- how many sounds a saying has -/
def tw_ln (μ : tw_M) (n : Nat) : Nat := (tw_gi μ 2 n 2).toNatClampNeg
/-- how many sounds one heard -/
def tw_er (μ : tw_M) (n : Nat) : Nat := (tw_gi μ 1 n 2).toNatClampNeg
/-- a scene of the class: C sayings, the hour h -/
def tw_Is (P S N : Nat) (μ : tw_M) (i C h : Nat) : Prop :=
  C ≤ 8 ∧ h ≤ 99 ∧ tw_gi μ 3 i 3 = nI C ∧ tw_gi μ 3 i 4 = nI h ∧
  (∀ p, p < N → tw_bd (tw_gi μ 19 i p) P) ∧ (∀ p, N ≤ p → p < 4 → tw_gi μ 19 i p = -1) ∧
  (∀ p, p < N → tw_bd (tw_gi μ 1 (4 * i + p) 2) 61 ∧ ∀ j, j < tw_er μ (4 * i + p) → tw_bd (tw_gi μ 15 (4 * i + p) j) 8 ∧ tw_bd (tw_gi μ 16 (4 * i + p) j) 5) ∧
  (∀ k, k < C → tw_bd (tw_gi μ 2 (8 * i + k) 3) N ∧ tw_bd (tw_gi μ 2 (8 * i + k) 4) P ∧ tw_bd (tw_gi μ 2 (8 * i + k) 5) 100 ∧ tw_bd (tw_gi μ 2 (8 * i + k) 2) 5 ∧ 0 < tw_ln μ (8 * i + k) ∧
    ∀ j, j < tw_ln μ (8 * i + k) → tw_bd (tw_gi μ 17 (8 * i + k) j) S ∧ (tw_gi μ 18 (8 * i + k) j = -1 ∨ tw_bd (tw_gi μ 18 (8 * i + k) j) 100))
/-- the reference's row f says the same -/
def tw_Es (N : Nat) (μ : tw_M) (i : Nat) (f : Nat → Int32) (C : Nat) : Prop :=
  f 0 = tw_gi μ 3 i 4 ∧ f 1 = tw_gi μ 3 i 5 ∧ f 2 = tw_gi μ 3 i 3 ∧
  (∀ p, p < N → f (3 + p) = tw_gi μ 19 i p ∧ f (7 + p) = tw_gi μ 1 (4 * i + p) 2 ∧ ∀ j, j < tw_er μ (4 * i + p) → f (123 + 60 * p + j) = 8 * tw_gi μ 15 (4 * i + p) j + tw_gi μ 16 (4 * i + p) j) ∧
  (∀ k, k < C → f (11 + 14 * k) = tw_gi μ 2 (8 * i + k) 3 ∧ f (11 + 14 * k + 1) = tw_gi μ 2 (8 * i + k) 4 ∧ f (11 + 14 * k + 2) = tw_gi μ 2 (8 * i + k) 5 ∧ f (11 + 14 * k + 3) = tw_gi μ 2 (8 * i + k) 6 ∧ f (11 + 14 * k + 4) = tw_gi μ 2 (8 * i + k) 2 ∧ f (11 + 14 * k + 13) = tw_gi μ 2 (8 * i + k) 7 ∧
    ∀ j, j < tw_ln μ (8 * i + k) → f (11 + 14 * k + 5 + j) = tw_gi μ 17 (8 * i + k) j ∧ f (11 + 14 * k + 9 + j) = tw_gi μ 18 (8 * i + k) j)
/-- the cape -/
def tw_Ic (P H S N : Nat) (μ : tw_M) : Prop :=
  P ≤ 4 ∧ H ≤ 24 ∧ S ≤ 5 ∧ N ≤ 4 ∧ tw_gi μ 0 0 5 = nI P ∧ tw_gi μ 0 0 6 = nI H ∧ tw_gi μ 0 0 7 = nI S ∧ tw_gi μ 0 0 8 = nI N ∧
  (∀ p, p < P → tw_bd (tw_gi μ 10 0 p) 10) ∧ (∀ j, j < H → -20 ≤ (tw_gi μ 11 0 j).toInt ∧ (tw_gi μ 11 0 j).toInt ≤ 20) ∧ (∀ j, j < S → -9 ≤ (tw_gi μ 12 0 j).toInt ∧ (tw_gi μ 12 0 j).toInt ≤ 9) ∧
  (∀ p, p < N → tw_bd (tw_gi μ 13 0 p) 10 ∧ tw_bd (tw_gi μ 14 0 p) P)
def tw_Ec (P H S N : Nat) (μ ν : tw_M) : Prop :=
  tw_gi ν 6 0 14 = nI P ∧ tw_gi ν 6 0 15 = nI H ∧ tw_gi ν 6 0 16 = nI S ∧ tw_gi ν 6 0 17 = nI N ∧
  (∀ p, p < P → tw_gi ν 31 0 p = tw_gi μ 10 0 p) ∧ (∀ j, j < H → tw_gi ν 32 0 j = tw_gi μ 11 0 j) ∧ (∀ j, j < S → tw_gi ν 33 0 j = tw_gi μ 12 0 j) ∧
  (∀ p, p < N → tw_gi ν 34 0 p = tw_gi μ 13 0 p ∧ tw_gi ν 35 0 p = tw_gi μ 14 0 p)
/-- the text -/
def tw_Et (T : Nat) (μ ν : tw_M) : Prop :=
  T ≤ 300 ∧ tw_gi μ 4 0 1 = nI T ∧ tw_gi ν 6 0 3 = nI T ∧ ∀ j, j < T → tw_bd (tw_gi μ 20 0 j) 256 ∧ tw_gi ν 30 0 j = tw_gi μ 20 0 j
def tw_f0 (ν : tw_M) : Nat → Int32 := fun j => tw_gi ν 36 0 j
def tw_f1 (ν : tw_M) (m : Nat) : Nat → Int32 := fun j => tw_gi ν 37 0 (363 * m + j)
/-- the images -/
def tw_Ei (P S N : Nat) (μ ν : tw_M) : Prop :=
  ∀ m, m < 2 → tw_gi ν 38 0 m = tw_gi μ 3 (m + 1) 6 ∧ (tw_gi μ 3 (m + 1) 6 = 0 ∨ (tw_gi μ 3 (m + 1) 6 = 1 ∧ ∃ C h, tw_Is P S N μ (m + 1) C h ∧ tw_Es N μ (m + 1) (tw_f1 ν m) C))
/-- NOW, of which C sayings, the hour h -/
def tw_Rn (P H S N C h : Nat) (μ ν : tw_M) : Prop := tw_Ic P H S N μ ∧ tw_Ec P H S N μ ν ∧ tw_Is P S N μ 0 C h ∧ tw_Es N μ 0 (tw_f0 ν) C
/-- the two hold the same -/
def tw_Rl (μ ν : tw_M) : Prop := ∃ P H S N C h T, tw_Rn P H S N C h μ ν ∧ tw_Et T μ ν ∧ tw_Ei P S N μ ν ∧ tw_gl μ 5 = tw_gl ν 6
/-! counting -/
def tw_cn (p : Nat → Bool) : Nat → Nat
  | 0 => 0
  | n + 1 => tw_cn p n + (if p n = true then 1 else 0)
theorem tw_cn_le (p : Nat → Bool) : ∀ n, tw_cn p n ≤ n
  | 0 => Nat.le_refl 0
  | n + 1 => by
    have := tw_cn_le p n
    rw [tw_cn]
    split <;> omega
theorem tw_cn_eq {p q : Nat → Bool} : ∀ {n : Nat}, (∀ j, j < n → p j = q j) → tw_cn p n = tw_cn q n
  | 0, _ => rfl
  | n + 1, h => by rw [tw_cn, tw_cn, tw_cn_eq (fun j hj => h j (by omega)), h n (by omega)]
def tw_sm (f : Nat → Nat) : Nat → Nat
  | 0 => 0
  | n + 1 => tw_sm f n + f n
theorem tw_sm_le {f : Nat → Nat} {b : Nat} : ∀ {n : Nat}, (∀ j, j < n → f j ≤ b) → tw_sm f n ≤ b * n
  | 0, _ => Nat.zero_le _
  | n + 1, h => by
    have h1 := tw_sm_le (f := f) (b := b) (n := n) (fun j hj => h j (by omega))
    have h2 := h n (by omega)
    rw [tw_sm, Nat.mul_succ]
    omega
theorem tw_sm_eq {f g : Nat → Nat} : ∀ {n : Nat}, (∀ j, j < n → f j = g j) → tw_sm f n = tw_sm g n
  | 0, _ => rfl
  | n + 1, h => by rw [tw_sm, tw_sm, tw_sm_eq (fun j hj => h j (by omega)), h n (by omega)]
/-- whether a sound still hangs; how many do; how many at a place -/
def tw_hb (μ : tw_M) (n j : Nat) : Bool := decide (tw_gi μ 18 n j = -1)
def tw_hg (μ : tw_M) (n : Nat) : Nat := tw_cn (tw_hb μ n) (tw_ln μ n)
def tw_hp (μ : tw_M) (w : Int32) (C : Nat) : Nat := tw_sm (fun k => if tw_gi μ 2 k 4 = w then tw_hg μ k else 0) C
/-- warmth, air -/
def tw_wt (μ : tw_M) (H h : Nat) : Int32 := if H = 0 then 0 else tw_gi μ 11 0 (if h < H then h else H - 1)
def tw_ac (μ : tw_M) (H p h : Nat) : Int32 := tw_wt μ H h - tw_gi μ 10 0 p
def tw_lt (μ : tw_M) (p : Nat) : Prop := ¬ tw_bv (tw_gi μ 3 0 5) (nI p) = 0
noncomputable def tw_ai (μ : tw_M) (H p h : Nat) : Int32 := @ite _ (nI h = tw_gi μ 3 0 4 ∧ tw_lt μ p) (Classical.propDecidable _) (tw_ac μ H p h + 5) (tw_ac μ H p h)
