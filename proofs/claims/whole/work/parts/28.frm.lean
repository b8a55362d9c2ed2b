/-! what a change leaves as it was -/
theorem tw_gi_ne {μ : tw_M} {k n j k' n' j' : Nat} {v : Int32} (h : ¬ (k' = k ∧ n' = n ∧ j' = j)) : tw_gi (tw_si μ k n j v) k' n' j' = tw_gi μ k' n' j' := if_neg h
theorem tw_gi_eq {μ : tw_M} {k n j : Nat} {v : Int32} : tw_gi (tw_si μ k n j v) k n j = v := if_pos ⟨rfl, rfl, rfl⟩
theorem ux_ne {μ : tw_M} {k n j k' : Nat} {v : Int32} (h : k' ≠ k) : tw_gi (tw_si μ k n j v) k' = tw_gi μ k' := by
  funext a b
  exact tw_gi_ne (fun q => h q.1)
def ux_fr (c : Nat → Nat → Nat → Prop) (μ μ' : tw_M) : Prop := (∀ k n j, ¬ c k n j → tw_gi μ' k n j = tw_gi μ k n j) ∧ ∀ k, tw_gl μ' k = tw_gl μ k
section
variable {c d : Nat → Nat → Nat → Prop} {μ μ' μ'' ν ν' : tw_M} {k n j a b C P H S N h T i : Nat} {v : Int32}
theorem ux_fr.rf : ux_fr c μ μ := ⟨fun _ _ _ _ => rfl, fun _ => rfl⟩
theorem ux_fr.si (f : ux_fr c μ μ') (hc : c k n j) : ux_fr c μ (tw_si μ' k n j v) := by
  refine ⟨fun k' n' j' h' => ?_, fun k' => f.2 k'⟩
  rw [tw_gi_ne]
  · exact f.1 k' n' j' h'
  · rintro ⟨rfl, rfl, rfl⟩
    exact h' hc
theorem ux_fr.cp {k' n' : Nat} (f : ux_fr c μ μ') (hc : ∀ j, j < N → c k' n' j) : ux_fr c μ (tw_cp μ' k n k' n' N) := by
  refine ⟨fun a b j h' => ?_, fun a => f.2 a⟩
  rw [tw_gi_cp, if_neg]
  · exact f.1 a b j h'
  · rintro ⟨rfl, rfl, hj⟩
    exact h' (hc j hj)
theorem ux_fr.tr (f : ux_fr c μ μ') (g : ux_fr c μ' μ'') : ux_fr c μ μ'' :=
  ⟨fun k n j h => (g.1 k n j h).trans (f.1 k n j h), fun k => (g.2 k).trans (f.2 k)⟩
theorem ux_fr.mo (f : ux_fr c μ μ') (hc : ∀ k n j, c k n j → d k n j) : ux_fr d μ μ' :=
  ⟨fun k n j h => f.1 k n j (fun q => h (hc k n j q)), f.2⟩
/-- the cape's cells; a scene's -/
def ux_c (k n : Nat) : Prop := n = 0 ∧ (k = 0 ∨ (10 ≤ k ∧ k ≤ 14))
def ux_s (i k n : Nat) : Prop := ((k = 3 ∨ k = 19) ∧ n = i) ∨ ((k = 1 ∨ k = 15 ∨ k = 16) ∧ 4 * i ≤ n ∧ n < 4 * i + 4) ∨ ((k = 2 ∨ k = 17 ∨ k = 18) ∧ 8 * i ≤ n ∧ n < 8 * i + 8)
theorem tw_Ic.fr (R : tw_Ic P H S N μ) (f : ∀ k n j, ux_c k n → tw_gi μ' k n j = tw_gi μ k n j) : tw_Ic P H S N μ' := by
  have f0 : tw_gi μ' 0 0 = tw_gi μ 0 0 := funext (fun j => f 0 0 j ⟨rfl, by omega⟩)
  have f1 : tw_gi μ' 10 0 = tw_gi μ 10 0 := funext (fun j => f 10 0 j ⟨rfl, by omega⟩)
  have f2 : tw_gi μ' 11 0 = tw_gi μ 11 0 := funext (fun j => f 11 0 j ⟨rfl, by omega⟩)
  have f3 : tw_gi μ' 12 0 = tw_gi μ 12 0 := funext (fun j => f 12 0 j ⟨rfl, by omega⟩)
  have f4 : tw_gi μ' 13 0 = tw_gi μ 13 0 := funext (fun j => f 13 0 j ⟨rfl, by omega⟩)
  have f5 : tw_gi μ' 14 0 = tw_gi μ 14 0 := funext (fun j => f 14 0 j ⟨rfl, by omega⟩)
  unfold tw_Ic at R ⊢
  rw [f0, f1, f2, f3, f4, f5]
  exact R
theorem tw_Ec.fr (R : tw_Ec P H S N μ ν) (f : ∀ k n j, ux_c k n → tw_gi μ' k n j = tw_gi μ k n j) (g : ∀ k j, ((k = 6 ∧ 14 ≤ j ∧ j ≤ 17) ∨ (31 ≤ k ∧ k ≤ 35)) → tw_gi ν' k 0 j = tw_gi ν k 0 j) : tw_Ec P H S N μ' ν' := by
  have f1 : tw_gi μ' 10 0 = tw_gi μ 10 0 := funext (fun j => f 10 0 j ⟨rfl, by omega⟩)
  have f2 : tw_gi μ' 11 0 = tw_gi μ 11 0 := funext (fun j => f 11 0 j ⟨rfl, by omega⟩)
  have f3 : tw_gi μ' 12 0 = tw_gi μ 12 0 := funext (fun j => f 12 0 j ⟨rfl, by omega⟩)
  have f4 : tw_gi μ' 13 0 = tw_gi μ 13 0 := funext (fun j => f 13 0 j ⟨rfl, by omega⟩)
  have f5 : tw_gi μ' 14 0 = tw_gi μ 14 0 := funext (fun j => f 14 0 j ⟨rfl, by omega⟩)
  have g1 : tw_gi ν' 31 0 = tw_gi ν 31 0 := funext (fun j => g 31 j (by omega))
  have g2 : tw_gi ν' 32 0 = tw_gi ν 32 0 := funext (fun j => g 32 j (by omega))
  have g3 : tw_gi ν' 33 0 = tw_gi ν 33 0 := funext (fun j => g 33 j (by omega))
  have g4 : tw_gi ν' 34 0 = tw_gi ν 34 0 := funext (fun j => g 34 j (by omega))
  have g5 : tw_gi ν' 35 0 = tw_gi ν 35 0 := funext (fun j => g 35 j (by omega))
  unfold tw_Ec at R ⊢
  rw [f1, f2, f3, f4, f5, g1, g2, g3, g4, g5, g 6 14 (by omega), g 6 15 (by omega), g 6 16 (by omega), g 6 17 (by omega)]
  exact R
theorem tw_Et.fr (R : tw_Et T μ ν) (f : ∀ k j, (k = 4 ∨ k = 20) → tw_gi μ' k 0 j = tw_gi μ k 0 j) (g : ∀ k j, ((k = 6 ∧ j = 3) ∨ k = 30) → tw_gi ν' k 0 j = tw_gi ν k 0 j) : tw_Et T μ' ν' := by
  have f1 : tw_gi μ' 20 0 = tw_gi μ 20 0 := funext (fun j => f 20 j (by omega))
  have g1 : tw_gi ν' 30 0 = tw_gi ν 30 0 := funext (fun j => g 30 j (by omega))
  unfold tw_Et at R ⊢
  rw [f1, g1, f 4 1 (by omega), g 6 3 (by omega)]
  exact R
/-- scene b behind holds what scene a held before -/
def ux_eq (a b C : Nat) (μ μ' : tw_M) : Prop :=
  (∀ w, 3 ≤ w → w ≤ 5 → tw_gi μ' 3 b w = tw_gi μ 3 a w) ∧
  (∀ p, p < 4 → tw_gi μ' 19 b p = tw_gi μ 19 a p ∧ tw_gi μ' 1 (4 * b + p) 2 = tw_gi μ 1 (4 * a + p) 2 ∧ ∀ j, j < 60 → tw_gi μ' 15 (4 * b + p) j = tw_gi μ 15 (4 * a + p) j ∧ tw_gi μ' 16 (4 * b + p) j = tw_gi μ 16 (4 * a + p) j) ∧
  (∀ k, k < C → (∀ w, 2 ≤ w → w ≤ 7 → tw_gi μ' 2 (8 * b + k) w = tw_gi μ 2 (8 * a + k) w) ∧ ∀ j, j < 4 → tw_gi μ' 17 (8 * b + k) j = tw_gi μ 17 (8 * a + k) j ∧ tw_gi μ' 18 (8 * b + k) j = tw_gi μ 18 (8 * a + k) j)
theorem ux_eq.of (hC : C ≤ 8) (f : ∀ k n j, ux_s i k n → tw_gi μ' k n j = tw_gi μ k n j) : ux_eq i i C μ μ' := by
  refine ⟨fun w _ _ => f _ _ _ (by unfold ux_s; omega), fun p hp => ⟨f _ _ _ (by unfold ux_s; omega), f _ _ _ (by unfold ux_s; omega), fun j _ => ⟨f _ _ _ (by unfold ux_s; omega), f _ _ _ (by unfold ux_s; omega)⟩⟩, fun k hk => ⟨fun w _ _ => f _ _ _ (by unfold ux_s; omega), fun j _ => ⟨f _ _ _ (by unfold ux_s; omega), f _ _ _ (by unfold ux_s; omega)⟩⟩⟩
theorem tw_Is.tf (R : tw_Is P S N μ a C h) (hN : N ≤ 4) (e : ux_eq a b C μ μ') : tw_Is P S N μ' b C h := by
  obtain ⟨i1, i2, i3, i4, i5, i6, i7, i8⟩ := R
  obtain ⟨e1, e2, e3⟩ := e
  refine ⟨i1, i2, (e1 3 (by omega) (by omega)).trans i3, (e1 4 (by omega) (by omega)).trans i4, fun p hp => ?_, fun p h1 h2 => ?_, fun p hp => ?_, fun k hk => ?_⟩
  · rw [(e2 p (by omega)).1]; exact i5 p hp
  · rw [(e2 p (by omega)).1]; exact i6 p h1 h2
  · obtain ⟨-, q2, q3⟩ := e2 p (by omega)
    obtain ⟨j1, j2⟩ := i7 p hp
    have er : tw_er μ' (4 * b + p) = tw_er μ (4 * a + p) := by unfold tw_er; rw [q2]
    have lt : tw_er μ (4 * a + p) < 61 := (j1.eq (by omega)).2
    refine ⟨by rw [q2]; exact j1, fun j hj => ?_⟩
    rw [er] at hj
    obtain ⟨q4, q5⟩ := q3 j (by omega)
    rw [q4, q5]
    exact j2 j hj
  · obtain ⟨q1, q2⟩ := e3 k hk
    obtain ⟨j1, j2, j3, j4, j5, j6⟩ := i8 k hk
    have ln : tw_ln μ' (8 * b + k) = tw_ln μ (8 * a + k) := by unfold tw_ln; rw [q1 2 (by omega) (by omega)]
    have lt : tw_ln μ (8 * a + k) < 5 := (j4.eq (by omega)).2
    rw [q1 3 (by omega) (by omega), q1 4 (by omega) (by omega), q1 5 (by omega) (by omega), q1 2 (by omega) (by omega), ln]
    refine ⟨j1, j2, j3, j4, j5, fun j hj => ?_⟩
    obtain ⟨q3, q4⟩ := q2 j (by omega)
    rw [q3, q4]
    exact j6 j hj
theorem tw_Es.tf {f f' : Nat → Int32} (R : tw_Is P S N μ a C h) (E : tw_Es N μ a f C) (hN : N ≤ 4) (e : ux_eq a b C μ μ') (hf : ∀ j, j < 363 → f' j = f j) : tw_Es N μ' b f' C := by
  obtain ⟨i1, i2, i3, i4, i5, i6, i7, i8⟩ := R
  obtain ⟨k1, k2, k3, k4, k5⟩ := E
  obtain ⟨e1, e2, e3⟩ := e
  refine ⟨?_, ?_, ?_, fun p hp => ?_, fun k hk => ?_⟩
  · rw [hf 0 (by omega), e1 4 (by omega) (by omega)]; exact k1
  · rw [hf 1 (by omega), e1 5 (by omega) (by omega)]; exact k2
  · rw [hf 2 (by omega), e1 3 (by omega) (by omega)]; exact k3
  · obtain ⟨q1, q2, q3⟩ := e2 p (by omega)
    obtain ⟨j1, j2⟩ := i7 p hp
    obtain ⟨l1, l2, l3⟩ := k4 p hp
    have er : tw_er μ' (4 * b + p) = tw_er μ (4 * a + p) := by unfold tw_er; rw [q2]
    have lt : tw_er μ (4 * a + p) < 61 := (j1.eq (by omega)).2
    refine ⟨by rw [hf _ (by omega), q1]; exact l1, by rw [hf _ (by omega), q2]; exact l2, fun j hj => ?_⟩
    rw [er] at hj
    obtain ⟨q4, q5⟩ := q3 j (by omega)
    rw [hf _ (by omega), q4, q5]
    exact l3 j hj
  · obtain ⟨q1, q2⟩ := e3 k hk
    obtain ⟨j1, j2, j3, j4, j5, j6⟩ := i8 k hk
    obtain ⟨l0, l1, l2, l3, l4, l5, l6⟩ := k5 k hk
    have ln : tw_ln μ' (8 * b + k) = tw_ln μ (8 * a + k) := by unfold tw_ln; rw [q1 2 (by omega) (by omega)]
    have lt : tw_ln μ (8 * a + k) < 5 := (j4.eq (by omega)).2
    rw [hf _ (by omega), hf _ (by omega), hf _ (by omega), hf _ (by omega), hf _ (by omega), hf _ (by omega), q1 3 (by omega) (by omega), q1 4 (by omega) (by omega), q1 5 (by omega) (by omega), q1 6 (by omega) (by omega), q1 2 (by omega) (by omega), q1 7 (by omega) (by omega), ln]
    refine ⟨l0, l1, l2, l3, l4, l5, fun j hj => ?_⟩
    obtain ⟨q3, q4⟩ := q2 j (by omega)
    rw [hf _ (by omega), hf _ (by omega), q3, q4]
    exact l6 j hj
theorem tw_Ei.fr (R : tw_Ei P S N μ ν) (hN : N ≤ 4) (f : ∀ m k n j, m < 2 → ux_s (m + 1) k n → tw_gi μ' k n j = tw_gi μ k n j) (g : ∀ k j, (k = 37 ∨ k = 38) → tw_gi ν' k 0 j = tw_gi ν k 0 j) : tw_Ei P S N μ' ν' := by
  intro m hm
  obtain ⟨h1, h2⟩ := R m hm
  have e6 : tw_gi μ' 3 (m + 1) 6 = tw_gi μ 3 (m + 1) 6 := f m _ _ _ hm (by unfold ux_s; omega)
  rw [e6, g 38 m (by omega)]
  refine ⟨h1, ?_⟩
  rcases h2 with h2 | ⟨h2, C, h, h3, h4⟩
  · exact Or.inl h2
  · have e := ux_eq.of (μ := μ) (μ' := μ') (i := m + 1) h3.1 (fun k n j q => f m k n j hm q)
    exact Or.inr ⟨h2, C, h, h3.tf hN e, h4.tf h3 hN e (fun j _ => g 37 _ (by omega))⟩
/-- the scene NOW changed, and nothing else -/
def ux_now (k n _j : Nat) : Prop := ux_s 0 k n
def ux_m36 (k _n _j : Nat) : Prop := k = 36
/-- the rest behind a change of NOW -/
theorem ux_rest (h1 : tw_Ic P H S N μ) (h2 : tw_Ec P H S N μ ν) (h3 : tw_Et T μ ν) (h4 : tw_Ei P S N μ ν) (h5 : tw_gl μ 5 = tw_gl ν 6) (f : ux_fr ux_now μ μ') (g : ux_fr ux_m36 ν ν') (h6 : tw_Is P S N μ' 0 C h) (h7 : tw_Es N μ' 0 (tw_f0 ν') C) : tw_Rl μ' ν' := by
  have fc : ∀ k n j, ux_c k n → tw_gi μ' k n j = tw_gi μ k n j := fun k n j q => f.1 k n j (by unfold ux_now ux_s; unfold ux_c at q; omega)
  refine ⟨P, H, S, N, C, h, T, ⟨h1.fr fc, h2.fr fc (fun k j q => g.1 k 0 j (by unfold ux_m36; omega)), h6, h7⟩, ?_, ?_, ?_⟩
  · exact h3.fr (fun k j q => f.1 k 0 j (by unfold ux_now ux_s; omega)) (fun k j q => g.1 k 0 j (by unfold ux_m36; omega))
  · exact h4.fr h1.2.2.2.1 (fun m k n j hm q => f.1 k n j (by unfold ux_now; unfold ux_s at q ⊢; omega)) (fun k j q => g.1 k 0 j (by unfold ux_m36; omega))
  · rw [f.2, g.2]; exact h5
theorem tw_Rn.fc (R : tw_Rn P H S N C h μ ν) (f : ux_fr ux_now μ μ') (g : ux_fr ux_m36 ν ν') : tw_Ic P H S N μ' ∧ tw_Ec P H S N μ' ν' := by
  have fc : ∀ k n j, ux_c k n → tw_gi μ' k n j = tw_gi μ k n j := fun k n j q => f.1 k n j (by unfold ux_now ux_s; unfold ux_c at q; omega)
  exact ⟨R.1.fr fc, R.2.1.fr fc (fun k j q => g.1 k 0 j (by unfold ux_m36; omega))⟩
end
