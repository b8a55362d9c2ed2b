/-! the two worlds, new, and that they hold the same -/
def uz_m0 : tw_M := (fun _ _ _ => 0, fun _ => 0)
def uz_c0 : tw_M := (fun k _ _ => if k = 19 then -1 else 0, fun _ => 0)
def uz_ws (g : tw_E) (μ : tw_M) (l : List (Nat × Nat)) : va_W := l.map (fun x => (tw_ad g x.1 x.2, tw_ent g μ x.1 x.2))
theorem uz_ws_app {g : tw_E} {μ : tw_M} {a b : List (Nat × Nat)} : uz_ws g μ (a ++ b) = uz_ws g μ a ++ uz_ws g μ b := List.map_append
theorem uz_Rl : tw_Rl uz_c0 uz_m0 := by
  refine ⟨0, 0, 0, 0, 0, 0, 0, ⟨?_, ?_, ?_, ?_⟩, ?_, ?_, rfl⟩
  · exact ⟨Nat.zero_le _, Nat.zero_le _, Nat.zero_le _, Nat.zero_le _, rfl, rfl, rfl, rfl, fun p h => absurd h (Nat.not_lt_zero p), fun p h => absurd h (Nat.not_lt_zero p), fun p h => absurd h (Nat.not_lt_zero p), fun p h => absurd h (Nat.not_lt_zero p)⟩
  · exact ⟨rfl, rfl, rfl, rfl, fun p h => absurd h (Nat.not_lt_zero p), fun p h => absurd h (Nat.not_lt_zero p), fun p h => absurd h (Nat.not_lt_zero p), fun p h => absurd h (Nat.not_lt_zero p)⟩
  · exact ⟨Nat.zero_le _, Nat.zero_le _, rfl, rfl, fun p h => absurd h (Nat.not_lt_zero p), fun p _ _ => rfl, fun p h => absurd h (Nat.not_lt_zero p), fun p h => absurd h (Nat.not_lt_zero p)⟩
  · exact ⟨rfl, rfl, rfl, fun p h => absurd h (Nat.not_lt_zero p), fun p h => absurd h (Nat.not_lt_zero p)⟩
  · exact ⟨Nat.zero_le _, rfl, rfl, fun p h => absurd h (Nat.not_lt_zero p)⟩
  · intro m _
    exact ⟨rfl, Or.inl rfl⟩
theorem uz_ap {g : tw_E} {μ : tw_M} {A : Nat → Prop} (h : va_D A (tw_ws g μ)) : tw_ap g := by
  intro i j x y hi hj e
  refine h.1 i j (tw_ad g x.1 x.2, tw_ent g μ x.1 x.2) (tw_ad g y.1 y.2, tw_ent g μ y.1 y.2) ?_ ?_ e
  · unfold tw_ws
    rw [List.getElem?_map, hi]
    rfl
  · unfold tw_ws
    rw [List.getElem?_map, hj]
    rfl
theorem uz_sh {g : tw_E} (h1 : ∀ x, x ∈ tw_vs g → x.1 < 7 → ∀ j, j < tw_nf x.1 → tw_fk x.1 j = 2 → tw_rf x.1 j x.2 ∈ tw_vs g) (h2 : ∀ x, x ∈ tw_vs g → x.1 = 21 → ∀ j, j < 8 → (2, 8 * x.2 + j) ∈ tw_vs g) (h3 : ∀ x, x ∈ tw_vs g → x.1 = 22 → ∀ j, j < 4 → (1, 4 * x.2 + j) ∈ tw_vs g)
    (h4 : ∀ x, x ∈ tw_vs g → x.1 < 7 ∨ tw_ia x.1 = true ∨ x.1 = 21 ∨ x.1 = 22 ∨ x.1 = 38) (h5 : ∀ x, x ∈ tw_vs g → x.1 = 5 ∨ x.1 = 6 → x.2 = 0) : tw_sh g :=
  ⟨h1, fun n hn => h2 (21, n) hn rfl, fun n hn => h3 (22, n) hn rfl, h4, h5⟩
/-! the reference's -/
def uz_vm : List (Nat × Nat) := [(6, 0), (30, 0), (31, 0), (32, 0), (33, 0), (34, 0), (35, 0), (36, 0), (37, 0), (38, 0)]
def uz_am (h0 : Nat) (u : Nat → Nat) : Nat → Nat → Nat := fun k _ => if k = 6 then h0 else u (k - 30)
def uz_gm (D : va_G) (y : Nat → ClassId) (aK aV : Nat → Nat) (fo : Value) (h0 : Nat) (u : Nat → Nat) : tw_E := (D, uz_am h0 u, y, uz_vm, aK, aV, fo)
set_option maxRecDepth 20000 in
theorem uz_gm_ws {D : va_G} {y : Nat → ClassId} {aK aV : Nat → Nat} {fo : Value} {h0 : Nat} {u : Nat → Nat} : tw_ws (uz_gm D y aK aV fo h0 u) uz_m0 = ux_w6 y h0 u := rfl
theorem uz_vm1 : ∀ x, x ∈ uz_vm → x.1 < 7 → ∀ j, j < tw_nf x.1 → tw_fk x.1 j = 2 → tw_rf x.1 j x.2 ∈ uz_vm := by decide +kernel
theorem uz_vm2 : ∀ x, x ∈ uz_vm → x.1 = 21 → ∀ j, j < 8 → (2, 8 * x.2 + j) ∈ uz_vm := by decide +kernel
theorem uz_vm3 : ∀ x, x ∈ uz_vm → x.1 = 22 → ∀ j, j < 4 → (1, 4 * x.2 + j) ∈ uz_vm := by decide +kernel
theorem uz_vm4 : ∀ x, x ∈ uz_vm → x.1 < 7 ∨ tw_ia x.1 = true ∨ x.1 = 21 ∨ x.1 = 22 ∨ x.1 = 38 := by decide +kernel
theorem uz_vm5 : ∀ x, x ∈ uz_vm → x.1 = 5 ∨ x.1 = 6 → x.2 = 0 := by decide +kernel
theorem uz_gm_sh {D : va_G} {y : Nat → ClassId} {aK aV : Nat → Nat} {fo : Value} {h0 : Nat} {u : Nat → Nat} : tw_sh (uz_gm D y aK aV fo h0 u) := uz_sh uz_vm1 uz_vm2 uz_vm3 uz_vm4 uz_vm5
/-! the class's -/
def uz_vS (n : Nat) : Nat → List (Nat × Nat)
  | 0 => []
  | i + 1 => [(2, 8 * n + i), (17, 8 * n + i), (18, 8 * n + i)] ++ uz_vS n i
def uz_vE (n : Nat) : Nat → List (Nat × Nat)
  | 0 => []
  | i + 1 => [(1, 4 * n + i), (15, 4 * n + i), (16, 4 * n + i)] ++ uz_vE n i
def uz_v3 (n : Nat) : List (Nat × Nat) := [(3, n), (21, n), (22, n), (19, n)] ++ (uz_vE n 4 ++ uz_vS n 8)
def uz_v0 (n : Nat) : List (Nat × Nat) := [(0, n), (10, n), (11, n), (12, n), (13, n), (14, n)]
def uz_vc : List (Nat × Nat) := [(5, 0)] ++ (uz_v3 2 ++ (uz_v3 1 ++ (uz_v3 0 ++ (uz_v0 1 ++ (uz_v0 0 ++ ([(4, 0), (20, 0)] ++ []))))))
def uz_ac (h0 : Nat) (q : Nat → Nat) (u : Nat → Nat → Nat) : Nat → Nat → Nat := fun k n => match k with
  | 0 => q (1 + n)
  | 1 => u (3 + n / 4) (27 + 3 * (n % 4))
  | 2 => u (3 + n / 8) (3 + 3 * (n % 8))
  | 3 => q (3 + n)
  | 4 => q 0
  | 5 => h0
  | 15 => u (3 + n / 4) (27 + (3 * (n % 4) + 1 + 0))
  | 16 => u (3 + n / 4) (27 + (3 * (n % 4) + 1 + 1))
  | 17 => u (3 + n / 8) (3 + (3 * (n % 8) + 1 + 0))
  | 18 => u (3 + n / 8) (3 + (3 * (n % 8) + 1 + 1))
  | 19 => u (3 + n) 2
  | 20 => u 0 0
  | 21 => u (3 + n) 0
  | 22 => u (3 + n) 1
  | k => u (1 + n) (k - 10)
def uz_gc (D : va_G) (y : Nat → ClassId) (aK aV : Nat → Nat) (fo : Value) (h0 : Nat) (q : Nat → Nat) (u : Nat → Nat → Nat) : tw_E := (D, uz_ac h0 q u, y, uz_vc, aK, aV, fo)
theorem uz_vc1 : ∀ x, x ∈ uz_vc → x.1 < 7 → ∀ j, j < tw_nf x.1 → tw_fk x.1 j = 2 → tw_rf x.1 j x.2 ∈ uz_vc := by decide +kernel
theorem uz_vc2 : ∀ x, x ∈ uz_vc → x.1 = 21 → ∀ j, j < 8 → (2, 8 * x.2 + j) ∈ uz_vc := by decide +kernel
theorem uz_vc3 : ∀ x, x ∈ uz_vc → x.1 = 22 → ∀ j, j < 4 → (1, 4 * x.2 + j) ∈ uz_vc := by decide +kernel
theorem uz_vc4 : ∀ x, x ∈ uz_vc → x.1 < 7 ∨ tw_ia x.1 = true ∨ x.1 = 21 ∨ x.1 = 22 ∨ x.1 = 38 := by decide +kernel
theorem uz_vc5 : ∀ x, x ∈ uz_vc → x.1 = 5 ∨ x.1 = 6 → x.2 = 0 := by decide +kernel
section
variable {D : va_G} {y : Nat → ClassId} {aK aV : Nat → Nat} {fo : Value} {h0 : Nat} {q : Nat → Nat} {u : Nat → Nat → Nat} {n : Nat}
theorem uz_gc_sh : tw_sh (uz_gc D y aK aV fo h0 q u) := uz_sh uz_vc1 uz_vc2 uz_vc3 uz_vc4 uz_vc5
theorem uz_ad8 {j : Nat} (hj : j < 8) : (8 * n + j) / 8 = n ∧ (8 * n + j) % 8 = j := ⟨by omega, by omega⟩
theorem uz_ad4 {j : Nat} (hj : j < 4) : (4 * n + j) / 4 = n ∧ (4 * n + j) % 4 = j := ⟨by omega, by omega⟩
theorem uz_wsS : ∀ {i : Nat}, i ≤ 8 → uz_ws (uz_gc D y aK aV fo h0 q u) uz_c0 (uz_vS n i) = ux_sl y (fun j => u (3 + n) (3 + j)) i
  | 0, _ => rfl
  | i + 1, h => by
    rw [uz_vS, uz_ws_app, uz_wsS (by omega), ux_sl]
    congr 1
    have h1 : uz_ac h0 q u 2 (8 * n + i) = u (3 + n) (3 + 3 * i) := by
      show u (3 + (8 * n + i) / 8) (3 + 3 * ((8 * n + i) % 8)) = _
      rw [(uz_ad8 (by omega)).1, (uz_ad8 (by omega)).2]
    have h2 : uz_ac h0 q u 17 (8 * n + i) = u (3 + n) (3 + (3 * i + 1 + 0)) := by
      show u (3 + (8 * n + i) / 8) (3 + (3 * ((8 * n + i) % 8) + 1 + 0)) = _
      rw [(uz_ad8 (by omega)).1, (uz_ad8 (by omega)).2]
    have h3 : uz_ac h0 q u 18 (8 * n + i) = u (3 + n) (3 + (3 * i + 1 + 1)) := by
      show u (3 + (8 * n + i) / 8) (3 + (3 * ((8 * n + i) % 8) + 1 + 1)) = _
      rw [(uz_ad8 (by omega)).1, (uz_ad8 (by omega)).2]
    rw [ux_w2_eq (v := fun j => [uz_ac h0 q u 17 (8 * n + i), uz_ac h0 q u 18 (8 * n + i)].getD j 0) h2.symm h3.symm, ← h1]
    rfl
theorem uz_wsE : ∀ {i : Nat}, i ≤ 4 → uz_ws (uz_gc D y aK aV fo h0 q u) uz_c0 (uz_vE n i) = ux_el y (fun j => u (3 + n) (27 + j)) i
  | 0, _ => rfl
  | i + 1, h => by
    rw [uz_vE, uz_ws_app, uz_wsE (by omega), ux_el]
    congr 1
    have h1 : uz_ac h0 q u 1 (4 * n + i) = u (3 + n) (27 + 3 * i) := by
      show u (3 + (4 * n + i) / 4) (27 + 3 * ((4 * n + i) % 4)) = _
      rw [(uz_ad4 (by omega)).1, (uz_ad4 (by omega)).2]
    have h2 : uz_ac h0 q u 15 (4 * n + i) = u (3 + n) (27 + (3 * i + 1 + 0)) := by
      show u (3 + (4 * n + i) / 4) (27 + (3 * ((4 * n + i) % 4) + 1 + 0)) = _
      rw [(uz_ad4 (by omega)).1, (uz_ad4 (by omega)).2]
    have h3 : uz_ac h0 q u 16 (4 * n + i) = u (3 + n) (27 + (3 * i + 1 + 1)) := by
      show u (3 + (4 * n + i) / 4) (27 + (3 * ((4 * n + i) % 4) + 1 + 1)) = _
      rw [(uz_ad4 (by omega)).1, (uz_ad4 (by omega)).2]
    rw [ux_w1_eq (v := fun j => [uz_ac h0 q u 15 (4 * n + i), uz_ac h0 q u 16 (4 * n + i)].getD j 0) h2.symm h3.symm, ← h1]
    rfl
/-- a scene's cells, as the constructor leaves them and as the world has them -/
theorem uz_ws3 {X Y : va_W} {H : Heap} (hP : va_P D vwCl (X ++ (ux_w3 y (q (3 + n)) (u (3 + n)) ++ Y)) H) : va_P D vwCl (X ++ (uz_ws (uz_gc D y aK aV fo h0 q u) uz_c0 (uz_v3 n) ++ Y)) H := by
  have c1 : ∀ cA : ClassId, vp_cell cA (8, .inr (.inr (.inr (.inr (fun j => some (u (3 + n) (3 + 3 * j))))))) = vp_cell cA (8, .inr (.inr (.inr (.inr (fun j => some (uz_ac h0 q u 2 (8 * n + j))))))) := fun cA => ux_cell (fun j hj => by
    show _ = some (u (3 + (8 * n + j) / 8) (3 + 3 * ((8 * n + j) % 8)))
    rw [(uz_ad8 hj).1, (uz_ad8 hj).2])
  have c2 : ∀ cA : ClassId, vp_cell cA (4, .inr (.inr (.inr (.inr (fun j => some (u (3 + n) (27 + 3 * j))))))) = vp_cell cA (4, .inr (.inr (.inr (.inr (fun j => some (uz_ac h0 q u 1 (4 * n + j))))))) := fun cA => ux_cell (fun j hj => by
    show _ = some (u (3 + (4 * n + j) / 4) (27 + 3 * ((4 * n + j) % 4)))
    rw [(uz_ad4 hj).1, (uz_ad4 hj).2])
  unfold uz_v3
  rw [uz_ws_app, uz_ws_app, uz_wsE (Nat.le_refl 4), uz_wsS (Nat.le_refl 8)]
  unfold ux_w3 at hP
  intro k x hx
  by_cases hk1 : k = X.length + 1
  · subst hk1
    have hp := hP (X.length + 1) _ (by rw [List.getElem?_append_right (by omega), show X.length + 1 - X.length = 1 by omega]; rfl)
    rw [List.getElem?_append_right (by omega), show X.length + 1 - X.length = 1 by omega] at hx
    cases hx
    exact hp.trans (congrArg some (c1 _))
  · by_cases hk2 : k = X.length + 2
    · subst hk2
      have hp := hP (X.length + 2) _ (by rw [List.getElem?_append_right (by omega), show X.length + 2 - X.length = 2 by omega]; rfl)
      rw [List.getElem?_append_right (by omega), show X.length + 2 - X.length = 2 by omega] at hx
      cases hx
      exact hp.trans (congrArg some (c2 _))
    · refine hP k x ?_
      rw [← hx]
      by_cases hk : k < X.length
      · rw [List.getElem?_append_left hk, List.getElem?_append_left hk]
      · have g : ∀ Z : va_W, (X ++ Z)[k]? = Z[k - X.length]? := fun Z => List.getElem?_append_right (by omega)
        rw [g, g]
        obtain ⟨i, hi⟩ : ∃ i, k - X.length = i := ⟨_, rfl⟩
        rw [hi]
        match i, hi with
        | 0, _ => rfl
        | 1, hi => exact absurd (show k = X.length + 1 by omega) hk1
        | 2, hi => exact absurd (show k = X.length + 2 by omega) hk2
        | i + 3, _ => rfl
theorem uz_ws3_fst : (uz_ws (uz_gc D y aK aV fo h0 q u) uz_c0 (uz_v3 n)).map Prod.fst = (ux_w3 y (q (3 + n)) (u (3 + n))).map Prod.fst := by
  unfold uz_v3
  rw [uz_ws_app, uz_ws_app, uz_wsE (Nat.le_refl 4), uz_wsS (Nat.le_refl 8)]
  unfold ux_w3
  rw [List.map_append, List.map_append]
  rfl
set_option maxRecDepth 20000 in
theorem uz_gc_P {H : Heap} (hP : va_P D vwCl (ux_w5 y h0 q u) H) : va_P D vwCl (tw_ws (uz_gc D y aK aV fo h0 q u) uz_c0) H := by
  unfold ux_w5 at hP
  have hP := uz_ws3 (aK := aK) (aV := aV) (fo := fo) (h0 := h0) (q := q) (n := 2) hP
  rw [← List.append_assoc] at hP
  have hP := uz_ws3 (aK := aK) (aV := aV) (fo := fo) (h0 := h0) (q := q) (n := 1) hP
  rw [← List.append_assoc] at hP
  have hP := uz_ws3 (aK := aK) (aV := aV) (fo := fo) (h0 := h0) (q := q) (n := 0) hP
  rw [List.append_assoc, List.append_assoc] at hP
  show va_P D vwCl (uz_ws (uz_gc D y aK aV fo h0 q u) uz_c0 uz_vc) H
  unfold uz_vc
  rw [uz_ws_app, uz_ws_app, uz_ws_app, uz_ws_app, uz_ws_app, uz_ws_app, uz_ws_app]
  exact hP
set_option maxRecDepth 20000 in
theorem uz_gc_D {A : Nat → Prop} (hD : va_D A (ux_w5 y h0 q u)) : va_D A (tw_ws (uz_gc D y aK aV fo h0 q u) uz_c0) := by
  refine ux_D_of hD ?_
  show _ = (uz_ws (uz_gc D y aK aV fo h0 q u) uz_c0 uz_vc).map Prod.fst
  unfold uz_vc ux_w5
  rw [uz_ws_app, uz_ws_app, uz_ws_app, uz_ws_app, uz_ws_app, uz_ws_app, uz_ws_app]
  simp only [List.map_append, uz_ws3_fst]
  rfl
end
