/-! an object of ThawWords, new -/
def ux_w5 (y : Nat → ClassId) (h0 : Nat) (q : Nat → Nat) (u : Nat → Nat → Nat) : va_W := [(h0, .inr (5, [.ref (q 0), .ref (q 1), .ref (q 2), .ref (q 3), .ref (q 4), .ref (q 5), .long 0]))] ++ (ux_w3 y (q 5) (u 5) ++ (ux_w3 y (q 4) (u 4) ++ (ux_w3 y (q 3) (u 3) ++ (ux_w0 y (q 2) (u 2) ++ (ux_w0 y (q 1) (u 1) ++ (ux_w4 y (q 0) (u 0) ++ []))))))
def ux_r5 : Room := { frames := 3, cells := 134, slots := 2335, locals := 53 }
def ux_q5 (v : Nat → Nat) : Nat → Nat := fun j => v j
def ux_u5 (v : Nat → Nat) : Nat → Nat → Nat := fun k j => v (6 + 200 * k + j)
def ux_v5 (q0 q1 q2 q3 q4 q5 : Nat) (u0 u1 u2 u3 u4 u5 : Nat → Nat) : Nat → Nat := fun j => if j < 6 then [q0, q1, q2, q3, q4, q5].getD j 0 else (match (j - 6) / 200 with
  | 0 => u0
  | 1 => u1
  | 2 => u2
  | 3 => u3
  | 4 => u4
  | _ => u5) ((j - 6) % 200)
theorem ux_w0_eq {y : Nat → ClassId} {a : Nat} {u v : Nat → Nat} (h : ∀ j, j < 200 → u j = v j) : ux_w0 y a u = ux_w0 y a v := by
  unfold ux_w0
  rw [h 0 (by decide), h 1 (by decide), h 2 (by decide), h 3 (by decide), h 4 (by decide)]
theorem ux_w4_eq {y : Nat → ClassId} {a : Nat} {u v : Nat → Nat} (h : ∀ j, j < 200 → u j = v j) : ux_w4 y a u = ux_w4 y a v := by
  unfold ux_w4
  rw [h 0 (by decide)]
theorem ux_v5_u {q0 q1 q2 q3 q4 q5 : Nat} {u0 u1 u2 u3 u4 u5 : Nat → Nat} {k j : Nat} (h : j < 200) : ux_u5 (ux_v5 q0 q1 q2 q3 q4 q5 u0 u1 u2 u3 u4 u5) k j = (match k with
  | 0 => u0
  | 1 => u1
  | 2 => u2
  | 3 => u3
  | 4 => u4
  | _ => u5) j := by
  unfold ux_u5 ux_v5
  rw [if_neg (by omega), show (6 + 200 * k + j - 6) / 200 = k by omega, show (6 + 200 * k + j - 6) % 200 = j by omega]
/-- what lies apart hangs on the addresses alone -/
theorem ux_D_of {A : Nat → Prop} {w w' : va_W} (h : va_D A w) (e : w.map Prod.fst = w'.map Prod.fst) : va_D A w' := by
  have g : ∀ (k : Nat) (q : Nat × va_E), w'[k]? = some q → ∃ q0 : Nat × va_E, w[k]? = some q0 ∧ q0.1 = q.1 := by
    intro k q hq
    have h1 : (w'.map Prod.fst)[k]? = some q.1 := by rw [List.getElem?_map, hq]; rfl
    rw [← e, List.getElem?_map] at h1
    cases hw : w[k]? with
    | none => rw [hw] at h1; cases h1
    | some q0 => rw [hw] at h1; exact ⟨q0, rfl, Option.some.inj h1⟩
  refine ⟨fun i j p q hi hj hpq => ?_, fun k q hk => ?_⟩
  · obtain ⟨p0, h1, h2⟩ := g i p hi
    obtain ⟨q0, h3, h4⟩ := g j q hj
    exact h.1 i j p0 q0 h1 h3 (by rw [h2, h4, hpq])
  · obtain ⟨q0, h1, h2⟩ := g k q hk
    have := h.2 k q0 h1
    rw [h2] at this
    exact this
/-- two worlds of a scene that agree in reach -/
theorem ux_w3_to {D : va_G} {cl : List vw_C} {y : Nat → ClassId} {a : Nat} {u v : Nat → Nat} {X Y : va_W} {H : Heap} (h : ∀ j, j < 200 → u j = v j) (hP : va_P D cl (X ++ (ux_w3 y a u ++ Y)) H) : va_P D cl (X ++ (ux_w3 y a v ++ Y)) H := by
  have e1 : ux_sl y (fun j => u (3 + j)) 8 = ux_sl y (fun j => v (3 + j)) 8 := ux_sl_eq (fun j hj => h _ (by omega))
  have e2 : ux_el y (fun j => u (27 + j)) 4 = ux_el y (fun j => v (27 + j)) 4 := ux_el_eq (fun j hj => h _ (by omega))
  have c1 : ∀ cA : ClassId, vp_cell cA (8, .inr (.inr (.inr (.inr (fun j => some (u (3 + 3 * j))))))) = vp_cell cA (8, .inr (.inr (.inr (.inr (fun j => some (v (3 + 3 * j))))))) := fun cA => ux_cell (fun j hj => by rw [h _ (by omega)])
  have c2 : ∀ cA : ClassId, vp_cell cA (4, .inr (.inr (.inr (.inr (fun j => some (u (27 + 3 * j))))))) = vp_cell cA (4, .inr (.inr (.inr (.inr (fun j => some (v (27 + 3 * j))))))) := fun cA => ux_cell (fun j hj => by rw [h _ (by omega)])
  unfold ux_w3 at hP ⊢
  rw [e1, e2, h 0 (by decide), h 1 (by decide), h 2 (by decide)] at hP
  intro k q hq
  by_cases hk1 : k = X.length + 1
  · subst hk1
    have hp := hP (X.length + 1) _ (by rw [List.getElem?_append_right (by omega), show X.length + 1 - X.length = 1 by omega]; rfl)
    rw [List.getElem?_append_right (by omega), show X.length + 1 - X.length = 1 by omega] at hq
    cases hq
    exact hp.trans (congrArg some (c1 _))
  · by_cases hk2 : k = X.length + 2
    · subst hk2
      have hp := hP (X.length + 2) _ (by rw [List.getElem?_append_right (by omega), show X.length + 2 - X.length = 2 by omega]; rfl)
      rw [List.getElem?_append_right (by omega), show X.length + 2 - X.length = 2 by omega] at hq
      cases hq
      exact hp.trans (congrArg some (c2 _))
    · refine hP k q ?_
      rw [← hq]
      by_cases hk : k < X.length
      · rw [List.getElem?_append_left hk, List.getElem?_append_left hk]
      · have g : ∀ Z : va_W, (X ++ Z)[k]? = Z[k - X.length]? := fun Z => List.getElem?_append_right (by omega)
        rw [g, g]
        obtain ⟨i, hi⟩ : ∃ i, k - X.length = i := ⟨_, rfl⟩
        rw [hi]
        match i, hi with
        | 0, _ => rfl
        | 1, hi => exact absurd (show k = X.length + 1 by omega) hk1
        | 2, hi => exact absurd (show k = X.length + 2 by omega) hk2
        | i + 3, _ => rfl
set_option maxHeartbeats 4000000 in
set_option maxRecDepth 100000 in
theorem ux_c5 (l : Launch) (y : Nat → ClassId) (D : va_G) (h0 sz : Nat) : Met l yX5_init wX5_init ux_r5 (ux_pre y D h0 [(h0, .inr (5, [.null, .null, .null, .null, .null, .null, .long 0]))] sz) (ux_post D [(h0, .inr (5, [.null, .null, .null, .null, .null, .null, .long 0]))] sz (fun v => ux_w5 y h0 (ux_q5 v) (ux_u5 v))) 134 2335 (va_A [(h0, .inr (5, [.null, .null, .null, .null, .null, .null, .long 0]))] sz) := by
  refine Met.ofW (cc := cX5_init) (maxL := 1) (ret := none) (by decide) rfl ?_
  intro p e s m args below meth c s₁ B hml hv
  obtain ⟨rfl, hsz, hP, hQ, hD0⟩ := hv
  have hK := hQ.1
  have hx := B.exec
  have hb := B.bytes
  have hr := B.returns
  have hts := atoms_spec (ws := wX5_init) B.pre
  have hw : ∀ {w : Cond}, w ∈ tw_big → w.before #[Value.ref h0] s = true := fun h => hts _ (List.mem_cons_of_mem _ h)
  have hown : s.vm.findClass RX5 = some m.cls := findClass_of_methodNamed B.named
  have hlocks := B.notSynchronized
  have hin : meth.name = "<init>" := (name_of_methodNamed B.named B.method).1
  subst hsz
  have hD := hD0.self (sz := s.heap.size)
  generalize hAe : va_A [(h0, .inr (5, [.null, .null, .null, .null, .null, .null, .long 0]))] s.heap.size = A at hD ⊢
  have hA : ∀ q : Nat, s.heap.size ≤ q → A q := fun q h => by rw [← hAe]; exact Or.inr h
  have hS : va_S A s.heap s.heap [] := va_S.rf
  have hl := lv_entry ([.ref h0]) (n := 1) (Nat.le_of_ble_eq_true rfl)
  rw [lg_entry_eq]
  generalize (lg_sl ([.ref h0]) ++ List.replicate (1 - (lg_sl ([.ref h0])).length) Slot.unset).toArray = ls at hl ⊢
  have hl : lv_has ls 1 [(0, .ref h0)] := hl
  refine lv_aload_n hx hb dX5_in_0 rfl (lv_at hl 0 rfl) ?_
  refine W.objInit hx hb hown (hw (tw_g_in (i := 65) (by decide +kernel))) (hw (tw_g_in (i := 66) (by decide +kernel))) (hw (tw_g_in (i := 67) (by decide +kernel))) rfl (by rw [hml]; exact hl.1) rfl dX5_in_1 (Nat.le_of_ble_eq_true rfl) (Nat.le_of_ble_eq_true rfl) ?_
  refine W.eq (g2 := F0 m 4 ls []) rfl ?_
  have hP : va_P D vwCl ([(h0, .inr (5, [.null, .null, .null, .null, .null, .null, .long 0]))] ++ ([] : va_W)) s.heap := hP
  have hD : va_D A ([(h0, .inr (5, [.null, .null, .null, .null, .null, .null, .long 0]))] ++ ([] : va_W)) := hD
  refine lv_aload_n hx hb dX5_in_4 rfl (lv_at hl 0 rfl) ?_
  refine va_new (ci := 4) (fs := [.null, .int 0, .int 0, .int 0, .int 0, .int 0]) (C := RX4) (T := TX4) (N := 6) hx hb (Ts := tw_big) (fun _ h => hw h) tw_cl_w4 tyX4 tyX4_ok hown (hw (tw_g_in (i := 68) (by decide +kernel))) (hw (tw_g_in (i := 69) (by decide +kernel))) (hw (tw_g_in (i := 49) (by decide +kernel))) hK hP hD hS hA rfl (fun j hj => match j, hj with | 0, _ => rfl | 1, _ => rfl | 2, _ => rfl | 3, _ => rfl | 4, _ => rfl | 5, _ => rfl | n + 6, h => absurd h (by omega)) (by decide) (by decide) dX5_in_5 (fun q0 H hP hD hS => ?_)
  have hP : va_P D vwCl ([(h0, .inr (5, [.null, .null, .null, .null, .null, .null, .long 0])), (q0, .inr (4, [.null, .int 0, .int 0, .int 0, .int 0, .int 0]))] ++ ([] : va_W)) H := hP.swap
  have hD : va_D A ([(h0, .inr (5, [.null, .null, .null, .null, .null, .null, .long 0])), (q0, .inr (4, [.null, .int 0, .int 0, .int 0, .int 0, .int 0]))] ++ ([] : va_W)) := hD.swap
  refine W.widen (k := 1) (n := 6) (by decide) (by decide) ?_
  refine lv_dup hx hb dX5_in_8 rfl ?_
  have hPc := hP.sub (ws' := [(q0, .inr (4, [.null, .int 0, .int 0, .int 0, .int 0, .int 0]))]) [1] rfl
  have hDc := hD.sub (ws' := [(q0, .inr (4, [.null, .int 0, .int 0, .int 0, .int 0, .int 0]))]) [1] (by decide) rfl
  have hFc := va_free (wc := [(q0, .inr (4, [.null, .int 0, .int 0, .int 0, .int 0, .int 0]))]) hD hS hA [1] rfl
  refine va_callv (va_runIN (host := "ThawWords") (As := []) (rest := [.ref q0, .ref h0]) ⟨hx, hb, hml, hown, hts⟩ (ux_c4 l y D q0 H.size) ⟨va_cnB 0 hts (ux_goodIn (tw_g_in (i := 72) (by decide +kernel))) rfl rfl rfl (hQ.2.2.2 (RX5, 9, yX4_init) (List.mem_of_getElem? (i := 0) rfl)) (hw (tw_g_in (i := 49) (by decide +kernel))) ⟨by decide, by decide, by decide +kernel⟩ ⟨Nat.le_of_ble_eq_true rfl, Nat.le_of_ble_eq_true rfl⟩, rfl, (hw (tw_g_in (i := 71) (by decide +kernel)))⟩ ⟨ux_blind, fun U hU hW => ⟨rfl, by rw [hU], by rw [hU]; exact hPc, hQ.warm hW, hDc.weaken (fun _ _ _ _ => trivial)⟩⟩ rfl rfl hl.1 rfl (lv_room (Nat.le_of_ble_eq_true rfl)) dX5_in_9 ⟨Nat.le_of_ble_eq_true rfl, Nat.le_of_ble_eq_true rfl⟩) hS (fun q _ h => hFc q h) hFc (fun u0 t H1 locs ht hvm hw1 hB hz1 hk1 hS => ?_)
  obtain ⟨hP1, hD1⟩ := hB
  rw [ht] at hP1
  obtain ⟨hP, hD⟩ := va_joinQ (wr := [(h0, .inr (5, [.null, .null, .null, .null, .null, .null, .long 0]))]) (w1 := ux_w4 y q0 u0) hP hD [1] [0] rfl rfl (by decide) (by decide) hk1 hFc hP1 hD1
  rw [List.append_assoc] at hP hD
  refine W.widen (k := 2) (n := 306) (by decide) (by decide) ?_
  refine va_putF (D := D) (ci := 5) (v := .ref q0) (C := RX5) (T := TX5) (N := 7) hx hb (Ts := tw_big) (fun _ h => hw h) tw_cl_w5 tyX5 tyX5_ok nmX5 hown hK hP hD hS 0 rfl rfl 0 (by decide) (hw (tw_g_in (i := 247) (by decide +kernel))) (fun _ h9 => h9) rfl hin rfl (tyX5_ok 0 (by decide)) rfl rfl (Nat.le_of_ble_eq_true rfl) dX5_in_12 (fun H locs hP hD hS => ?_)
  have hP : va_P D vwCl ([(h0, .inr (5, [.ref q0, .null, .null, .null, .null, .null, .long 0]))] ++ (ux_w4 y q0 u0 ++ ([] : va_W))) H := hP
  have hD : va_D A ([(h0, .inr (5, [.ref q0, .null, .null, .null, .null, .null, .long 0]))] ++ (ux_w4 y q0 u0 ++ ([] : va_W))) := hD
  refine lv_aload_n hx hb dX5_in_15 rfl (lv_at hl 0 rfl) ?_
  refine va_new (ci := 0) (fs := [.null, .null, .null, .null, .null, .int 0, .int 0, .int 0, .int 0]) (C := RX0) (T := TX0) (N := 9) hx hb (Ts := tw_big) (fun _ h => hw h) tw_cl_w0 tyX0 tyX0_ok hown (hw (tw_g_in (i := 95) (by decide +kernel))) (hw (tw_g_in (i := 96) (by decide +kernel))) (hw (tw_g_in (i := 50) (by decide +kernel))) hK hP hD hS hA rfl (fun j hj => match j, hj with | 0, _ => rfl | 1, _ => rfl | 2, _ => rfl | 3, _ => rfl | 4, _ => rfl | 5, _ => rfl | 6, _ => rfl | 7, _ => rfl | 8, _ => rfl | n + 9, h => absurd h (by omega)) (by decide) (by decide) dX5_in_16 (fun q1 H hP hD hS => ?_)
  have hP : va_P D vwCl ([(h0, .inr (5, [.ref q0, .null, .null, .null, .null, .null, .long 0])), (q1, .inr (0, [.null, .null, .null, .null, .null, .int 0, .int 0, .int 0, .int 0]))] ++ (ux_w4 y q0 u0 ++ ([] : va_W))) H := hP.swap
  have hD : va_D A ([(h0, .inr (5, [.ref q0, .null, .null, .null, .null, .null, .long 0])), (q1, .inr (0, [.null, .null, .null, .null, .null, .int 0, .int 0, .int 0, .int 0]))] ++ (ux_w4 y q0 u0 ++ ([] : va_W))) := hD.swap
  refine W.widen (k := 3) (n := 315) (by decide) (by decide) ?_
  refine lv_dup hx hb dX5_in_19 rfl ?_
  have hPc := hP.sub (ws' := [(q1, .inr (0, [.null, .null, .null, .null, .null, .int 0, .int 0, .int 0, .int 0]))]) [1] rfl
  have hDc := hD.sub (ws' := [(q1, .inr (0, [.null, .null, .null, .null, .null, .int 0, .int 0, .int 0, .int 0]))]) [1] (by decide) rfl
  have hFc := va_free (wc := [(q1, .inr (0, [.null, .null, .null, .null, .null, .int 0, .int 0, .int 0, .int 0]))]) hD hS hA [1] rfl
  refine va_callv (va_runIN (host := "ThawWords") (As := []) (rest := [.ref q1, .ref h0]) ⟨hx, hb, hml, hown, hts⟩ (ux_c0 l y D q1 H.size) ⟨va_cnB 0 hts (ux_goodIn (tw_g_in (i := 99) (by decide +kernel))) rfl rfl rfl (hQ.2.2.2 (RX5, 18, yX0_init) (List.mem_of_getElem? (i := 1) rfl)) (hw (tw_g_in (i := 50) (by decide +kernel))) ⟨by decide, by decide, by decide +kernel⟩ ⟨Nat.le_of_ble_eq_true rfl, Nat.le_of_ble_eq_true rfl⟩, rfl, (hw (tw_g_in (i := 98) (by decide +kernel)))⟩ ⟨ux_blind, fun U hU hW => ⟨rfl, by rw [hU], by rw [hU]; exact hPc, hQ.warm hW, hDc.weaken (fun _ _ _ _ => trivial)⟩⟩ rfl rfl hl.1 rfl (lv_room (Nat.le_of_ble_eq_true rfl)) dX5_in_20 ⟨Nat.le_of_ble_eq_true rfl, Nat.le_of_ble_eq_true rfl⟩) hS (fun q _ h => hFc q h) hFc (fun u1 t H1 locs ht hvm hw1 hB hz1 hk1 hS => ?_)
  obtain ⟨hP1, hD1⟩ := hB
  rw [ht] at hP1
  obtain ⟨hP, hD⟩ := va_joinQ (wr := [(h0, .inr (5, [.ref q0, .null, .null, .null, .null, .null, .long 0]))]) (w1 := ux_w0 y q1 u1) hP hD [1] [0] rfl rfl (by decide) (by decide) hk1 hFc hP1 hD1
  rw [List.append_assoc] at hP hD
  refine W.widen (k := 8) (n := 356) (by decide) (by decide) ?_
  refine va_putF (D := D) (ci := 5) (v := .ref q1) (C := RX5) (T := TX5) (N := 7) hx hb (Ts := tw_big) (fun _ h => hw h) tw_cl_w5 tyX5 tyX5_ok nmX5 hown hK hP hD hS 0 rfl rfl 1 (by decide) (hw (tw_g_in (i := 248) (by decide +kernel))) (fun _ h9 => h9) rfl hin rfl (tyX5_ok 1 (by decide)) rfl rfl (Nat.le_of_ble_eq_true rfl) dX5_in_23 (fun H locs hP hD hS => ?_)
  have hP : va_P D vwCl ([(h0, .inr (5, [.ref q0, .ref q1, .null, .null, .null, .null, .long 0]))] ++ (ux_w0 y q1 u1 ++ (ux_w4 y q0 u0 ++ ([] : va_W)))) H := hP
  have hD : va_D A ([(h0, .inr (5, [.ref q0, .ref q1, .null, .null, .null, .null, .long 0]))] ++ (ux_w0 y q1 u1 ++ (ux_w4 y q0 u0 ++ ([] : va_W)))) := hD
  refine lv_aload_n hx hb dX5_in_26 rfl (lv_at hl 0 rfl) ?_
  refine va_new (ci := 0) (fs := [.null, .null, .null, .null, .null, .int 0, .int 0, .int 0, .int 0]) (C := RX0) (T := TX0) (N := 9) hx hb (Ts := tw_big) (fun _ h => hw h) tw_cl_w0 tyX0 tyX0_ok hown (hw (tw_g_in (i := 95) (by decide +kernel))) (hw (tw_g_in (i := 96) (by decide +kernel))) (hw (tw_g_in (i := 50) (by decide +kernel))) hK hP hD hS hA rfl (fun j hj => match j, hj with | 0, _ => rfl | 1, _ => rfl | 2, _ => rfl | 3, _ => rfl | 4, _ => rfl | 5, _ => rfl | 6, _ => rfl | 7, _ => rfl | 8, _ => rfl | n + 9, h => absurd h (by omega)) (by decide) (by decide) dX5_in_27 (fun q2 H hP hD hS => ?_)
  have hP : va_P D vwCl ([(h0, .inr (5, [.ref q0, .ref q1, .null, .null, .null, .null, .long 0])), (q2, .inr (0, [.null, .null, .null, .null, .null, .int 0, .int 0, .int 0, .int 0]))] ++ (ux_w0 y q1 u1 ++ (ux_w4 y q0 u0 ++ ([] : va_W)))) H := hP.swap
  have hD : va_D A ([(h0, .inr (5, [.ref q0, .ref q1, .null, .null, .null, .null, .long 0])), (q2, .inr (0, [.null, .null, .null, .null, .null, .int 0, .int 0, .int 0, .int 0]))] ++ (ux_w0 y q1 u1 ++ (ux_w4 y q0 u0 ++ ([] : va_W)))) := hD.swap
  refine W.widen (k := 9) (n := 365) (by decide) (by decide) ?_
  refine lv_dup hx hb dX5_in_30 rfl ?_
  have hPc := hP.sub (ws' := [(q2, .inr (0, [.null, .null, .null, .null, .null, .int 0, .int 0, .int 0, .int 0]))]) [1] rfl
  have hDc := hD.sub (ws' := [(q2, .inr (0, [.null, .null, .null, .null, .null, .int 0, .int 0, .int 0, .int 0]))]) [1] (by decide) rfl
  have hFc := va_free (wc := [(q2, .inr (0, [.null, .null, .null, .null, .null, .int 0, .int 0, .int 0, .int 0]))]) hD hS hA [1] rfl
  refine va_callv (va_runIN (host := "ThawWords") (As := []) (rest := [.ref q2, .ref h0]) ⟨hx, hb, hml, hown, hts⟩ (ux_c0 l y D q2 H.size) ⟨va_cnB 0 hts (ux_goodIn (tw_g_in (i := 99) (by decide +kernel))) rfl rfl rfl (hQ.2.2.2 (RX5, 18, yX0_init) (List.mem_of_getElem? (i := 1) rfl)) (hw (tw_g_in (i := 50) (by decide +kernel))) ⟨by decide, by decide, by decide +kernel⟩ ⟨Nat.le_of_ble_eq_true rfl, Nat.le_of_ble_eq_true rfl⟩, rfl, (hw (tw_g_in (i := 98) (by decide +kernel)))⟩ ⟨ux_blind, fun U hU hW => ⟨rfl, by rw [hU], by rw [hU]; exact hPc, hQ.warm hW, hDc.weaken (fun _ _ _ _ => trivial)⟩⟩ rfl rfl hl.1 rfl (lv_room (Nat.le_of_ble_eq_true rfl)) dX5_in_31 ⟨Nat.le_of_ble_eq_true rfl, Nat.le_of_ble_eq_true rfl⟩) hS (fun q _ h => hFc q h) hFc (fun u2 t H1 locs ht hvm hw1 hB hz1 hk1 hS => ?_)
  obtain ⟨hP1, hD1⟩ := hB
  rw [ht] at hP1
  obtain ⟨hP, hD⟩ := va_joinQ (wr := [(h0, .inr (5, [.ref q0, .ref q1, .null, .null, .null, .null, .long 0]))]) (w1 := ux_w0 y q2 u2) hP hD [1] [0] rfl rfl (by decide) (by decide) hk1 hFc hP1 hD1
  rw [List.append_assoc] at hP hD
  refine W.widen (k := 14) (n := 406) (by decide) (by decide) ?_
  refine va_putF (D := D) (ci := 5) (v := .ref q2) (C := RX5) (T := TX5) (N := 7) hx hb (Ts := tw_big) (fun _ h => hw h) tw_cl_w5 tyX5 tyX5_ok nmX5 hown hK hP hD hS 0 rfl rfl 2 (by decide) (hw (tw_g_in (i := 249) (by decide +kernel))) (fun _ h9 => h9) rfl hin rfl (tyX5_ok 2 (by decide)) rfl rfl (Nat.le_of_ble_eq_true rfl) dX5_in_34 (fun H locs hP hD hS => ?_)
  have hP : va_P D vwCl ([(h0, .inr (5, [.ref q0, .ref q1, .ref q2, .null, .null, .null, .long 0]))] ++ (ux_w0 y q2 u2 ++ (ux_w0 y q1 u1 ++ (ux_w4 y q0 u0 ++ ([] : va_W))))) H := hP
  have hD : va_D A ([(h0, .inr (5, [.ref q0, .ref q1, .ref q2, .null, .null, .null, .long 0]))] ++ (ux_w0 y q2 u2 ++ (ux_w0 y q1 u1 ++ (ux_w4 y q0 u0 ++ ([] : va_W))))) := hD
  refine lv_aload_n hx hb dX5_in_37 rfl (lv_at hl 0 rfl) ?_
  refine va_new (ci := 3) (fs := [.null, .null, .null, .int 0, .int 0, .int 0, .int 0]) (C := RX3) (T := TX3) (N := 7) hx hb (Ts := tw_big) (fun _ h => hw h) tw_cl_w3 tyX3 tyX3_ok hown (hw (tw_g_in (i := 143) (by decide +kernel))) (hw (tw_g_in (i := 144) (by decide +kernel))) (hw (tw_g_in (i := 51) (by decide +kernel))) hK hP hD hS hA rfl (fun j hj => match j, hj with | 0, _ => rfl | 1, _ => rfl | 2, _ => rfl | 3, _ => rfl | 4, _ => rfl | 5, _ => rfl | 6, _ => rfl | n + 7, h => absurd h (by omega)) (by decide) (by decide) dX5_in_38 (fun q3 H hP hD hS => ?_)
  have hP : va_P D vwCl ([(h0, .inr (5, [.ref q0, .ref q1, .ref q2, .null, .null, .null, .long 0])), (q3, .inr (3, [.null, .null, .null, .int 0, .int 0, .int 0, .int 0]))] ++ (ux_w0 y q2 u2 ++ (ux_w0 y q1 u1 ++ (ux_w4 y q0 u0 ++ ([] : va_W))))) H := hP.swap
  have hD : va_D A ([(h0, .inr (5, [.ref q0, .ref q1, .ref q2, .null, .null, .null, .long 0])), (q3, .inr (3, [.null, .null, .null, .int 0, .int 0, .int 0, .int 0]))] ++ (ux_w0 y q2 u2 ++ (ux_w0 y q1 u1 ++ (ux_w4 y q0 u0 ++ ([] : va_W))))) := hD.swap
  refine W.widen (k := 15) (n := 413) (by decide) (by decide) ?_
  refine lv_dup hx hb dX5_in_41 rfl ?_
  have hPc := hP.sub (ws' := [(q3, .inr (3, [.null, .null, .null, .int 0, .int 0, .int 0, .int 0]))]) [1] rfl
  have hDc := hD.sub (ws' := [(q3, .inr (3, [.null, .null, .null, .int 0, .int 0, .int 0, .int 0]))]) [1] (by decide) rfl
  have hFc := va_free (wc := [(q3, .inr (3, [.null, .null, .null, .int 0, .int 0, .int 0, .int 0]))]) hD hS hA [1] rfl
  refine va_callv (va_runI (As := []) (rest := [.ref q3, .ref h0]) ⟨hx, hb, hml, hown, hts⟩ (ux_c3 l y D q3 H.size) ⟨callB_of 0 hts (ux_goodIn (tw_g_in (i := 147) (by decide +kernel))) rfl rfl rfl (hw (tw_g_in (i := 51) (by decide +kernel))) (hw (tw_g_in (i := 145) (by decide +kernel))) ⟨by decide, by decide, by decide +kernel⟩ ⟨Nat.le_of_ble_eq_true rfl, Nat.le_of_ble_eq_true rfl⟩, rfl, (hw (tw_g_in (i := 146) (by decide +kernel)))⟩ ⟨ux_blind, fun U hU hW => ⟨rfl, by rw [hU], by rw [hU]; exact hPc, hQ.warm hW, hDc.weaken (fun _ _ _ _ => trivial)⟩⟩ rfl rfl hl.1 rfl (lv_room (Nat.le_of_ble_eq_true rfl)) dX5_in_42 ⟨Nat.le_of_ble_eq_true rfl, Nat.le_of_ble_eq_true rfl⟩) hS (fun q _ h => hFc q h) hFc (fun u3 t H1 locs ht hvm hw1 hB hz1 hk1 hS => ?_)
  obtain ⟨hP1, hD1⟩ := hB
  rw [ht] at hP1
  obtain ⟨hP, hD⟩ := va_joinQ (wr := [(h0, .inr (5, [.ref q0, .ref q1, .ref q2, .null, .null, .null, .long 0]))]) (w1 := ux_w3 y q3 u3) hP hD [1] [0] rfl rfl (by decide) (by decide) hk1 hFc hP1 hD1
  rw [List.append_assoc] at hP hD
  refine W.widen (k := 54) (n := 1049) (by decide) (by decide) ?_
  refine va_putF (D := D) (ci := 5) (v := .ref q3) (C := RX5) (T := TX5) (N := 7) hx hb (Ts := tw_big) (fun _ h => hw h) tw_cl_w5 tyX5 tyX5_ok nmX5 hown hK hP hD hS 0 rfl rfl 3 (by decide) (hw (tw_g_in (i := 250) (by decide +kernel))) (fun _ h9 => h9) rfl hin rfl (tyX5_ok 3 (by decide)) rfl rfl (Nat.le_of_ble_eq_true rfl) dX5_in_45 (fun H locs hP hD hS => ?_)
  have hP : va_P D vwCl ([(h0, .inr (5, [.ref q0, .ref q1, .ref q2, .ref q3, .null, .null, .long 0]))] ++ (ux_w3 y q3 u3 ++ (ux_w0 y q2 u2 ++ (ux_w0 y q1 u1 ++ (ux_w4 y q0 u0 ++ ([] : va_W)))))) H := hP
  have hD : va_D A ([(h0, .inr (5, [.ref q0, .ref q1, .ref q2, .ref q3, .null, .null, .long 0]))] ++ (ux_w3 y q3 u3 ++ (ux_w0 y q2 u2 ++ (ux_w0 y q1 u1 ++ (ux_w4 y q0 u0 ++ ([] : va_W)))))) := hD
  refine lv_aload_n hx hb dX5_in_48 rfl (lv_at hl 0 rfl) ?_
  refine va_new (ci := 3) (fs := [.null, .null, .null, .int 0, .int 0, .int 0, .int 0]) (C := RX3) (T := TX3) (N := 7) hx hb (Ts := tw_big) (fun _ h => hw h) tw_cl_w3 tyX3 tyX3_ok hown (hw (tw_g_in (i := 143) (by decide +kernel))) (hw (tw_g_in (i := 144) (by decide +kernel))) (hw (tw_g_in (i := 51) (by decide +kernel))) hK hP hD hS hA rfl (fun j hj => match j, hj with | 0, _ => rfl | 1, _ => rfl | 2, _ => rfl | 3, _ => rfl | 4, _ => rfl | 5, _ => rfl | 6, _ => rfl | n + 7, h => absurd h (by omega)) (by decide) (by decide) dX5_in_49 (fun q4 H hP hD hS => ?_)
  have hP : va_P D vwCl ([(h0, .inr (5, [.ref q0, .ref q1, .ref q2, .ref q3, .null, .null, .long 0])), (q4, .inr (3, [.null, .null, .null, .int 0, .int 0, .int 0, .int 0]))] ++ (ux_w3 y q3 u3 ++ (ux_w0 y q2 u2 ++ (ux_w0 y q1 u1 ++ (ux_w4 y q0 u0 ++ ([] : va_W)))))) H := hP.swap
  have hD : va_D A ([(h0, .inr (5, [.ref q0, .ref q1, .ref q2, .ref q3, .null, .null, .long 0])), (q4, .inr (3, [.null, .null, .null, .int 0, .int 0, .int 0, .int 0]))] ++ (ux_w3 y q3 u3 ++ (ux_w0 y q2 u2 ++ (ux_w0 y q1 u1 ++ (ux_w4 y q0 u0 ++ ([] : va_W)))))) := hD.swap
  refine W.widen (k := 55) (n := 1056) (by decide) (by decide) ?_
  refine lv_dup hx hb dX5_in_52 rfl ?_
  have hPc := hP.sub (ws' := [(q4, .inr (3, [.null, .null, .null, .int 0, .int 0, .int 0, .int 0]))]) [1] rfl
  have hDc := hD.sub (ws' := [(q4, .inr (3, [.null, .null, .null, .int 0, .int 0, .int 0, .int 0]))]) [1] (by decide) rfl
  have hFc := va_free (wc := [(q4, .inr (3, [.null, .null, .null, .int 0, .int 0, .int 0, .int 0]))]) hD hS hA [1] rfl
  refine va_callv (va_runI (As := []) (rest := [.ref q4, .ref h0]) ⟨hx, hb, hml, hown, hts⟩ (ux_c3 l y D q4 H.size) ⟨callB_of 0 hts (ux_goodIn (tw_g_in (i := 147) (by decide +kernel))) rfl rfl rfl (hw (tw_g_in (i := 51) (by decide +kernel))) (hw (tw_g_in (i := 145) (by decide +kernel))) ⟨by decide, by decide, by decide +kernel⟩ ⟨Nat.le_of_ble_eq_true rfl, Nat.le_of_ble_eq_true rfl⟩, rfl, (hw (tw_g_in (i := 146) (by decide +kernel)))⟩ ⟨ux_blind, fun U hU hW => ⟨rfl, by rw [hU], by rw [hU]; exact hPc, hQ.warm hW, hDc.weaken (fun _ _ _ _ => trivial)⟩⟩ rfl rfl hl.1 rfl (lv_room (Nat.le_of_ble_eq_true rfl)) dX5_in_53 ⟨Nat.le_of_ble_eq_true rfl, Nat.le_of_ble_eq_true rfl⟩) hS (fun q _ h => hFc q h) hFc (fun u4 t H1 locs ht hvm hw1 hB hz1 hk1 hS => ?_)
  obtain ⟨hP1, hD1⟩ := hB
  rw [ht] at hP1
  obtain ⟨hP, hD⟩ := va_joinQ (wr := [(h0, .inr (5, [.ref q0, .ref q1, .ref q2, .ref q3, .null, .null, .long 0]))]) (w1 := ux_w3 y q4 u4) hP hD [1] [0] rfl rfl (by decide) (by decide) hk1 hFc hP1 hD1
  rw [List.append_assoc] at hP hD
  refine W.widen (k := 94) (n := 1692) (by decide) (by decide) ?_
  refine va_putF (D := D) (ci := 5) (v := .ref q4) (C := RX5) (T := TX5) (N := 7) hx hb (Ts := tw_big) (fun _ h => hw h) tw_cl_w5 tyX5 tyX5_ok nmX5 hown hK hP hD hS 0 rfl rfl 4 (by decide) (hw (tw_g_in (i := 251) (by decide +kernel))) (fun _ h9 => h9) rfl hin rfl (tyX5_ok 4 (by decide)) rfl rfl (Nat.le_of_ble_eq_true rfl) dX5_in_56 (fun H locs hP hD hS => ?_)
  have hP : va_P D vwCl ([(h0, .inr (5, [.ref q0, .ref q1, .ref q2, .ref q3, .ref q4, .null, .long 0]))] ++ (ux_w3 y q4 u4 ++ (ux_w3 y q3 u3 ++ (ux_w0 y q2 u2 ++ (ux_w0 y q1 u1 ++ (ux_w4 y q0 u0 ++ ([] : va_W))))))) H := hP
  have hD : va_D A ([(h0, .inr (5, [.ref q0, .ref q1, .ref q2, .ref q3, .ref q4, .null, .long 0]))] ++ (ux_w3 y q4 u4 ++ (ux_w3 y q3 u3 ++ (ux_w0 y q2 u2 ++ (ux_w0 y q1 u1 ++ (ux_w4 y q0 u0 ++ ([] : va_W))))))) := hD
  refine lv_aload_n hx hb dX5_in_59 rfl (lv_at hl 0 rfl) ?_
  refine va_new (ci := 3) (fs := [.null, .null, .null, .int 0, .int 0, .int 0, .int 0]) (C := RX3) (T := TX3) (N := 7) hx hb (Ts := tw_big) (fun _ h => hw h) tw_cl_w3 tyX3 tyX3_ok hown (hw (tw_g_in (i := 143) (by decide +kernel))) (hw (tw_g_in (i := 144) (by decide +kernel))) (hw (tw_g_in (i := 51) (by decide +kernel))) hK hP hD hS hA rfl (fun j hj => match j, hj with | 0, _ => rfl | 1, _ => rfl | 2, _ => rfl | 3, _ => rfl | 4, _ => rfl | 5, _ => rfl | 6, _ => rfl | n + 7, h => absurd h (by omega)) (by decide) (by decide) dX5_in_60 (fun q5 H hP hD hS => ?_)
  have hP : va_P D vwCl ([(h0, .inr (5, [.ref q0, .ref q1, .ref q2, .ref q3, .ref q4, .null, .long 0])), (q5, .inr (3, [.null, .null, .null, .int 0, .int 0, .int 0, .int 0]))] ++ (ux_w3 y q4 u4 ++ (ux_w3 y q3 u3 ++ (ux_w0 y q2 u2 ++ (ux_w0 y q1 u1 ++ (ux_w4 y q0 u0 ++ ([] : va_W))))))) H := hP.swap
  have hD : va_D A ([(h0, .inr (5, [.ref q0, .ref q1, .ref q2, .ref q3, .ref q4, .null, .long 0])), (q5, .inr (3, [.null, .null, .null, .int 0, .int 0, .int 0, .int 0]))] ++ (ux_w3 y q4 u4 ++ (ux_w3 y q3 u3 ++ (ux_w0 y q2 u2 ++ (ux_w0 y q1 u1 ++ (ux_w4 y q0 u0 ++ ([] : va_W))))))) := hD.swap
  refine W.widen (k := 95) (n := 1699) (by decide) (by decide) ?_
  refine lv_dup hx hb dX5_in_63 rfl ?_
  have hPc := hP.sub (ws' := [(q5, .inr (3, [.null, .null, .null, .int 0, .int 0, .int 0, .int 0]))]) [1] rfl
  have hDc := hD.sub (ws' := [(q5, .inr (3, [.null, .null, .null, .int 0, .int 0, .int 0, .int 0]))]) [1] (by decide) rfl
  have hFc := va_free (wc := [(q5, .inr (3, [.null, .null, .null, .int 0, .int 0, .int 0, .int 0]))]) hD hS hA [1] rfl
  refine va_callv (va_runI (As := []) (rest := [.ref q5, .ref h0]) ⟨hx, hb, hml, hown, hts⟩ (ux_c3 l y D q5 H.size) ⟨callB_of 0 hts (ux_goodIn (tw_g_in (i := 147) (by decide +kernel))) rfl rfl rfl (hw (tw_g_in (i := 51) (by decide +kernel))) (hw (tw_g_in (i := 145) (by decide +kernel))) ⟨by decide, by decide, by decide +kernel⟩ ⟨Nat.le_of_ble_eq_true rfl, Nat.le_of_ble_eq_true rfl⟩, rfl, (hw (tw_g_in (i := 146) (by decide +kernel)))⟩ ⟨ux_blind, fun U hU hW => ⟨rfl, by rw [hU], by rw [hU]; exact hPc, hQ.warm hW, hDc.weaken (fun _ _ _ _ => trivial)⟩⟩ rfl rfl hl.1 rfl (lv_room (Nat.le_of_ble_eq_true rfl)) dX5_in_64 ⟨Nat.le_of_ble_eq_true rfl, Nat.le_of_ble_eq_true rfl⟩) hS (fun q _ h => hFc q h) hFc (fun u5 t H1 locs ht hvm hw1 hB hz1 hk1 hS => ?_)
  obtain ⟨hP1, hD1⟩ := hB
  rw [ht] at hP1
  obtain ⟨hP, hD⟩ := va_joinQ (wr := [(h0, .inr (5, [.ref q0, .ref q1, .ref q2, .ref q3, .ref q4, .null, .long 0]))]) (w1 := ux_w3 y q5 u5) hP hD [1] [0] rfl rfl (by decide) (by decide) hk1 hFc hP1 hD1
  rw [List.append_assoc] at hP hD
  refine W.widen (k := 134) (n := 2335) (by decide) (by decide) ?_
  refine va_putF (D := D) (ci := 5) (v := .ref q5) (C := RX5) (T := TX5) (N := 7) hx hb (Ts := tw_big) (fun _ h => hw h) tw_cl_w5 tyX5 tyX5_ok nmX5 hown hK hP hD hS 0 rfl rfl 5 (by decide) (hw (tw_g_in (i := 252) (by decide +kernel))) (fun _ h9 => h9) rfl hin rfl (tyX5_ok 5 (by decide)) rfl rfl (Nat.le_of_ble_eq_true rfl) dX5_in_67 (fun H locs hP hD hS => ?_)
  have hP : va_P D vwCl ([(h0, .inr (5, [.ref q0, .ref q1, .ref q2, .ref q3, .ref q4, .ref q5, .long 0]))] ++ (ux_w3 y q5 u5 ++ (ux_w3 y q4 u4 ++ (ux_w3 y q3 u3 ++ (ux_w0 y q2 u2 ++ (ux_w0 y q1 u1 ++ (ux_w4 y q0 u0 ++ ([] : va_W)))))))) H := hP
  have hD : va_D A ([(h0, .inr (5, [.ref q0, .ref q1, .ref q2, .ref q3, .ref q4, .ref q5, .long 0]))] ++ (ux_w3 y q5 u5 ++ (ux_w3 y q4 u4 ++ (ux_w3 y q3 u3 ++ (ux_w0 y q2 u2 ++ (ux_w0 y q1 u1 ++ (ux_w4 y q0 u0 ++ ([] : va_W)))))))) := hD
  refine lv_aload_n hx hb dX5_in_70 rfl (lv_at hl 0 rfl) ?_
  refine lv_lconst (v := 0) hx hb dX5_in_71 (by decide) ?_
  refine va_put (D := D) (ci := 5) (v := .long 0) (C := RX5) (T := TX5) (N := 7) hx hb (Ts := tw_big) (fun _ h => hw h) tw_cl_w5 tyX5 tyX5_ok nmX5 hown hK hP hD hS 0 rfl rfl 6 (by decide) (hw (tw_g_in (i := 253) (by decide +kernel))) (fun _ h9 => h9) rfl (tyX5_ok 6 (by decide)) rfl rfl (Nat.le_of_ble_eq_true rfl) dX5_in_72 (fun H locs hP hD hS => ?_)
  have hP : va_P D vwCl ([(h0, .inr (5, [.ref q0, .ref q1, .ref q2, .ref q3, .ref q4, .ref q5, .long 0]))] ++ (ux_w3 y q5 u5 ++ (ux_w3 y q4 u4 ++ (ux_w3 y q3 u3 ++ (ux_w0 y q2 u2 ++ (ux_w0 y q1 u1 ++ (ux_w4 y q0 u0 ++ ([] : va_W)))))))) H := hP
  have hD : va_D A ([(h0, .inr (5, [.ref q0, .ref q1, .ref q2, .ref q3, .ref q4, .ref q5, .long 0]))] ++ (ux_w3 y q5 u5 ++ (ux_w3 y q4 u4 ++ (ux_w3 y q3 u3 ++ (ux_w0 y q2 u2 ++ (ux_w0 y q1 u1 ++ (ux_w4 y q0 u0 ++ ([] : va_W)))))))) := hD
  have eu : ∀ k j, j < 200 → ux_u5 (ux_v5 q0 q1 q2 q3 q4 q5 u0 u1 u2 u3 u4 u5) k j = (match k with | 0 => u0 | 1 => u1 | 2 => u2 | 3 => u3 | 4 => u4 | _ => u5) j := fun k j hj => ux_v5_u hj
  have hP := ux_w3_to (v := (ux_u5 (ux_v5 q0 q1 q2 q3 q4 q5 u0 u1 u2 u3 u4 u5) 5)) (fun j hj => (eu 5 j hj).symm) hP
  rw [← List.append_assoc] at hP
  have hP := ux_w3_to (v := (ux_u5 (ux_v5 q0 q1 q2 q3 q4 q5 u0 u1 u2 u3 u4 u5) 4)) (fun j hj => (eu 4 j hj).symm) hP
  rw [← List.append_assoc] at hP
  have hP := ux_w3_to (v := (ux_u5 (ux_v5 q0 q1 q2 q3 q4 q5 u0 u1 u2 u3 u4 u5) 3)) (fun j hj => (eu 3 j hj).symm) hP
  rw [ux_w0_eq (u := u2) (v := (ux_u5 (ux_v5 q0 q1 q2 q3 q4 q5 u0 u1 u2 u3 u4 u5) 2)) (fun j hj => (eu 2 j hj).symm), ux_w0_eq (u := u1) (v := (ux_u5 (ux_v5 q0 q1 q2 q3 q4 q5 u0 u1 u2 u3 u4 u5) 1)) (fun j hj => (eu 1 j hj).symm), ux_w4_eq (u := u0) (v := (ux_u5 (ux_v5 q0 q1 q2 q3 q4 q5 u0 u1 u2 u3 u4 u5) 0)) (fun j hj => (eu 0 j hj).symm)] at hP
  rw [List.append_assoc, List.append_assoc] at hP
  have hP : va_P D vwCl (ux_w5 y h0 (ux_q5 (ux_v5 q0 q1 q2 q3 q4 q5 u0 u1 u2 u3 u4 u5)) (ux_u5 (ux_v5 q0 q1 q2 q3 q4 q5 u0 u1 u2 u3 u4 u5))) H := hP
  have hD : va_D A (ux_w5 y h0 (ux_q5 (ux_v5 q0 q1 q2 q3 q4 q5 u0 u1 u2 u3 u4 u5)) (ux_u5 (ux_v5 q0 q1 q2 q3 q4 q5 u0 u1 u2 u3 u4 u5))) := by
    refine ux_D_of hD ?_
    have e3 : ∀ (a : Nat) (u v : Nat → Nat), (∀ j, j < 200 → u j = v j) → (ux_w3 y a u).map Prod.fst = (ux_w3 y a v).map Prod.fst := by
      intro a u v h
      unfold ux_w3
      rw [ux_sl_eq (F := fun j => u (3 + j)) (G := fun j => v (3 + j)) (i := 8) (fun j hj => h _ (by omega)), ux_el_eq (F := fun j => u (27 + j)) (G := fun j => v (27 + j)) (i := 4) (fun j hj => h _ (by omega)), h 0 (by decide), h 1 (by decide), h 2 (by decide)]
      rfl
    unfold ux_w5
    rw [ux_w0_eq (u := u2) (v := (ux_u5 (ux_v5 q0 q1 q2 q3 q4 q5 u0 u1 u2 u3 u4 u5) 2)) (fun j hj => (eu 2 j hj).symm), ux_w0_eq (u := u1) (v := (ux_u5 (ux_v5 q0 q1 q2 q3 q4 q5 u0 u1 u2 u3 u4 u5) 1)) (fun j hj => (eu 1 j hj).symm), ux_w4_eq (u := u0) (v := (ux_u5 (ux_v5 q0 q1 q2 q3 q4 q5 u0 u1 u2 u3 u4 u5) 0)) (fun j hj => (eu 0 j hj).symm)]
    simp only [List.map_append, e3 q5 u5 (ux_u5 (ux_v5 q0 q1 q2 q3 q4 q5 u0 u1 u2 u3 u4 u5) 5) (fun j hj => (eu 5 j hj).symm), e3 q4 u4 (ux_u5 (ux_v5 q0 q1 q2 q3 q4 q5 u0 u1 u2 u3 u4 u5) 4) (fun j hj => (eu 4 j hj).symm), e3 q3 u3 (ux_u5 (ux_v5 q0 q1 q2 q3 q4 q5 u0 u1 u2 u3 u4 u5) 3) (fun j hj => (eu 3 j hj).symm)]
    rfl
  exact W.vret hx hb hr (fun t ht hW => ⟨⟨(ux_v5 q0 q1 q2 q3 q4 q5 u0 u1 u2 u3 u4 u5), rfl, trivial, by rw [ht]; exact hP, by rw [hAe]; exact hD⟩, by rw [hAe]; exact hS.F ht⟩) hS.2.2 dX5_in_75
