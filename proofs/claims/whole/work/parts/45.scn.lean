/-! a scene, new: eight sayings, four ears, nobody stands anywhere -/
def ux_pu (F : Nat → Nat) (k a : Nat) (u : Nat → Nat) : Nat → Nat := fun j => if j < k then F j else if j = k then a else u (j - (k + 1))
theorem ux_pu_lt {F u : Nat → Nat} {k a j : Nat} (h : j < k) : ux_pu F k a u j = F j := if_pos h
theorem ux_pu_at {F u : Nat → Nat} {k a : Nat} : ux_pu F k a u k = a := by
  unfold ux_pu
  rw [if_neg (Nat.lt_irrefl k), if_pos rfl]
theorem ux_pu_gt {F u : Nat → Nat} {k a : Nat} : (fun j => ux_pu F k a u (k + 1 + j)) = u := by
  funext j
  unfold ux_pu
  rw [if_neg (by omega), if_neg (by omega), show k + 1 + j - (k + 1) = j by omega]
def ux_sl (y : Nat → ClassId) (F : Nat → Nat) : Nat → va_W
  | 0 => []
  | i + 1 => ux_w2 y (F (3 * i)) (fun j => F (3 * i + 1 + j)) ++ ux_sl y F i
def ux_el (y : Nat → ClassId) (F : Nat → Nat) : Nat → va_W
  | 0 => []
  | i + 1 => ux_w1 y (F (3 * i)) (fun j => F (3 * i + 1 + j)) ++ ux_el y F i
theorem ux_w2_eq {y : Nat → ClassId} {a : Nat} {u v : Nat → Nat} (h0 : u 0 = v 0) (h1 : u 1 = v 1) : ux_w2 y a u = ux_w2 y a v := by
  unfold ux_w2
  rw [h0, h1]
theorem ux_w1_eq {y : Nat → ClassId} {a : Nat} {u v : Nat → Nat} (h0 : u 0 = v 0) (h1 : u 1 = v 1) : ux_w1 y a u = ux_w1 y a v := by
  unfold ux_w1
  rw [h0, h1]
theorem ux_sl_eq {y : Nat → ClassId} {F G : Nat → Nat} : ∀ {i : Nat}, (∀ j, j < 3 * i → F j = G j) → ux_sl y F i = ux_sl y G i
  | 0, _ => rfl
  | i + 1, h => by
    rw [ux_sl, ux_sl, ux_sl_eq (fun j hj => h j (by omega)), h (3 * i) (by omega)]
    congr 1
    exact ux_w2_eq (h _ (by omega)) (h _ (by omega))
theorem ux_el_eq {y : Nat → ClassId} {F G : Nat → Nat} : ∀ {i : Nat}, (∀ j, j < 3 * i → F j = G j) → ux_el y F i = ux_el y G i
  | 0, _ => rfl
  | i + 1, h => by
    rw [ux_el, ux_el, ux_el_eq (fun j hj => h j (by omega)), h (3 * i) (by omega)]
    congr 1
    exact ux_w1_eq (h _ (by omega)) (h _ (by omega))
theorem ux_sl_push {y : Nat → ClassId} {F u : Nat → Nat} {i a : Nat} : ux_sl y (ux_pu F (3 * i) a u) (i + 1) = ux_w2 y a u ++ ux_sl y F i := by
  rw [ux_sl, ux_pu_at, ux_pu_gt, ux_sl_eq (fun j hj => ux_pu_lt hj)]
theorem ux_el_push {y : Nat → ClassId} {F u : Nat → Nat} {i a : Nat} : ux_el y (ux_pu F (3 * i) a u) (i + 1) = ux_w1 y a u ++ ux_el y F i := by
  rw [ux_el, ux_pu_at, ux_pu_gt, ux_el_eq (fun j hj => ux_pu_lt hj)]
def ux_r3 : Room := { frames := 2, cells := 39, slots := 636, locals := 32 }
theorem ux_cell {cA : ClassId} {n : Nat} {f g : Nat → Option Nat} (h : ∀ j, j < n → f j = g j) : vp_cell cA (n, .inr (.inr (.inr (.inr f)))) = vp_cell cA (n, .inr (.inr (.inr (.inr g)))) := by
  rw [vp_cell_q, vp_cell_q]
  unfold arrV
  congr 2
  funext j
  exact congrArg va_rf (h j.val j.isLt)
theorem ux_celli {cA : ClassId} {n : Nat} {f g : Nat → Int32} (h : ∀ j, j < n → f j = g j) : vp_cell cA (n, .inl f) = vp_cell cA (n, .inl g) := by
  rw [vp_cell_i, vp_cell_i]
  unfold arrV
  congr 2
  funext j
  exact congrArg Value.int (h j.val j.isLt)
theorem ux_rep {D : va_G} {cl : List vw_C} {ws : va_W} {H : Heap} (hP : va_P D cl ws H) (k : Nat) {a : Nat} {x x' : ClassId × vp_A} (h : ws[k]? = some (a, .inl x)) (e : vp_cell x.1 x.2 = vp_cell x'.1 x'.2) : va_P D cl (ws.set k (a, .inl x')) H := by
  intro k' q hq
  by_cases hk : k' = k
  · subst hk
    rw [List.getElem?_set_self (List.getElem?_eq_some_iff.mp h).1] at hq
    cases hq
    have := hP k' _ h
    show H[a]? = some (vp_cell x'.1 x'.2)
    rw [← e]
    exact this
  · rw [List.getElem?_set_ne (Ne.symm hk)] at hq
    exact hP k' q hq
set_option maxHeartbeats 4000000 in
set_option maxRecDepth 100000 in
theorem ux_loopS {p : Program} {l : Launch} {e : Env} {s : State} {m : MethodId} {below : List Frame} {meth : Method} {c : Code} {y : Nat → ClassId} {D : va_G} {A : Nat → Prop} (hx : p.tables.exec = Jvm.exec) (hb : c.code = cX3_init) (hml : c.maxLocals = 2) (hown : s.vm.findClass RX3 = some m.cls) {h0 a b d : Nat} (hts : ∀ w ∈ wX3_init, w.before #[Value.ref h0] s = true) (hQ : ux_Q y D s) (hA : ∀ q, s.heap.size ≤ q → A q) {Qf : State → Prop} {PL : va_W}
    (kk : ∀ (F : Nat → Nat) (f : Nat → Option Nat) (H : Heap) (locs : List Loc) (ls : Array Slot), (∀ j, j < 8 → f j = some (F (3 * j))) → va_P D vwCl ([(h0, .inr (3, [.ref a, .ref b, .ref d, .int 0, .int 0, .int 0, .int 0])), (a, .inl (y 3, 8, .inr (.inr (.inr (.inr f))))), (b, .inl (y 2, 4, .inr (.inr (.inr (.inr (fun _ => none)))))), (d, .inl (y 0, (4, .inl (fun _ => 0))))] ++ (ux_sl y F 8 ++ PL)) H → va_D A ([(h0, .inr (3, [.ref a, .ref b, .ref d, .int 0, .int 0, .int 0, .int 0])), (a, .inl (y 3, 8, .inr (.inr (.inr (.inr f))))), (b, .inl (y 2, 4, .inr (.inr (.inr (.inr (fun _ => none)))))), (d, .inl (y 0, (4, .inl (fun _ => 0))))] ++ (ux_sl y F 8 ++ PL)) → va_S A s.heap H locs → lv_has ls 2 [(0, .ref h0)] → W p l e ux_r3 s m #[Value.ref h0] below meth c H locs 27 144 Qf (F0 m 78 ls [])) :
    ∀ (n i : Nat), i + n = 8 → ∀ (F : Nat → Nat) (f : Nat → Option Nat) (H : Heap) (locs : List Loc) (ls : Array Slot), (∀ j, j < i → f j = some (F (3 * j))) → va_P D vwCl ([(h0, .inr (3, [.ref a, .ref b, .ref d, .int 0, .int 0, .int 0, .int 0])), (a, .inl (y 3, 8, .inr (.inr (.inr (.inr f))))), (b, .inl (y 2, 4, .inr (.inr (.inr (.inr (fun _ => none)))))), (d, .inl (y 0, (4, .inl (fun _ => 0))))] ++ (ux_sl y F i ++ PL)) H → va_D A ([(h0, .inr (3, [.ref a, .ref b, .ref d, .int 0, .int 0, .int 0, .int 0])), (a, .inl (y 3, 8, .inr (.inr (.inr (.inr f))))), (b, .inl (y 2, 4, .inr (.inr (.inr (.inr (fun _ => none)))))), (d, .inl (y 0, (4, .inl (fun _ => 0))))] ++ (ux_sl y F i ++ PL)) → va_S A s.heap H locs → lv_has ls 2 [(1, .int (nI i)), (0, .ref h0)] → W p l e ux_r3 s m #[Value.ref h0] below meth c H locs (3 + 3 * i) (16 + 16 * i) Qf (F0 m 50 ls []) := by
  have hK := hQ.1
  have hw : ∀ {w : Cond}, w ∈ tw_big → w.before #[Value.ref h0] s = true := fun h => hts _ (List.mem_cons_of_mem _ h)
  intro n
  induction n with
  | zero =>
    intro i hi F f H locs ls hf hP hD hS hl
    obtain rfl : i = 8 := by omega
    refine lv_iload_n hx hb dX3_in_50 rfl (lv_at hl 0 rfl) ?_
    refine lv_aload_n hx hb dX3_in_51 rfl (lv_at hl 1 rfl) ?_
    refine va_get (D := D) (ci := 3) (v := .ref a) (C := RX3) (T := TX3) (N := 7) hx hb (Ts := tw_big) (fun _ h => hw h) tw_cl_w3 hown hK hP 0 rfl rfl 0 (by decide) (hw (tw_g_in (i := 220) (by decide +kernel))) (fun _ h9 => h9) rfl dX3_in_52 ?_
    refine va_alen (ty := .object RX2) (v := 8) hx hb hK hP 1 3 rfl rfl rfl dX3_in_55 ?_
    refine lv_icmp_ge (tgt := 78) hx hb dX3_in_56 (by decide) (fun c1 => ?_) (fun c1 => ?_)
    · exact kk F f H locs ls hf hP hD hS (lv_sub hl [1] rfl)
    · exact absurd (Int32.le_refl _) c1
  | succ n ih =>
    intro i hi F f H locs ls hf hP hD hS hl
    refine lv_iload_n hx hb dX3_in_50 rfl (lv_at hl 0 rfl) ?_
    refine lv_aload_n hx hb dX3_in_51 rfl (lv_at hl 1 rfl) ?_
    refine va_get (D := D) (ci := 3) (v := .ref a) (C := RX3) (T := TX3) (N := 7) hx hb (Ts := tw_big) (fun _ h => hw h) tw_cl_w3 hown hK hP 0 rfl rfl 0 (by decide) (hw (tw_g_in (i := 220) (by decide +kernel))) (fun _ h9 => h9) rfl dX3_in_52 ?_
    refine va_alen (ty := .object RX2) (v := 8) hx hb hK hP 1 3 rfl rfl rfl dX3_in_55 ?_
    refine lv_icmp_ge (tgt := 78) hx hb dX3_in_56 (by decide) (fun c1 => ?_) (fun c1 => ?_)
    · exact absurd (show nI 8 ≤ nI i from c1) (nI_ge (by omega) (by decide))
    · refine lv_aload_n hx hb dX3_in_59 rfl (lv_at hl 1 rfl) ?_
      refine va_get (D := D) (ci := 3) (v := .ref a) (C := RX3) (T := TX3) (N := 7) hx hb (Ts := tw_big) (fun _ h => hw h) tw_cl_w3 hown hK hP 0 rfl rfl 0 (by decide) (hw (tw_g_in (i := 220) (by decide +kernel))) (fun _ h9 => h9) rfl dX3_in_60 ?_
      refine lv_iload_n hx hb dX3_in_63 rfl (lv_at hl 0 rfl) ?_
      refine va_new (ci := 2) (fs := [.null, .null, .int 0, .int 0, .int 0, .int 0, .int 0, .int 0]) (C := RX2) (T := TX2) (N := 8) hx hb (Ts := tw_big) (fun _ h => hw h) tw_cl_w2 tyX2 tyX2_ok hown (hw (tw_g_in (i := 149) (by decide +kernel))) (hw (tw_g_in (i := 153) (by decide +kernel))) (hw (tw_g_in (i := 52) (by decide +kernel))) hK hP hD hS hA rfl (fun j hj => match j, hj with | 0, _ => rfl | 1, _ => rfl | 2, _ => rfl | 3, _ => rfl | 4, _ => rfl | 5, _ => rfl | 6, _ => rfl | 7, _ => rfl | n + 8, h => absurd h (by omega)) (show 3 + 3 * i + 1 ≤ 39 by omega) (show 16 + 16 * i + 8 ≤ 636 by omega) dX3_in_64 (fun q H hP hD hS => ?_)
      have hP : va_P D vwCl ([(h0, .inr (3, [.ref a, .ref b, .ref d, .int 0, .int 0, .int 0, .int 0])), (a, .inl (y 3, 8, .inr (.inr (.inr (.inr f))))), (b, .inl (y 2, 4, .inr (.inr (.inr (.inr (fun _ => none)))))), (d, .inl (y 0, (4, .inl (fun _ => 0)))), (q, .inr (2, [.null, .null, .int 0, .int 0, .int 0, .int 0, .int 0, .int 0]))] ++ (ux_sl y F i ++ PL)) H := hP.swap
      have hD : va_D A ([(h0, .inr (3, [.ref a, .ref b, .ref d, .int 0, .int 0, .int 0, .int 0])), (a, .inl (y 3, 8, .inr (.inr (.inr (.inr f))))), (b, .inl (y 2, 4, .inr (.inr (.inr (.inr (fun _ => none)))))), (d, .inl (y 0, (4, .inl (fun _ => 0)))), (q, .inr (2, [.null, .null, .int 0, .int 0, .int 0, .int 0, .int 0, .int 0]))] ++ (ux_sl y F i ++ PL)) := hD.swap
      refine lv_dup hx hb dX3_in_67 rfl ?_
      have hPc := hP.sub (ws' := [(q, .inr (2, [.null, .null, .int 0, .int 0, .int 0, .int 0, .int 0, .int 0]))]) [4] rfl
      have hDc := hD.sub (ws' := [(q, .inr (2, [.null, .null, .int 0, .int 0, .int 0, .int 0, .int 0, .int 0]))]) [4] (by decide) rfl
      have hFc := va_free (wc := [(q, .inr (2, [.null, .null, .int 0, .int 0, .int 0, .int 0, .int 0, .int 0]))]) hD hS hA [4] rfl
      refine va_callv (va_runIN (host := "ThawWords") (As := []) (rest := [.ref q, .int (nI i), .ref a]) ⟨hx, hb, hml, hown, hts⟩ (ux_c2 l y D q H.size) ⟨va_cnB 0 hts (ux_goodIn (tw_g_in (i := 156) (by decide +kernel))) rfl rfl rfl (hQ.2.2.2 (RX3, 41, yX2_init) (List.mem_of_getElem? (i := 2) rfl)) (hw (tw_g_in (i := 52) (by decide +kernel))) ⟨by decide, by decide, by decide +kernel⟩ ⟨Nat.le_of_ble_eq_true rfl, Nat.le_of_ble_eq_true rfl⟩, rfl, (hw (tw_g_in (i := 155) (by decide +kernel)))⟩ ⟨ux_blind, fun U hU hW => ⟨rfl, by rw [hU], by rw [hU]; exact hPc, hQ.warm hW, hDc.weaken (fun _ _ _ _ => trivial)⟩⟩ rfl rfl hl.1 rfl (lv_room (Nat.le_of_ble_eq_true rfl)) dX3_in_68 ⟨show 3 + 3 * i + 1 + 2 ≤ 39 by omega, show 16 + 16 * i + 8 + 8 ≤ 636 by omega⟩) hS (fun q _ h => hFc q h) hFc (fun u t H1 locs ht hvm hw1 hB hz1 hk1 hS => ?_)
      obtain ⟨hP1, hD1⟩ := hB
      rw [ht] at hP1
      obtain ⟨hP, hD⟩ := va_joinQ (wr := [(h0, .inr (3, [.ref a, .ref b, .ref d, .int 0, .int 0, .int 0, .int 0])), (a, .inl (y 3, 8, .inr (.inr (.inr (.inr f))))), (b, .inl (y 2, 4, .inr (.inr (.inr (.inr (fun _ => none)))))), (d, .inl (y 0, (4, .inl (fun _ => 0))))]) (w1 := ux_w2 y q u) hP hD [4] [0, 1, 2, 3] rfl rfl (by decide) (by decide) hk1 hFc hP1 hD1
      refine va_astq (r := (RX2, TX2, 8)) (n := 8) (f := f) hx hb hK hP hD hS 1 3 4 2 rfl rfl rfl rfl (vp_in_nI (by omega) (by decide)) dX3_in_71 (fun H locs hP hD hS => ?_)
      rw [nI_clamp (show i < 2 ^ 31 by omega)] at hP hD
      have hP : va_P D vwCl ([(h0, .inr (3, [.ref a, .ref b, .ref d, .int 0, .int 0, .int 0, .int 0])), (a, .inl (y 3, 8, .inr (.inr (.inr (.inr (va_up f i (some q))))))), (b, .inl (y 2, 4, .inr (.inr (.inr (.inr (fun _ => none)))))), (d, .inl (y 0, (4, .inl (fun _ => 0))))] ++ (ux_w2 y q u ++ (ux_sl y F i ++ PL))) H := by
        rw [← List.append_assoc]
        exact hP
      have hD : va_D A ([(h0, .inr (3, [.ref a, .ref b, .ref d, .int 0, .int 0, .int 0, .int 0])), (a, .inl (y 3, 8, .inr (.inr (.inr (.inr (va_up f i (some q))))))), (b, .inl (y 2, 4, .inr (.inr (.inr (.inr (fun _ => none)))))), (d, .inl (y 0, (4, .inl (fun _ => 0))))] ++ (ux_w2 y q u ++ (ux_sl y F i ++ PL))) := by
        rw [← List.append_assoc]
        exact hD
      rw [← List.append_assoc (ux_w2 y q u), ← ux_sl_push] at hP hD
      refine lv_iinc (v := nI (i + 1)) (lv' := [(1, .int (nI (i + 1))), (0, .ref h0)]) hx hb dX3_in_72 hl (k := 0) rfl (nI_1 i) (by decide) rfl (fun ls hl => ?_)
      refine lv_goto (tgt := 50) hx hb dX3_in_75 (by decide) ?_
      refine W.widen (k := 3 + 3 * (i + 1)) (n := 16 + 16 * (i + 1)) (by omega) (by omega) ?_
      refine ih (i + 1) (by omega) _ _ _ _ _ (fun j hj => ?_) hP hD hS hl
      by_cases e : j = i
      · subst e
        rw [va_up_self, ux_pu_at]
      · rw [va_up_ne _ _ e, ux_pu_lt (by omega)]
        exact hf j (by omega)
set_option maxHeartbeats 4000000 in
set_option maxRecDepth 100000 in
theorem ux_loopE {p : Program} {l : Launch} {e : Env} {s : State} {m : MethodId} {below : List Frame} {meth : Method} {c : Code} {y : Nat → ClassId} {D : va_G} {A : Nat → Prop} (hx : p.tables.exec = Jvm.exec) (hb : c.code = cX3_init) (hml : c.maxLocals = 2) (hown : s.vm.findClass RX3 = some m.cls) {h0 a b d : Nat} (hts : ∀ w ∈ wX3_init, w.before #[Value.ref h0] s = true) (hQ : ux_Q y D s) (hA : ∀ q, s.heap.size ≤ q → A q) {Qf : State → Prop} {PL : va_W} {f : Nat → Option Nat}
    (kk : ∀ (F : Nat → Nat) (g : Nat → Option Nat) (H : Heap) (locs : List Loc) (ls : Array Slot), (∀ j, j < 4 → g j = some (F (3 * j))) → va_P D vwCl ([(h0, .inr (3, [.ref a, .ref b, .ref d, .int 0, .int 0, .int 0, .int 0])), (a, .inl (y 3, 8, .inr (.inr (.inr (.inr f))))), (b, .inl (y 2, 4, .inr (.inr (.inr (.inr g))))), (d, .inl (y 0, (4, .inl (fun _ => 0))))] ++ (ux_el y F 4 ++ PL)) H → va_D A ([(h0, .inr (3, [.ref a, .ref b, .ref d, .int 0, .int 0, .int 0, .int 0])), (a, .inl (y 3, 8, .inr (.inr (.inr (.inr f))))), (b, .inl (y 2, 4, .inr (.inr (.inr (.inr g))))), (d, .inl (y 0, (4, .inl (fun _ => 0))))] ++ (ux_el y F 4 ++ PL)) → va_S A s.heap H locs → lv_has ls 2 [(0, .ref h0)] → W p l e ux_r3 s m #[Value.ref h0] below meth c H locs 39 636 Qf (F0 m 108 ls [])) :
    ∀ (n i : Nat), i + n = 4 → ∀ (F : Nat → Nat) (g : Nat → Option Nat) (H : Heap) (locs : List Loc) (ls : Array Slot), (∀ j, j < i → g j = some (F (3 * j))) → va_P D vwCl ([(h0, .inr (3, [.ref a, .ref b, .ref d, .int 0, .int 0, .int 0, .int 0])), (a, .inl (y 3, 8, .inr (.inr (.inr (.inr f))))), (b, .inl (y 2, 4, .inr (.inr (.inr (.inr g))))), (d, .inl (y 0, (4, .inl (fun _ => 0))))] ++ (ux_el y F i ++ PL)) H → va_D A ([(h0, .inr (3, [.ref a, .ref b, .ref d, .int 0, .int 0, .int 0, .int 0])), (a, .inl (y 3, 8, .inr (.inr (.inr (.inr f))))), (b, .inl (y 2, 4, .inr (.inr (.inr (.inr g))))), (d, .inl (y 0, (4, .inl (fun _ => 0))))] ++ (ux_el y F i ++ PL)) → va_S A s.heap H locs → lv_has ls 2 [(1, .int (nI i)), (0, .ref h0)] → W p l e ux_r3 s m #[Value.ref h0] below meth c H locs (27 + 3 * i) (144 + 123 * i) Qf (F0 m 80 ls []) := by
  have hK := hQ.1
  have hw : ∀ {w : Cond}, w ∈ tw_big → w.before #[Value.ref h0] s = true := fun h => hts _ (List.mem_cons_of_mem _ h)
  intro n
  induction n with
  | zero =>
    intro i hi F g H locs ls hf hP hD hS hl
    obtain rfl : i = 4 := by omega
    refine lv_iload_n hx hb dX3_in_80 rfl (lv_at hl 0 rfl) ?_
    refine lv_aload_n hx hb dX3_in_81 rfl (lv_at hl 1 rfl) ?_
    refine va_get (D := D) (ci := 3) (v := .ref b) (C := RX3) (T := TX3) (N := 7) hx hb (Ts := tw_big) (fun _ h => hw h) tw_cl_w3 hown hK hP 0 rfl rfl 1 (by decide) (hw (tw_g_in (i := 221) (by decide +kernel))) (fun _ h9 => h9) rfl dX3_in_82 ?_
    refine va_alen (ty := .object RX1) (v := 4) hx hb hK hP 2 2 rfl rfl rfl dX3_in_85 ?_
    refine lv_icmp_ge (tgt := 108) hx hb dX3_in_86 (by decide) (fun c1 => ?_) (fun c1 => ?_)
    · exact kk F g H locs ls hf hP hD hS (lv_sub hl [1] rfl)
    · exact absurd (Int32.le_refl _) c1
  | succ n ih =>
    intro i hi F g H locs ls hf hP hD hS hl
    refine lv_iload_n hx hb dX3_in_80 rfl (lv_at hl 0 rfl) ?_
    refine lv_aload_n hx hb dX3_in_81 rfl (lv_at hl 1 rfl) ?_
    refine va_get (D := D) (ci := 3) (v := .ref b) (C := RX3) (T := TX3) (N := 7) hx hb (Ts := tw_big) (fun _ h => hw h) tw_cl_w3 hown hK hP 0 rfl rfl 1 (by decide) (hw (tw_g_in (i := 221) (by decide +kernel))) (fun _ h9 => h9) rfl dX3_in_82 ?_
    refine va_alen (ty := .object RX1) (v := 4) hx hb hK hP 2 2 rfl rfl rfl dX3_in_85 ?_
    refine lv_icmp_ge (tgt := 108) hx hb dX3_in_86 (by decide) (fun c1 => ?_) (fun c1 => ?_)
    · exact absurd (show nI 4 ≤ nI i from c1) (nI_ge (by omega) (by decide))
    · refine lv_aload_n hx hb dX3_in_89 rfl (lv_at hl 1 rfl) ?_
      refine va_get (D := D) (ci := 3) (v := .ref b) (C := RX3) (T := TX3) (N := 7) hx hb (Ts := tw_big) (fun _ h => hw h) tw_cl_w3 hown hK hP 0 rfl rfl 1 (by decide) (hw (tw_g_in (i := 221) (by decide +kernel))) (fun _ h9 => h9) rfl dX3_in_90 ?_
      refine lv_iload_n hx hb dX3_in_93 rfl (lv_at hl 0 rfl) ?_
      refine va_new (ci := 1) (fs := [.null, .null, .int 0]) (C := RX1) (T := TX1) (N := 3) hx hb (Ts := tw_big) (fun _ h => hw h) tw_cl_w1 tyX1 tyX1_ok hown (hw (tw_g_in (i := 151) (by decide +kernel))) (hw (tw_g_in (i := 201) (by decide +kernel))) (hw (tw_g_in (i := 53) (by decide +kernel))) hK hP hD hS hA rfl (fun j hj => match j, hj with | 0, _ => rfl | 1, _ => rfl | 2, _ => rfl | n + 3, h => absurd h (by omega)) (show 27 + 3 * i + 1 ≤ 39 by omega) (show 144 + 123 * i + 3 ≤ 636 by omega) dX3_in_94 (fun q H hP hD hS => ?_)
      have hP : va_P D vwCl ([(h0, .inr (3, [.ref a, .ref b, .ref d, .int 0, .int 0, .int 0, .int 0])), (a, .inl (y 3, 8, .inr (.inr (.inr (.inr f))))), (b, .inl (y 2, 4, .inr (.inr (.inr (.inr g))))), (d, .inl (y 0, (4, .inl (fun _ => 0)))), (q, .inr (1, [.null, .null, .int 0]))] ++ (ux_el y F i ++ PL)) H := hP.swap
      have hD : va_D A ([(h0, .inr (3, [.ref a, .ref b, .ref d, .int 0, .int 0, .int 0, .int 0])), (a, .inl (y 3, 8, .inr (.inr (.inr (.inr f))))), (b, .inl (y 2, 4, .inr (.inr (.inr (.inr g))))), (d, .inl (y 0, (4, .inl (fun _ => 0)))), (q, .inr (1, [.null, .null, .int 0]))] ++ (ux_el y F i ++ PL)) := hD.swap
      refine lv_dup hx hb dX3_in_97 rfl ?_
      have hPc := hP.sub (ws' := [(q, .inr (1, [.null, .null, .int 0]))]) [4] rfl
      have hDc := hD.sub (ws' := [(q, .inr (1, [.null, .null, .int 0]))]) [4] (by decide) rfl
      have hFc := va_free (wc := [(q, .inr (1, [.null, .null, .int 0]))]) hD hS hA [4] rfl
      refine va_callv (va_runIN (host := "ThawWords") (As := []) (rest := [.ref q, .int (nI i), .ref b]) ⟨hx, hb, hml, hown, hts⟩ (ux_c1 l y D q H.size) ⟨va_cnB 0 hts (ux_goodIn (tw_g_in (i := 204) (by decide +kernel))) rfl rfl rfl (hQ.2.2.2 (RX3, 42, yX1_init) (List.mem_of_getElem? (i := 3) rfl)) (hw (tw_g_in (i := 53) (by decide +kernel))) ⟨by decide, by decide, by decide +kernel⟩ ⟨Nat.le_of_ble_eq_true rfl, Nat.le_of_ble_eq_true rfl⟩, rfl, (hw (tw_g_in (i := 203) (by decide +kernel)))⟩ ⟨ux_blind, fun U hU hW => ⟨rfl, by rw [hU], by rw [hU]; exact hPc, hQ.warm hW, hDc.weaken (fun _ _ _ _ => trivial)⟩⟩ rfl rfl hl.1 rfl (lv_room (Nat.le_of_ble_eq_true rfl)) dX3_in_98 ⟨show 27 + 3 * i + 1 + 2 ≤ 39 by omega, show 144 + 123 * i + 3 + 120 ≤ 636 by omega⟩) hS (fun q _ h => hFc q h) hFc (fun u t H1 locs ht hvm hw1 hB hz1 hk1 hS => ?_)
      obtain ⟨hP1, hD1⟩ := hB
      rw [ht] at hP1
      obtain ⟨hP, hD⟩ := va_joinQ (wr := [(h0, .inr (3, [.ref a, .ref b, .ref d, .int 0, .int 0, .int 0, .int 0])), (a, .inl (y 3, 8, .inr (.inr (.inr (.inr f))))), (b, .inl (y 2, 4, .inr (.inr (.inr (.inr g))))), (d, .inl (y 0, (4, .inl (fun _ => 0))))]) (w1 := ux_w1 y q u) hP hD [4] [0, 1, 2, 3] rfl rfl (by decide) (by decide) hk1 hFc hP1 hD1
      refine va_astq (r := (RX1, TX1, 3)) (n := 4) (f := g) hx hb hK hP hD hS 2 2 4 1 rfl rfl rfl rfl (vp_in_nI (by omega) (by decide)) dX3_in_101 (fun H locs hP hD hS => ?_)
      rw [nI_clamp (show i < 2 ^ 31 by omega)] at hP hD
      have hP : va_P D vwCl ([(h0, .inr (3, [.ref a, .ref b, .ref d, .int 0, .int 0, .int 0, .int 0])), (a, .inl (y 3, 8, .inr (.inr (.inr (.inr f))))), (b, .inl (y 2, 4, .inr (.inr (.inr (.inr (va_up g i (some q))))))), (d, .inl (y 0, (4, .inl (fun _ => 0))))] ++ (ux_w1 y q u ++ (ux_el y F i ++ PL))) H := by
        rw [← List.append_assoc]
        exact hP
      have hD : va_D A ([(h0, .inr (3, [.ref a, .ref b, .ref d, .int 0, .int 0, .int 0, .int 0])), (a, .inl (y 3, 8, .inr (.inr (.inr (.inr f))))), (b, .inl (y 2, 4, .inr (.inr (.inr (.inr (va_up g i (some q))))))), (d, .inl (y 0, (4, .inl (fun _ => 0))))] ++ (ux_w1 y q u ++ (ux_el y F i ++ PL))) := by
        rw [← List.append_assoc]
        exact hD
      rw [← List.append_assoc (ux_w1 y q u), ← ux_el_push] at hP hD
      refine lv_iinc (v := nI (i + 1)) (lv' := [(1, .int (nI (i + 1))), (0, .ref h0)]) hx hb dX3_in_102 hl (k := 0) rfl (nI_1 i) (by decide) rfl (fun ls hl => ?_)
      refine lv_goto (tgt := 80) hx hb dX3_in_105 (by decide) ?_
      refine W.widen (k := 27 + 3 * (i + 1)) (n := 144 + 123 * (i + 1)) (by omega) (by omega) ?_
      refine ih (i + 1) (by omega) _ _ _ _ _ (fun j hj => ?_) hP hD hS hl
      by_cases e : j = i
      · subst e
        rw [va_up_self, ux_pu_at]
      · rw [va_up_ne _ _ e, ux_pu_lt (by omega)]
        exact hf j (by omega)
set_option maxHeartbeats 4000000 in
set_option maxRecDepth 100000 in
theorem ux_loopT {p : Program} {l : Launch} {e : Env} {s : State} {m : MethodId} {below : List Frame} {meth : Method} {c : Code} {y : Nat → ClassId} {D : va_G} {A : Nat → Prop} {n1 n2 : Nat} (hx : p.tables.exec = Jvm.exec) (hb : c.code = cX3_init) (hown : s.vm.findClass RX3 = some m.cls) {h0 a b d : Nat} (hts : ∀ w ∈ wX3_init, w.before #[Value.ref h0] s = true) (hQ : ux_Q y D s) {Qf : State → Prop} {PL : va_W} {f g : Nat → Option Nat}
    (kk : ∀ (t : Nat → Int32) (H : Heap) (locs : List Loc) (ls : Array Slot), (∀ j, j < 4 → t j = -1) → va_P D vwCl ([(h0, .inr (3, [.ref a, .ref b, .ref d, .int 0, .int 0, .int 0, .int 0])), (a, .inl (y 3, 8, .inr (.inr (.inr (.inr f))))), (b, .inl (y 2, 4, .inr (.inr (.inr (.inr g))))), (d, .inl (y 0, (4, .inl t)))] ++ PL) H → va_D A ([(h0, .inr (3, [.ref a, .ref b, .ref d, .int 0, .int 0, .int 0, .int 0])), (a, .inl (y 3, 8, .inr (.inr (.inr (.inr f))))), (b, .inl (y 2, 4, .inr (.inr (.inr (.inr g))))), (d, .inl (y 0, (4, .inl t)))] ++ PL) → va_S A s.heap H locs → W p l e ux_r3 s m #[Value.ref h0] below meth c H locs n1 n2 Qf (F0 m 132 ls [])) :
    ∀ (n i : Nat), i + n = 4 → ∀ (t : Nat → Int32) (H : Heap) (locs : List Loc) (ls : Array Slot), (∀ j, j < i → t j = -1) → va_P D vwCl ([(h0, .inr (3, [.ref a, .ref b, .ref d, .int 0, .int 0, .int 0, .int 0])), (a, .inl (y 3, 8, .inr (.inr (.inr (.inr f))))), (b, .inl (y 2, 4, .inr (.inr (.inr (.inr g))))), (d, .inl (y 0, (4, .inl t)))] ++ PL) H → va_D A ([(h0, .inr (3, [.ref a, .ref b, .ref d, .int 0, .int 0, .int 0, .int 0])), (a, .inl (y 3, 8, .inr (.inr (.inr (.inr f))))), (b, .inl (y 2, 4, .inr (.inr (.inr (.inr g))))), (d, .inl (y 0, (4, .inl t)))] ++ PL) → va_S A s.heap H locs → lv_has ls 2 [(1, .int (nI i)), (0, .ref h0)] → W p l e ux_r3 s m #[Value.ref h0] below meth c H locs n1 n2 Qf (F0 m 110 ls []) := by
  have hK := hQ.1
  have hw : ∀ {w : Cond}, w ∈ tw_big → w.before #[Value.ref h0] s = true := fun h => hts _ (List.mem_cons_of_mem _ h)
  intro n
  induction n with
  | zero =>
    intro i hi t H locs ls hf hP hD hS hl
    obtain rfl : i = 4 := by omega
    refine lv_iload_n hx hb dX3_in_110 rfl (lv_at hl 0 rfl) ?_
    refine lv_aload_n hx hb dX3_in_111 rfl (lv_at hl 1 rfl) ?_
    refine va_get (D := D) (ci := 3) (v := .ref d) (C := RX3) (T := TX3) (N := 7) hx hb (Ts := tw_big) (fun _ h => hw h) tw_cl_w3 hown hK hP 0 rfl rfl 2 (by decide) (hw (tw_g_in (i := 222) (by decide +kernel))) (fun _ h9 => h9) rfl dX3_in_112 ?_
    refine va_alen (ty := .int) (v := 4) hx hb hK hP 3 0 rfl rfl rfl dX3_in_115 ?_
    refine lv_icmp_ge (tgt := 132) hx hb dX3_in_116 (by decide) (fun c1 => ?_) (fun c1 => ?_)
    · exact kk t H locs ls hf hP hD hS
    · exact absurd (Int32.le_refl _) c1
  | succ n ih =>
    intro i hi t H locs ls hf hP hD hS hl
    refine lv_iload_n hx hb dX3_in_110 rfl (lv_at hl 0 rfl) ?_
    refine lv_aload_n hx hb dX3_in_111 rfl (lv_at hl 1 rfl) ?_
    refine va_get (D := D) (ci := 3) (v := .ref d) (C := RX3) (T := TX3) (N := 7) hx hb (Ts := tw_big) (fun _ h => hw h) tw_cl_w3 hown hK hP 0 rfl rfl 2 (by decide) (hw (tw_g_in (i := 222) (by decide +kernel))) (fun _ h9 => h9) rfl dX3_in_112 ?_
    refine va_alen (ty := .int) (v := 4) hx hb hK hP 3 0 rfl rfl rfl dX3_in_115 ?_
    refine lv_icmp_ge (tgt := 132) hx hb dX3_in_116 (by decide) (fun c1 => ?_) (fun c1 => ?_)
    · exact absurd (show nI 4 ≤ nI i from c1) (nI_ge (by omega) (by decide))
    · refine lv_aload_n hx hb dX3_in_119 rfl (lv_at hl 1 rfl) ?_
      refine va_get (D := D) (ci := 3) (v := .ref d) (C := RX3) (T := TX3) (N := 7) hx hb (Ts := tw_big) (fun _ h => hw h) tw_cl_w3 hown hK hP 0 rfl rfl 2 (by decide) (hw (tw_g_in (i := 222) (by decide +kernel))) (fun _ h9 => h9) rfl dX3_in_120 ?_
      refine lv_iload_n hx hb dX3_in_123 rfl (lv_at hl 0 rfl) ?_
      refine lv_iconst (v := -1) hx hb dX3_in_124 (by decide) ?_
      refine va_iast hx hb hK hP hD hS 3 0 rfl rfl (vp_in_nI (by omega) (by decide)) dX3_in_125 (fun H locs hP hD hS => ?_)
      rw [nI_clamp (show i < 2 ^ 31 by omega)] at hP hD
      have hP : va_P D vwCl ([(h0, .inr (3, [.ref a, .ref b, .ref d, .int 0, .int 0, .int 0, .int 0])), (a, .inl (y 3, 8, .inr (.inr (.inr (.inr f))))), (b, .inl (y 2, 4, .inr (.inr (.inr (.inr g))))), (d, .inl (y 0, (4, .inl (upd t i (-1)))))] ++ PL) H := hP
      have hD : va_D A ([(h0, .inr (3, [.ref a, .ref b, .ref d, .int 0, .int 0, .int 0, .int 0])), (a, .inl (y 3, 8, .inr (.inr (.inr (.inr f))))), (b, .inl (y 2, 4, .inr (.inr (.inr (.inr g))))), (d, .inl (y 0, (4, .inl (upd t i (-1)))))] ++ PL) := hD
      refine lv_iinc (v := nI (i + 1)) (lv' := [(1, .int (nI (i + 1))), (0, .ref h0)]) hx hb dX3_in_126 hl (k := 0) rfl (nI_1 i) (by decide) rfl (fun ls hl => ?_)
      refine lv_goto (tgt := 110) hx hb dX3_in_129 (by decide) ?_
      refine ih (i + 1) (by omega) _ _ _ _ (fun j hj => ?_) hP hD hS hl
      unfold upd
      split
      · rfl
      · exact hf j (by omega)
def ux_w3 (y : Nat → ClassId) (h0 : Nat) (u : Nat → Nat) : va_W := [(h0, .inr (3, [.ref (u 0), .ref (u 1), .ref (u 2), .int 0, .int 0, .int 0, .int 0])), (u 0, .inl (y 3, 8, .inr (.inr (.inr (.inr (fun j => some (u (3 + 3 * j)))))))), (u 1, .inl (y 2, 4, .inr (.inr (.inr (.inr (fun j => some (u (27 + 3 * j)))))))), (u 2, .inl (y 0, (4, .inl (fun _ => -1))))] ++ (ux_el y (fun j => u (27 + j)) 4 ++ ux_sl y (fun j => u (3 + j)) 8)
def ux_u3 (a b d : Nat) (F G : Nat → Nat) : Nat → Nat := fun j => if j < 3 then [a, b, d].getD j 0 else if j < 27 then F (j - 3) else G (j - 27)
theorem ux_u3F {a b d j : Nat} {F G : Nat → Nat} (h : j < 24) : ux_u3 a b d F G (3 + j) = F j := by
  unfold ux_u3
  rw [if_neg (by omega), if_pos (by omega), show 3 + j - 3 = j by omega]
theorem ux_u3G {a b d j : Nat} {F G : Nat → Nat} : ux_u3 a b d F G (27 + j) = G j := by
  unfold ux_u3
  rw [if_neg (by omega), if_neg (by omega), show 27 + j - 27 = j by omega]
set_option maxHeartbeats 4000000 in
set_option maxRecDepth 100000 in
theorem ux_c3 (l : Launch) (y : Nat → ClassId) (D : va_G) (h0 sz : Nat) : Met l yX3_init wX3_init ux_r3 (ux_pre y D h0 [(h0, .inr (3, [.null, .null, .null, .int 0, .int 0, .int 0, .int 0]))] sz) (ux_post D [(h0, .inr (3, [.null, .null, .null, .int 0, .int 0, .int 0, .int 0]))] sz (ux_w3 y h0)) 39 636 (va_A [(h0, .inr (3, [.null, .null, .null, .int 0, .int 0, .int 0, .int 0]))] sz) := by
  refine Met.ofW (cc := cX3_init) (maxL := 2) (ret := none) (by decide) rfl ?_
  intro p e s m args below meth c s₁ B hml hv
  obtain ⟨rfl, hsz, hP, hQ, hD0⟩ := hv
  have hK := hQ.1
  have hx := B.exec
  have hb := B.bytes
  have hr := B.returns
  have hts := atoms_spec (ws := wX3_init) B.pre
  have hw : ∀ {w : Cond}, w ∈ tw_big → w.before #[Value.ref h0] s = true := fun h => hts _ (List.mem_cons_of_mem _ h)
  have hown : s.vm.findClass RX3 = some m.cls := findClass_of_methodNamed B.named
  have hlocks := B.notSynchronized
  have hin : meth.name = "<init>" := (name_of_methodNamed B.named B.method).1
  subst hsz
  have hD := hD0.self (sz := s.heap.size)
  generalize hAe : va_A [(h0, .inr (3, [.null, .null, .null, .int 0, .int 0, .int 0, .int 0]))] s.heap.size = A at hD ⊢
  have hA : ∀ q : Nat, s.heap.size ≤ q → A q := fun q h => by rw [← hAe]; exact Or.inr h
  have hS : va_S A s.heap s.heap [] := va_S.rf
  have hl := lv_entry ([.ref h0]) (n := 2) (Nat.le_of_ble_eq_true rfl)
  rw [lg_entry_eq]
  generalize (lg_sl ([.ref h0]) ++ List.replicate (2 - (lg_sl ([.ref h0])).length) Slot.unset).toArray = ls at hl ⊢
  have hl : lv_has ls 2 [(0, .ref h0)] := hl
  refine lv_aload_n hx hb dX3_in_0 rfl (lv_at hl 0 rfl) ?_
  refine W.objInit hx hb hown (hw (tw_g_in (i := 148) (by decide +kernel))) (hw (tw_g_in (i := 66) (by decide +kernel))) (hw (tw_g_in (i := 67) (by decide +kernel))) rfl (by rw [hml]; exact hl.1) rfl dX3_in_1 (Nat.le_of_ble_eq_true rfl) (Nat.le_of_ble_eq_true rfl) ?_
  refine W.eq (g2 := F0 m 4 ls []) rfl ?_
  refine lv_aload_n hx hb dX3_in_4 rfl (lv_at hl 0 rfl) ?_
  refine lv_bipush (v := 8) hx hb dX3_in_5 (by decide) ?_
  refine ux_newq (n := 8) (N' := 8) hx hb hown (hw (tw_g_in (i := 149) (by decide +kernel))) hQ.2.1 hK 3 rfl hP hD hS hA (by decide) (by decide) (by decide) (by decide) (by decide) dX3_in_7 (fun q0 H hP hD hS => ?_)
  have hP : va_P D vwCl [(h0, .inr (3, [.null, .null, .null, .int 0, .int 0, .int 0, .int 0])), (q0, .inl (y 3, 8, .inr (.inr (.inr (.inr (fun _ => none))))))] H := hP
  have hD : va_D A [(h0, .inr (3, [.null, .null, .null, .int 0, .int 0, .int 0, .int 0])), (q0, .inl (y 3, 8, .inr (.inr (.inr (.inr (fun _ => none))))))] := hD
  refine W.widen (k := 1) (n := 8) (by decide) (by decide) ?_
  refine va_putF (D := D) (ci := 3) (v := .ref q0) (C := RX3) (T := TX3) (N := 7) hx hb (Ts := tw_big) (fun _ h => hw h) tw_cl_w3 tyX3 tyX3_ok nmX3 hown hK hP hD hS 0 rfl rfl 0 (by decide) (hw (tw_g_in (i := 220) (by decide +kernel))) (fun _ h9 => h9) rfl hin rfl (tyX3_ok 0 (by decide)) rfl rfl (Nat.le_of_ble_eq_true rfl) dX3_in_10 (fun H locs hP hD hS => ?_)
  have hP : va_P D vwCl [(h0, .inr (3, [.ref q0, .null, .null, .int 0, .int 0, .int 0, .int 0])), (q0, .inl (y 3, 8, .inr (.inr (.inr (.inr (fun _ => none))))))] H := hP
  have hD : va_D A [(h0, .inr (3, [.ref q0, .null, .null, .int 0, .int 0, .int 0, .int 0])), (q0, .inl (y 3, 8, .inr (.inr (.inr (.inr (fun _ => none))))))] := hD
  refine lv_aload_n hx hb dX3_in_13 rfl (lv_at hl 0 rfl) ?_
  refine lv_iconst (v := 4) hx hb dX3_in_14 (by decide) ?_
  refine ux_newq (n := 4) (N' := 4) hx hb hown (hw (tw_g_in (i := 151) (by decide +kernel))) hQ.2.2.1 hK 2 rfl hP hD hS hA (by decide) (by decide) (by decide) (by decide) (by decide) dX3_in_15 (fun q1 H hP hD hS => ?_)
  have hP : va_P D vwCl [(h0, .inr (3, [.ref q0, .null, .null, .int 0, .int 0, .int 0, .int 0])), (q0, .inl (y 3, 8, .inr (.inr (.inr (.inr (fun _ => none)))))), (q1, .inl (y 2, 4, .inr (.inr (.inr (.inr (fun _ => none))))))] H := hP
  have hD : va_D A [(h0, .inr (3, [.ref q0, .null, .null, .int 0, .int 0, .int 0, .int 0])), (q0, .inl (y 3, 8, .inr (.inr (.inr (.inr (fun _ => none)))))), (q1, .inl (y 2, 4, .inr (.inr (.inr (.inr (fun _ => none))))))] := hD
  refine W.widen (k := 2) (n := 12) (by decide) (by decide) ?_
  refine va_putF (D := D) (ci := 3) (v := .ref q1) (C := RX3) (T := TX3) (N := 7) hx hb (Ts := tw_big) (fun _ h => hw h) tw_cl_w3 tyX3 tyX3_ok nmX3 hown hK hP hD hS 0 rfl rfl 1 (by decide) (hw (tw_g_in (i := 221) (by decide +kernel))) (fun _ h9 => h9) rfl hin rfl (tyX3_ok 1 (by decide)) rfl rfl (Nat.le_of_ble_eq_true rfl) dX3_in_18 (fun H locs hP hD hS => ?_)
  have hP : va_P D vwCl [(h0, .inr (3, [.ref q0, .ref q1, .null, .int 0, .int 0, .int 0, .int 0])), (q0, .inl (y 3, 8, .inr (.inr (.inr (.inr (fun _ => none)))))), (q1, .inl (y 2, 4, .inr (.inr (.inr (.inr (fun _ => none))))))] H := hP
  have hD : va_D A [(h0, .inr (3, [.ref q0, .ref q1, .null, .int 0, .int 0, .int 0, .int 0])), (q0, .inl (y 3, 8, .inr (.inr (.inr (.inr (fun _ => none)))))), (q1, .inl (y 2, 4, .inr (.inr (.inr (.inr (fun _ => none))))))] := hD
  refine lv_aload_n hx hb dX3_in_21 rfl (lv_at hl 0 rfl) ?_
  refine lv_iconst (v := 4) hx hb dX3_in_22 (by decide) ?_
  refine ux_newaI (n := 4) (N' := 4) hx hb (hw (tw_g_in (i := 94) (by decide +kernel))) hK 0 rfl hP hD hS hA (by decide) (by decide) (by decide) (by decide) (by decide) dX3_in_23 (fun q2 H hP hD hS => ?_)
  have hP : va_P D vwCl [(h0, .inr (3, [.ref q0, .ref q1, .null, .int 0, .int 0, .int 0, .int 0])), (q0, .inl (y 3, 8, .inr (.inr (.inr (.inr (fun _ => none)))))), (q1, .inl (y 2, 4, .inr (.inr (.inr (.inr (fun _ => none)))))), (q2, .inl (y 0, (4, .inl (fun _ => 0))))] H := hP
  have hD : va_D A [(h0, .inr (3, [.ref q0, .ref q1, .null, .int 0, .int 0, .int 0, .int 0])), (q0, .inl (y 3, 8, .inr (.inr (.inr (.inr (fun _ => none)))))), (q1, .inl (y 2, 4, .inr (.inr (.inr (.inr (fun _ => none)))))), (q2, .inl (y 0, (4, .inl (fun _ => 0))))] := hD
  refine W.widen (k := 3) (n := 16) (by decide) (by decide) ?_
  refine va_putF (D := D) (ci := 3) (v := .ref q2) (C := RX3) (T := TX3) (N := 7) hx hb (Ts := tw_big) (fun _ h => hw h) tw_cl_w3 tyX3 tyX3_ok nmX3 hown hK hP hD hS 0 rfl rfl 2 (by decide) (hw (tw_g_in (i := 222) (by decide +kernel))) (fun _ h9 => h9) rfl hin rfl (tyX3_ok 2 (by decide)) rfl rfl (Nat.le_of_ble_eq_true rfl) dX3_in_25 (fun H locs hP hD hS => ?_)
  have hP : va_P D vwCl [(h0, .inr (3, [.ref q0, .ref q1, .ref q2, .int 0, .int 0, .int 0, .int 0])), (q0, .inl (y 3, 8, .inr (.inr (.inr (.inr (fun _ => none)))))), (q1, .inl (y 2, 4, .inr (.inr (.inr (.inr (fun _ => none)))))), (q2, .inl (y 0, (4, .inl (fun _ => 0))))] H := hP
  have hD : va_D A [(h0, .inr (3, [.ref q0, .ref q1, .ref q2, .int 0, .int 0, .int 0, .int 0])), (q0, .inl (y 3, 8, .inr (.inr (.inr (.inr (fun _ => none)))))), (q1, .inl (y 2, 4, .inr (.inr (.inr (.inr (fun _ => none)))))), (q2, .inl (y 0, (4, .inl (fun _ => 0))))] := hD
  refine lv_aload_n hx hb dX3_in_28 rfl (lv_at hl 0 rfl) ?_
  refine lv_iconst (v := 0) hx hb dX3_in_29 (by decide) ?_
  refine va_put (D := D) (ci := 3) (v := .int 0) (C := RX3) (T := TX3) (N := 7) hx hb (Ts := tw_big) (fun _ h => hw h) tw_cl_w3 tyX3 tyX3_ok nmX3 hown hK hP hD hS 0 rfl rfl 3 (by decide) (hw (tw_g_in (i := 224) (by decide +kernel))) (fun _ h9 => h9) rfl (tyX3_ok 3 (by decide)) rfl rfl (Nat.le_of_ble_eq_true rfl) dX3_in_30 (fun H locs hP hD hS => ?_)
  have hP : va_P D vwCl [(h0, .inr (3, [.ref q0, .ref q1, .ref q2, .int 0, .int 0, .int 0, .int 0])), (q0, .inl (y 3, 8, .inr (.inr (.inr (.inr (fun _ => none)))))), (q1, .inl (y 2, 4, .inr (.inr (.inr (.inr (fun _ => none)))))), (q2, .inl (y 0, (4, .inl (fun _ => 0))))] H := hP
  have hD : va_D A [(h0, .inr (3, [.ref q0, .ref q1, .ref q2, .int 0, .int 0, .int 0, .int 0])), (q0, .inl (y 3, 8, .inr (.inr (.inr (.inr (fun _ => none)))))), (q1, .inl (y 2, 4, .inr (.inr (.inr (.inr (fun _ => none)))))), (q2, .inl (y 0, (4, .inl (fun _ => 0))))] := hD
  refine lv_aload_n hx hb dX3_in_33 rfl (lv_at hl 0 rfl) ?_
  refine lv_iconst (v := 0) hx hb dX3_in_34 (by decide) ?_
  refine va_put (D := D) (ci := 3) (v := .int 0) (C := RX3) (T := TX3) (N := 7) hx hb (Ts := tw_big) (fun _ h => hw h) tw_cl_w3 tyX3 tyX3_ok nmX3 hown hK hP hD hS 0 rfl rfl 4 (by decide) (hw (tw_g_in (i := 226) (by decide +kernel))) (fun _ h9 => h9) rfl (tyX3_ok 4 (by decide)) rfl rfl (Nat.le_of_ble_eq_true rfl) dX3_in_35 (fun H locs hP hD hS => ?_)
  have hP : va_P D vwCl [(h0, .inr (3, [.ref q0, .ref q1, .ref q2, .int 0, .int 0, .int 0, .int 0])), (q0, .inl (y 3, 8, .inr (.inr (.inr (.inr (fun _ => none)))))), (q1, .inl (y 2, 4, .inr (.inr (.inr (.inr (fun _ => none)))))), (q2, .inl (y 0, (4, .inl (fun _ => 0))))] H := hP
  have hD : va_D A [(h0, .inr (3, [.ref q0, .ref q1, .ref q2, .int 0, .int 0, .int 0, .int 0])), (q0, .inl (y 3, 8, .inr (.inr (.inr (.inr (fun _ => none)))))), (q1, .inl (y 2, 4, .inr (.inr (.inr (.inr (fun _ => none)))))), (q2, .inl (y 0, (4, .inl (fun _ => 0))))] := hD
  refine lv_aload_n hx hb dX3_in_38 rfl (lv_at hl 0 rfl) ?_
  refine lv_iconst (v := 0) hx hb dX3_in_39 (by decide) ?_
  refine va_put (D := D) (ci := 3) (v := .int 0) (C := RX3) (T := TX3) (N := 7) hx hb (Ts := tw_big) (fun _ h => hw h) tw_cl_w3 tyX3 tyX3_ok nmX3 hown hK hP hD hS 0 rfl rfl 5 (by decide) (hw (tw_g_in (i := 228) (by decide +kernel))) (fun _ h9 => h9) rfl (tyX3_ok 5 (by decide)) rfl rfl (Nat.le_of_ble_eq_true rfl) dX3_in_40 (fun H locs hP hD hS => ?_)
  have hP : va_P D vwCl [(h0, .inr (3, [.ref q0, .ref q1, .ref q2, .int 0, .int 0, .int 0, .int 0])), (q0, .inl (y 3, 8, .inr (.inr (.inr (.inr (fun _ => none)))))), (q1, .inl (y 2, 4, .inr (.inr (.inr (.inr (fun _ => none)))))), (q2, .inl (y 0, (4, .inl (fun _ => 0))))] H := hP
  have hD : va_D A [(h0, .inr (3, [.ref q0, .ref q1, .ref q2, .int 0, .int 0, .int 0, .int 0])), (q0, .inl (y 3, 8, .inr (.inr (.inr (.inr (fun _ => none)))))), (q1, .inl (y 2, 4, .inr (.inr (.inr (.inr (fun _ => none)))))), (q2, .inl (y 0, (4, .inl (fun _ => 0))))] := hD
  refine lv_aload_n hx hb dX3_in_43 rfl (lv_at hl 0 rfl) ?_
  refine lv_iconst (v := 0) hx hb dX3_in_44 (by decide) ?_
  refine va_put (D := D) (ci := 3) (v := .int 0) (C := RX3) (T := TX3) (N := 7) hx hb (Ts := tw_big) (fun _ h => hw h) tw_cl_w3 tyX3 tyX3_ok nmX3 hown hK hP hD hS 0 rfl rfl 6 (by decide) (hw (tw_g_in (i := 230) (by decide +kernel))) (fun _ h9 => h9) rfl (tyX3_ok 6 (by decide)) rfl rfl (Nat.le_of_ble_eq_true rfl) dX3_in_45 (fun H locs hP hD hS => ?_)
  have hP : va_P D vwCl [(h0, .inr (3, [.ref q0, .ref q1, .ref q2, .int 0, .int 0, .int 0, .int 0])), (q0, .inl (y 3, 8, .inr (.inr (.inr (.inr (fun _ => none)))))), (q1, .inl (y 2, 4, .inr (.inr (.inr (.inr (fun _ => none)))))), (q2, .inl (y 0, (4, .inl (fun _ => 0))))] H := hP
  have hD : va_D A [(h0, .inr (3, [.ref q0, .ref q1, .ref q2, .int 0, .int 0, .int 0, .int 0])), (q0, .inl (y 3, 8, .inr (.inr (.inr (.inr (fun _ => none)))))), (q1, .inl (y 2, 4, .inr (.inr (.inr (.inr (fun _ => none)))))), (q2, .inl (y 0, (4, .inl (fun _ => 0))))] := hD
  refine lv_iconst (v := 0) hx hb dX3_in_48 (by decide) ?_
  refine lv_istore_n (lv' := [(1, .int (nI 0)), (0, .ref h0)]) hx hb dX3_in_49 rfl hl (by decide) rfl (fun ls hl => ?_)
  have hP : va_P D vwCl ([(h0, .inr (3, [.ref q0, .ref q1, .ref q2, .int 0, .int 0, .int 0, .int 0])), (q0, .inl (y 3, 8, .inr (.inr (.inr (.inr (fun _ => none)))))), (q1, .inl (y 2, 4, .inr (.inr (.inr (.inr (fun _ => none)))))), (q2, .inl (y 0, (4, .inl (fun _ => 0))))] ++ (ux_sl y (fun _ => 0) 0 ++ [])) H := hP
  have hD : va_D A ([(h0, .inr (3, [.ref q0, .ref q1, .ref q2, .int 0, .int 0, .int 0, .int 0])), (q0, .inl (y 3, 8, .inr (.inr (.inr (.inr (fun _ => none)))))), (q1, .inl (y 2, 4, .inr (.inr (.inr (.inr (fun _ => none)))))), (q2, .inl (y 0, (4, .inl (fun _ => 0))))] ++ (ux_sl y (fun _ => 0) 0 ++ [])) := hD
  refine ux_loopS (PL := []) hx hb hml hown hts hQ hA (fun F f H locs ls hf hP hD hS hl => ?_) 8 0 rfl (fun _ => 0) (fun _ => none) H locs ls (fun j hj => absurd hj (Nat.not_lt_zero j)) hP hD hS hl
  refine lv_iconst (v := 0) hx hb dX3_in_78 (by decide) ?_
  refine lv_istore_n (lv' := [(1, .int (nI 0)), (0, .ref h0)]) hx hb dX3_in_79 rfl hl (by decide) rfl (fun ls hl => ?_)
  have hP : va_P D vwCl ([(h0, .inr (3, [.ref q0, .ref q1, .ref q2, .int 0, .int 0, .int 0, .int 0])), (q0, .inl (y 3, 8, .inr (.inr (.inr (.inr f))))), (q1, .inl (y 2, 4, .inr (.inr (.inr (.inr (fun _ => none)))))), (q2, .inl (y 0, (4, .inl (fun _ => 0))))] ++ (ux_el y (fun _ => 0) 0 ++ (ux_sl y F 8 ++ []))) H := hP
  have hD : va_D A ([(h0, .inr (3, [.ref q0, .ref q1, .ref q2, .int 0, .int 0, .int 0, .int 0])), (q0, .inl (y 3, 8, .inr (.inr (.inr (.inr f))))), (q1, .inl (y 2, 4, .inr (.inr (.inr (.inr (fun _ => none)))))), (q2, .inl (y 0, (4, .inl (fun _ => 0))))] ++ (ux_el y (fun _ => 0) 0 ++ (ux_sl y F 8 ++ []))) := hD
  refine ux_loopE (PL := ux_sl y F 8 ++ []) (f := f) hx hb hml hown hts hQ hA (fun G g H locs ls hg hP hD hS hl => ?_) 4 0 rfl (fun _ => 0) (fun _ => none) H locs ls (fun j hj => absurd hj (Nat.not_lt_zero j)) hP hD hS hl
  refine lv_iconst (v := 0) hx hb dX3_in_108 (by decide) ?_
  refine lv_istore_n (lv' := [(1, .int (nI 0)), (0, .ref h0)]) hx hb dX3_in_109 rfl hl (by decide) rfl (fun ls hl => ?_)
  refine ux_loopT hx hb hown hts hQ (fun t H locs ls ht hP hD hS => ?_) 4 0 rfl (fun _ => 0) H locs ls (fun j hj => absurd hj (Nat.not_lt_zero j)) hP hD hS hl
  rw [List.append_nil] at hP hD
  have e1 : ux_sl y F 8 = ux_sl y (fun j => ux_u3 q0 q1 q2 F G (3 + j)) 8 := ux_sl_eq (fun j hj => (ux_u3F (by omega)).symm)
  have e2 : ux_el y G 4 = ux_el y (fun j => ux_u3 q0 q1 q2 F G (27 + j)) 4 := ux_el_eq (fun j hj => ux_u3G.symm)
  rw [e1, e2] at hP hD
  have hP := ux_rep hP 1 (x' := (y 3, 8, .inr (.inr (.inr (.inr (fun j => some (ux_u3 q0 q1 q2 F G (3 + 3 * j)))))))) rfl (ux_cell (fun j hj => by rw [hf j hj, ux_u3F (by omega)]))
  have hP := ux_rep hP 2 (x' := (y 2, 4, .inr (.inr (.inr (.inr (fun j => some (ux_u3 q0 q1 q2 F G (27 + 3 * j)))))))) rfl (ux_cell (fun j hj => by rw [hg j hj, ux_u3G]))
  have hP := ux_rep hP 3 (x' := (y 0, (4, .inl (fun _ => -1)))) rfl (ux_celli (fun j hj => ht j hj))
  have hD := hD.set (p := 1) (a := q0) (e := .inl (y 3, 8, .inr (.inr (.inr (.inr (fun j => some (ux_u3 q0 q1 q2 F G (3 + 3 * j)))))))) rfl
  have hD := hD.set (p := 2) (a := q1) (e := .inl (y 2, 4, .inr (.inr (.inr (.inr (fun j => some (ux_u3 q0 q1 q2 F G (27 + 3 * j)))))))) rfl
  have hD := hD.set (p := 3) (a := q2) (e := .inl (y 0, (4, .inl (fun _ => -1)))) rfl
  have hP : va_P D vwCl (ux_w3 y h0 (ux_u3 q0 q1 q2 F G)) H := hP
  have hD : va_D A (ux_w3 y h0 (ux_u3 q0 q1 q2 F G)) := hD
  exact W.vret hx hb hr (fun t ht hW => ⟨⟨ux_u3 q0 q1 q2 F G, rfl, trivial, by rw [ht]; exact hP, by rw [hAe]; exact hD⟩, by rw [hAe]; exact hS.F ht⟩) hS.2.2 dX3_in_132
