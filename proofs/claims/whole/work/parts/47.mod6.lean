/-! the reference, new -/
abbrev cX6_begins : ByteArray := prog_8_method_17_code
def yX6_begins : MethodName := ⟨RX6, "begins", "()V"⟩
def wX6_begins : List Cond := Cond.code yX6_begins cX6_begins 2 none :: tw_big
theorem dX6_be_0 : decode cX6_begins 0 = .ok (.iconst 0, 1) := by decide +kernel
theorem dX6_be_1 : decode cX6_begins 1 = .ok (.istore_n 1, 1) := by decide +kernel
theorem dX6_be_2 : decode cX6_begins 2 = .ok (.iload_n 1, 1) := by decide +kernel
theorem dX6_be_3 : decode cX6_begins 3 = .ok (.sipush 363, 3) := by decide +kernel
theorem dX6_be_6 : decode cX6_begins 6 = .ok (.if_icmp .ge 16, 3) := by decide +kernel
theorem dX6_be_9 : decode cX6_begins 9 = .ok (.aload_n 0, 1) := by decide +kernel
theorem dX6_be_10 : decode cX6_begins 10 = .ok (.getfield 28, 3) := by decide +kernel
theorem dX6_be_13 : decode cX6_begins 13 = .ok (.iload_n 1, 1) := by decide +kernel
theorem dX6_be_14 : decode cX6_begins 14 = .ok (.iconst 0, 1) := by decide +kernel
theorem dX6_be_15 : decode cX6_begins 15 = .ok (.iastore, 1) := by decide +kernel
theorem dX6_be_16 : decode cX6_begins 16 = .ok (.iinc 1 1, 3) := by decide +kernel
theorem dX6_be_19 : decode cX6_begins 19 = .ok (.goto (-17), 3) := by decide +kernel
theorem dX6_be_22 : decode cX6_begins 22 = .ok (.iconst 0, 1) := by decide +kernel
theorem dX6_be_23 : decode cX6_begins 23 = .ok (.istore_n 1, 1) := by decide +kernel
theorem dX6_be_24 : decode cX6_begins 24 = .ok (.iload_n 1, 1) := by decide +kernel
theorem dX6_be_25 : decode cX6_begins 25 = .ok (.aload_n 0, 1) := by decide +kernel
theorem dX6_be_26 : decode cX6_begins 26 = .ok (.getfield 131, 3) := by decide +kernel
theorem dX6_be_29 : decode cX6_begins 29 = .ok (.if_icmp .ge 23, 3) := by decide +kernel
theorem dX6_be_32 : decode cX6_begins 32 = .ok (.aload_n 0, 1) := by decide +kernel
theorem dX6_be_33 : decode cX6_begins 33 = .ok (.getfield 28, 3) := by decide +kernel
theorem dX6_be_36 : decode cX6_begins 36 = .ok (.iconst 3, 1) := by decide +kernel
theorem dX6_be_37 : decode cX6_begins 37 = .ok (.iload_n 1, 1) := by decide +kernel
theorem dX6_be_38 : decode cX6_begins 38 = .ok (.iadd, 1) := by decide +kernel
theorem dX6_be_39 : decode cX6_begins 39 = .ok (.aload_n 0, 1) := by decide +kernel
theorem dX6_be_40 : decode cX6_begins 40 = .ok (.getfield 25, 3) := by decide +kernel
theorem dX6_be_43 : decode cX6_begins 43 = .ok (.iload_n 1, 1) := by decide +kernel
theorem dX6_be_44 : decode cX6_begins 44 = .ok (.iaload, 1) := by decide +kernel
theorem dX6_be_45 : decode cX6_begins 45 = .ok (.iastore, 1) := by decide +kernel
theorem dX6_be_46 : decode cX6_begins 46 = .ok (.iinc 1 1, 3) := by decide +kernel
theorem dX6_be_49 : decode cX6_begins 49 = .ok (.goto (-25), 3) := by decide +kernel
theorem dX6_be_52 : decode cX6_begins 52 = .ok (.return_, 1) := by decide +kernel
def ux_w6 (y : Nat → ClassId) (h0 : Nat) (u : Nat → Nat) : va_W := [(h0, .inr (6, [.int 0, .long 0, .ref (u 0), .int 0, .int 0, .int 0, .int 0, .int 0, .int 0, .ref (u 1), .ref (u 2), .ref (u 3), .ref (u 4), .ref (u 5), .int 0, .int 0, .int 0, .int 0, .int 0, .int 0, .int 0, .int 0, .ref (u 6), .ref (u 7), .ref (u 8)])), ((u 0), .inl (y 0, (300, .inl (fun _ => 0)))), ((u 1), .inl (y 0, (8, .inl (fun _ => 0)))), ((u 2), .inl (y 0, (48, .inl (fun _ => 0)))), ((u 3), .inl (y 0, (10, .inl (fun _ => 0)))), ((u 4), .inl (y 0, (8, .inl (fun _ => 0)))), ((u 5), .inl (y 0, (8, .inl (fun _ => 0)))), ((u 6), .inl (y 0, (363, .inl (fun _ => 0)))), ((u 7), .inl (y 0, (726, .inl (fun _ => 0)))), ((u 8), .inl (y 1, (2, .inl (fun _ => 0))))]
def ux_rb : Room := { frames := 1, cells := 0, slots := 0, locals := 12 }
set_option maxHeartbeats 4000000 in
set_option maxRecDepth 100000 in
theorem ux_loopB {p : Program} {l : Launch} {e : Env} {s : State} {m : MethodId} {below : List Frame} {meth : Method} {c : Code} {y : Nat → ClassId} {D : va_G} {A : Nat → Prop} (hx : p.tables.exec = Jvm.exec) (hb : c.code = cX6_begins) (hown : s.vm.findClass RX6 = some m.cls) {h0 : Nat} {u : Nat → Nat} (hts : ∀ w ∈ wX6_begins, w.before #[Value.ref h0] s = true) (hQ : ux_Q y D s) {Qf : State → Prop}
    (kk : ∀ (t : Nat → Int32) (H : Heap) (locs : List Loc) (ls : Array Slot), (∀ j, j < 363 → t j = 0) → va_P D vwCl [(h0, .inr (6, [.int 0, .long 0, .ref (u 0), .int 0, .int 0, .int 0, .int 0, .int 0, .int 0, .ref (u 1), .ref (u 2), .ref (u 3), .ref (u 4), .ref (u 5), .int 0, .int 0, .int 0, .int 0, .int 0, .int 0, .int 0, .int 0, .ref (u 6), .ref (u 7), .ref (u 8)])), ((u 0), .inl (y 0, (300, .inl (fun _ => 0)))), ((u 1), .inl (y 0, (8, .inl (fun _ => 0)))), ((u 2), .inl (y 0, (48, .inl (fun _ => 0)))), ((u 3), .inl (y 0, (10, .inl (fun _ => 0)))), ((u 4), .inl (y 0, (8, .inl (fun _ => 0)))), ((u 5), .inl (y 0, (8, .inl (fun _ => 0)))), (u 6, .inl (y 0, (363, .inl t))), ((u 7), .inl (y 0, (726, .inl (fun _ => 0)))), ((u 8), .inl (y 1, (2, .inl (fun _ => 0))))] H → va_D A [(h0, .inr (6, [.int 0, .long 0, .ref (u 0), .int 0, .int 0, .int 0, .int 0, .int 0, .int 0, .ref (u 1), .ref (u 2), .ref (u 3), .ref (u 4), .ref (u 5), .int 0, .int 0, .int 0, .int 0, .int 0, .int 0, .int 0, .int 0, .ref (u 6), .ref (u 7), .ref (u 8)])), ((u 0), .inl (y 0, (300, .inl (fun _ => 0)))), ((u 1), .inl (y 0, (8, .inl (fun _ => 0)))), ((u 2), .inl (y 0, (48, .inl (fun _ => 0)))), ((u 3), .inl (y 0, (10, .inl (fun _ => 0)))), ((u 4), .inl (y 0, (8, .inl (fun _ => 0)))), ((u 5), .inl (y 0, (8, .inl (fun _ => 0)))), (u 6, .inl (y 0, (363, .inl t))), ((u 7), .inl (y 0, (726, .inl (fun _ => 0)))), ((u 8), .inl (y 1, (2, .inl (fun _ => 0))))] → va_S A s.heap H locs → lv_has ls 2 [(0, .ref h0)] → W p l e ux_rb s m #[Value.ref h0] below meth c H locs 0 0 Qf (F0 m 22 ls [])) :
    ∀ (n i : Nat), i + n = 363 → ∀ (t : Nat → Int32) (H : Heap) (locs : List Loc) (ls : Array Slot), (∀ j, j < 363 → t j = 0) → va_P D vwCl [(h0, .inr (6, [.int 0, .long 0, .ref (u 0), .int 0, .int 0, .int 0, .int 0, .int 0, .int 0, .ref (u 1), .ref (u 2), .ref (u 3), .ref (u 4), .ref (u 5), .int 0, .int 0, .int 0, .int 0, .int 0, .int 0, .int 0, .int 0, .ref (u 6), .ref (u 7), .ref (u 8)])), ((u 0), .inl (y 0, (300, .inl (fun _ => 0)))), ((u 1), .inl (y 0, (8, .inl (fun _ => 0)))), ((u 2), .inl (y 0, (48, .inl (fun _ => 0)))), ((u 3), .inl (y 0, (10, .inl (fun _ => 0)))), ((u 4), .inl (y 0, (8, .inl (fun _ => 0)))), ((u 5), .inl (y 0, (8, .inl (fun _ => 0)))), (u 6, .inl (y 0, (363, .inl t))), ((u 7), .inl (y 0, (726, .inl (fun _ => 0)))), ((u 8), .inl (y 1, (2, .inl (fun _ => 0))))] H → va_D A [(h0, .inr (6, [.int 0, .long 0, .ref (u 0), .int 0, .int 0, .int 0, .int 0, .int 0, .int 0, .ref (u 1), .ref (u 2), .ref (u 3), .ref (u 4), .ref (u 5), .int 0, .int 0, .int 0, .int 0, .int 0, .int 0, .int 0, .int 0, .ref (u 6), .ref (u 7), .ref (u 8)])), ((u 0), .inl (y 0, (300, .inl (fun _ => 0)))), ((u 1), .inl (y 0, (8, .inl (fun _ => 0)))), ((u 2), .inl (y 0, (48, .inl (fun _ => 0)))), ((u 3), .inl (y 0, (10, .inl (fun _ => 0)))), ((u 4), .inl (y 0, (8, .inl (fun _ => 0)))), ((u 5), .inl (y 0, (8, .inl (fun _ => 0)))), (u 6, .inl (y 0, (363, .inl t))), ((u 7), .inl (y 0, (726, .inl (fun _ => 0)))), ((u 8), .inl (y 1, (2, .inl (fun _ => 0))))] → va_S A s.heap H locs → lv_has ls 2 [(1, .int (nI i)), (0, .ref h0)] → W p l e ux_rb s m #[Value.ref h0] below meth c H locs 0 0 Qf (F0 m 2 ls []) := by
  have hK := hQ.1
  have hw : ∀ {w : Cond}, w ∈ tw_big → w.before #[Value.ref h0] s = true := fun h => hts _ (List.mem_cons_of_mem _ h)
  intro n
  induction n with
  | zero =>
    intro i hi t H locs ls hf hP hD hS hl
    obtain rfl : i = 363 := by omega
    refine lv_iload_n hx hb dX6_be_2 rfl (lv_at hl 0 rfl) ?_
    refine lv_sipush (v := nI 363) hx hb dX6_be_3 (by decide) ?_
    refine lv_icmp_ge (tgt := 22) hx hb dX6_be_6 (by decide) (fun c1 => ?_) (fun c1 => ?_)
    · exact kk t H locs ls hf hP hD hS (lv_sub hl [1] rfl)
    · exact absurd (Int32.le_refl _) c1
  | succ n ih =>
    intro i hi t H locs ls hf hP hD hS hl
    refine lv_iload_n hx hb dX6_be_2 rfl (lv_at hl 0 rfl) ?_
    refine lv_sipush (v := nI 363) hx hb dX6_be_3 (by decide) ?_
    refine lv_icmp_ge (tgt := 22) hx hb dX6_be_6 (by decide) (fun c1 => ?_) (fun c1 => ?_)
    · exact absurd c1 (nI_ge (by omega) (by decide))
    · refine lv_aload_n hx hb dX6_be_9 rfl (lv_at hl 1 rfl) ?_
      refine va_get (D := D) (ci := 6) (v := .ref (u 6)) (C := RX6) (T := TX6) (N := 25) hx hb (Ts := tw_big) (fun _ h => hw h) tw_cl_w6 hown hK hP 0 rfl rfl 22 (by decide) (hw (tw_g_in (i := 773) (by decide +kernel))) (fun _ h9 => h9) rfl dX6_be_10 ?_
      refine lv_iload_n hx hb dX6_be_13 rfl (lv_at hl 0 rfl) ?_
      refine lv_iconst (v := 0) hx hb dX6_be_14 (by decide) ?_
      refine va_iast hx hb hK hP hD hS 7 0 rfl rfl (vp_in_nI (by omega) (by decide)) dX6_be_15 (fun H locs hP hD hS => ?_)
      have hP : va_P D vwCl [(h0, .inr (6, [.int 0, .long 0, .ref (u 0), .int 0, .int 0, .int 0, .int 0, .int 0, .int 0, .ref (u 1), .ref (u 2), .ref (u 3), .ref (u 4), .ref (u 5), .int 0, .int 0, .int 0, .int 0, .int 0, .int 0, .int 0, .int 0, .ref (u 6), .ref (u 7), .ref (u 8)])), ((u 0), .inl (y 0, (300, .inl (fun _ => 0)))), ((u 1), .inl (y 0, (8, .inl (fun _ => 0)))), ((u 2), .inl (y 0, (48, .inl (fun _ => 0)))), ((u 3), .inl (y 0, (10, .inl (fun _ => 0)))), ((u 4), .inl (y 0, (8, .inl (fun _ => 0)))), ((u 5), .inl (y 0, (8, .inl (fun _ => 0)))), (u 6, .inl (y 0, (363, .inl (upd t (nI i).toNatClampNeg 0)))), ((u 7), .inl (y 0, (726, .inl (fun _ => 0)))), ((u 8), .inl (y 1, (2, .inl (fun _ => 0))))] H := hP
      have hD : va_D A [(h0, .inr (6, [.int 0, .long 0, .ref (u 0), .int 0, .int 0, .int 0, .int 0, .int 0, .int 0, .ref (u 1), .ref (u 2), .ref (u 3), .ref (u 4), .ref (u 5), .int 0, .int 0, .int 0, .int 0, .int 0, .int 0, .int 0, .int 0, .ref (u 6), .ref (u 7), .ref (u 8)])), ((u 0), .inl (y 0, (300, .inl (fun _ => 0)))), ((u 1), .inl (y 0, (8, .inl (fun _ => 0)))), ((u 2), .inl (y 0, (48, .inl (fun _ => 0)))), ((u 3), .inl (y 0, (10, .inl (fun _ => 0)))), ((u 4), .inl (y 0, (8, .inl (fun _ => 0)))), ((u 5), .inl (y 0, (8, .inl (fun _ => 0)))), (u 6, .inl (y 0, (363, .inl (upd t (nI i).toNatClampNeg 0)))), ((u 7), .inl (y 0, (726, .inl (fun _ => 0)))), ((u 8), .inl (y 1, (2, .inl (fun _ => 0))))] := hD
      refine lv_iinc (v := nI (i + 1)) (lv' := [(1, .int (nI (i + 1))), (0, .ref h0)]) hx hb dX6_be_16 hl (k := 0) rfl (nI_1 i) (by decide) rfl (fun ls hl => ?_)
      refine lv_goto (tgt := 2) hx hb dX6_be_19 (by decide) ?_
      refine ih (i + 1) (by omega) _ _ _ _ (fun j hj => ?_) hP hD hS hl
      unfold upd
      split
      · rfl
      · exact hf j hj
set_option maxHeartbeats 4000000 in
set_option maxRecDepth 100000 in
theorem ux_cb (l : Launch) (y : Nat → ClassId) (D : va_G) (h0 sz : Nat) (u : Nat → Nat) : Met l yX6_begins wX6_begins ux_rb (ux_pre y D h0 (ux_w6 y h0 u) sz) (ux_post D (ux_w6 y h0 u) sz (fun _ => ux_w6 y h0 u)) 0 0 (va_A (ux_w6 y h0 u) sz) := by
  refine Met.ofW (cc := cX6_begins) (maxL := 2) (ret := none) (by decide) rfl ?_
  intro p e s m args below meth c s₁ B hml hv
  obtain ⟨rfl, hsz, hP, hQ, hD0⟩ := hv
  have hK := hQ.1
  have hx := B.exec
  have hb := B.bytes
  have hr := B.returns
  have hts := atoms_spec (ws := wX6_begins) B.pre
  have hw : ∀ {w : Cond}, w ∈ tw_big → w.before #[Value.ref h0] s = true := fun h => hts _ (List.mem_cons_of_mem _ h)
  have hown : s.vm.findClass RX6 = some m.cls := findClass_of_methodNamed B.named
  have hlocks := B.notSynchronized
  subst hsz
  have hD := hD0.self (sz := s.heap.size)
  generalize hAe : va_A (ux_w6 y h0 u) s.heap.size = A at hD ⊢
  have hA : ∀ q : Nat, s.heap.size ≤ q → A q := fun q h => by rw [← hAe]; exact Or.inr h
  have hS : va_S A s.heap s.heap [] := va_S.rf
  have hl := lv_entry ([.ref h0]) (n := 2) (Nat.le_of_ble_eq_true rfl)
  rw [lg_entry_eq]
  generalize (lg_sl ([.ref h0]) ++ List.replicate (2 - (lg_sl ([.ref h0])).length) Slot.unset).toArray = ls at hl ⊢
  have hl : lv_has ls 2 [(0, .ref h0)] := hl
  refine lv_iconst (v := 0) hx hb dX6_be_0 (by decide) ?_
  refine lv_istore_n (lv' := [(1, .int (nI 0)), (0, .ref h0)]) hx hb dX6_be_1 rfl hl (by decide) rfl (fun ls hl => ?_)
  have hP : va_P D vwCl [(h0, .inr (6, [.int 0, .long 0, .ref (u 0), .int 0, .int 0, .int 0, .int 0, .int 0, .int 0, .ref (u 1), .ref (u 2), .ref (u 3), .ref (u 4), .ref (u 5), .int 0, .int 0, .int 0, .int 0, .int 0, .int 0, .int 0, .int 0, .ref (u 6), .ref (u 7), .ref (u 8)])), ((u 0), .inl (y 0, (300, .inl (fun _ => 0)))), ((u 1), .inl (y 0, (8, .inl (fun _ => 0)))), ((u 2), .inl (y 0, (48, .inl (fun _ => 0)))), ((u 3), .inl (y 0, (10, .inl (fun _ => 0)))), ((u 4), .inl (y 0, (8, .inl (fun _ => 0)))), ((u 5), .inl (y 0, (8, .inl (fun _ => 0)))), (u 6, .inl (y 0, (363, .inl (fun _ => 0)))), ((u 7), .inl (y 0, (726, .inl (fun _ => 0)))), ((u 8), .inl (y 1, (2, .inl (fun _ => 0))))] s.heap := hP
  have hD : va_D A [(h0, .inr (6, [.int 0, .long 0, .ref (u 0), .int 0, .int 0, .int 0, .int 0, .int 0, .int 0, .ref (u 1), .ref (u 2), .ref (u 3), .ref (u 4), .ref (u 5), .int 0, .int 0, .int 0, .int 0, .int 0, .int 0, .int 0, .int 0, .ref (u 6), .ref (u 7), .ref (u 8)])), ((u 0), .inl (y 0, (300, .inl (fun _ => 0)))), ((u 1), .inl (y 0, (8, .inl (fun _ => 0)))), ((u 2), .inl (y 0, (48, .inl (fun _ => 0)))), ((u 3), .inl (y 0, (10, .inl (fun _ => 0)))), ((u 4), .inl (y 0, (8, .inl (fun _ => 0)))), ((u 5), .inl (y 0, (8, .inl (fun _ => 0)))), (u 6, .inl (y 0, (363, .inl (fun _ => 0)))), ((u 7), .inl (y 0, (726, .inl (fun _ => 0)))), ((u 8), .inl (y 1, (2, .inl (fun _ => 0))))] := hD
  refine ux_loopB hx hb hown hts hQ (fun t H locs ls ht hP hD hS hl => ?_) 363 0 rfl (fun _ => 0) s.heap [] ls (fun j hj => rfl) hP hD hS hl
  have hP := ux_rep hP 7 (x' := (y 0, (363, .inl (fun _ => 0)))) rfl (ux_celli (fun j hj => ht j hj))
  have hD := hD.set (p := 7) (a := u 6) (e := .inl (y 0, (363, .inl (fun _ => 0)))) rfl
  have hP : va_P D vwCl (ux_w6 y h0 u) H := hP
  have hD : va_D A (ux_w6 y h0 u) := hD
  refine lv_iconst (v := 0) hx hb dX6_be_22 (by decide) ?_
  refine lv_istore_n (lv' := [(1, .int 0), (0, .ref h0)]) hx hb dX6_be_23 rfl hl (by decide) rfl (fun ls hl => ?_)
  refine lv_iload_n hx hb dX6_be_24 rfl (lv_at hl 0 rfl) ?_
  refine lv_aload_n hx hb dX6_be_25 rfl (lv_at hl 1 rfl) ?_
  refine va_get (D := D) (ci := 6) (v := .int 0) (C := RX6) (T := TX6) (N := 25) hx hb (Ts := tw_big) (fun _ h => hw h) tw_cl_w6 hown hK hP 0 rfl rfl 17 (by decide) (hw (tw_g_in (i := 768) (by decide +kernel))) (fun _ h9 => h9) rfl dX6_be_26 ?_
  refine lv_icmp_ge (tgt := 52) hx hb dX6_be_29 (by decide) (fun c1 => ?_) (fun c1 => absurd (Int32.le_refl _) c1)
  exact W.vret hx hb hr (fun t ht hW => ⟨⟨u, rfl, trivial, by rw [ht]; exact hP, by rw [hAe]; exact hD⟩, by rw [hAe]; exact hS.F ht⟩) hS.2.2 dX6_be_52
def ux_r6 : Room := { frames := 2, cells := 9, slots := 1473, locals := 33 }
set_option maxHeartbeats 4000000 in
set_option maxRecDepth 100000 in
theorem ux_c6 (l : Launch) (y : Nat → ClassId) (D : va_G) (h0 sz : Nat) : Met l yX6_init wX6_init ux_r6 (ux_pre y D h0 [(h0, .inr (6, [.int 0, .long 0, .null, .int 0, .int 0, .int 0, .int 0, .int 0, .int 0, .null, .null, .null, .null, .null, .int 0, .int 0, .int 0, .int 0, .int 0, .int 0, .int 0, .int 0, .null, .null, .null]))] sz) (ux_post D [(h0, .inr (6, [.int 0, .long 0, .null, .int 0, .int 0, .int 0, .int 0, .int 0, .int 0, .null, .null, .null, .null, .null, .int 0, .int 0, .int 0, .int 0, .int 0, .int 0, .int 0, .int 0, .null, .null, .null]))] sz (ux_w6 y h0)) 9 1473 (va_A [(h0, .inr (6, [.int 0, .long 0, .null, .int 0, .int 0, .int 0, .int 0, .int 0, .int 0, .null, .null, .null, .null, .null, .int 0, .int 0, .int 0, .int 0, .int 0, .int 0, .int 0, .int 0, .null, .null, .null]))] sz) := by
  refine Met.ofW (cc := cX6_init) (maxL := 1) (ret := none) (by decide) rfl ?_
  intro p e s m args below meth c s₁ B hml hv
  obtain ⟨rfl, hsz, hP, hQ, hD0⟩ := hv
  have hK := hQ.1
  have hx := B.exec
  have hb := B.bytes
  have hr := B.returns
  have hts := atoms_spec (ws := wX6_init) B.pre
  have hw : ∀ {w : Cond}, w ∈ tw_big → w.before #[Value.ref h0] s = true := fun h => hts _ (List.mem_cons_of_mem _ h)
  have hown : s.vm.findClass RX6 = some m.cls := findClass_of_methodNamed B.named
  have hlocks := B.notSynchronized
  have hin : meth.name = "<init>" := (name_of_methodNamed B.named B.method).1
  subst hsz
  have hD := hD0.self (sz := s.heap.size)
  generalize hAe : va_A [(h0, .inr (6, [.int 0, .long 0, .null, .int 0, .int 0, .int 0, .int 0, .int 0, .int 0, .null, .null, .null, .null, .null, .int 0, .int 0, .int 0, .int 0, .int 0, .int 0, .int 0, .int 0, .null, .null, .null]))] s.heap.size = A at hD ⊢
  have hA : ∀ q : Nat, s.heap.size ≤ q → A q := fun q h => by rw [← hAe]; exact Or.inr h
  have hS : va_S A s.heap s.heap [] := va_S.rf
  have hl := lv_entry ([.ref h0]) (n := 1) (Nat.le_of_ble_eq_true rfl)
  rw [lg_entry_eq]
  generalize (lg_sl ([.ref h0]) ++ List.replicate (1 - (lg_sl ([.ref h0])).length) Slot.unset).toArray = ls at hl ⊢
  have hl : lv_has ls 1 [(0, .ref h0)] := hl
  refine lv_aload_n hx hb dX6_in_0 rfl (lv_at hl 0 rfl) ?_
  refine W.objInit hx hb hown (hw (tw_g_in (i := 746) (by decide +kernel))) (hw (tw_g_in (i := 66) (by decide +kernel))) (hw (tw_g_in (i := 67) (by decide +kernel))) rfl (by rw [hml]; exact hl.1) rfl dX6_in_1 (Nat.le_of_ble_eq_true rfl) (Nat.le_of_ble_eq_true rfl) ?_
  refine W.eq (g2 := F0 m 4 ls []) rfl ?_
  refine lv_aload_n hx hb dX6_in_4 rfl (lv_at hl 0 rfl) ?_
  refine lv_sipush (v := 300) hx hb dX6_in_5 (by decide) ?_
  refine ux_newaI (n := 300) (N' := 300) hx hb (hw (tw_g_in (i := 94) (by decide +kernel))) hK 0 rfl hP hD hS hA (by decide) (by decide) (by decide) (by decide) (by decide) dX6_in_8 (fun q0 H hP hD hS => ?_)
  have hP : va_P D vwCl [(h0, .inr (6, [.int 0, .long 0, .null, .int 0, .int 0, .int 0, .int 0, .int 0, .int 0, .null, .null, .null, .null, .null, .int 0, .int 0, .int 0, .int 0, .int 0, .int 0, .int 0, .int 0, .null, .null, .null])), (q0, .inl (y 0, (300, .inl (fun _ => 0))))] H := hP
  have hD : va_D A [(h0, .inr (6, [.int 0, .long 0, .null, .int 0, .int 0, .int 0, .int 0, .int 0, .int 0, .null, .null, .null, .null, .null, .int 0, .int 0, .int 0, .int 0, .int 0, .int 0, .int 0, .int 0, .null, .null, .null])), (q0, .inl (y 0, (300, .inl (fun _ => 0))))] := hD
  refine W.widen (k := 1) (n := 300) (by decide) (by decide) ?_
  refine va_putF (D := D) (ci := 6) (v := .ref q0) (C := RX6) (T := TX6) (N := 25) hx hb (Ts := tw_big) (fun _ h => hw h) tw_cl_w6 tyX6 tyX6_ok nmX6 hown hK hP hD hS 0 rfl rfl 2 (by decide) (hw (tw_g_in (i := 753) (by decide +kernel))) (fun _ h9 => h9) rfl hin rfl (tyX6_ok 2 (by decide)) rfl rfl (Nat.le_of_ble_eq_true rfl) dX6_in_10 (fun H locs hP hD hS => ?_)
  have hP : va_P D vwCl [(h0, .inr (6, [.int 0, .long 0, .ref q0, .int 0, .int 0, .int 0, .int 0, .int 0, .int 0, .null, .null, .null, .null, .null, .int 0, .int 0, .int 0, .int 0, .int 0, .int 0, .int 0, .int 0, .null, .null, .null])), (q0, .inl (y 0, (300, .inl (fun _ => 0))))] H := hP
  have hD : va_D A [(h0, .inr (6, [.int 0, .long 0, .ref q0, .int 0, .int 0, .int 0, .int 0, .int 0, .int 0, .null, .null, .null, .null, .null, .int 0, .int 0, .int 0, .int 0, .int 0, .int 0, .int 0, .int 0, .null, .null, .null])), (q0, .inl (y 0, (300, .inl (fun _ => 0))))] := hD
  refine lv_aload_n hx hb dX6_in_13 rfl (lv_at hl 0 rfl) ?_
  refine lv_bipush (v := 8) hx hb dX6_in_14 (by decide) ?_
  refine ux_newaI (n := 8) (N' := 8) hx hb (hw (tw_g_in (i := 94) (by decide +kernel))) hK 0 rfl hP hD hS hA (by decide) (by decide) (by decide) (by decide) (by decide) dX6_in_16 (fun q1 H hP hD hS => ?_)
  have hP : va_P D vwCl [(h0, .inr (6, [.int 0, .long 0, .ref q0, .int 0, .int 0, .int 0, .int 0, .int 0, .int 0, .null, .null, .null, .null, .null, .int 0, .int 0, .int 0, .int 0, .int 0, .int 0, .int 0, .int 0, .null, .null, .null])), (q0, .inl (y 0, (300, .inl (fun _ => 0)))), (q1, .inl (y 0, (8, .inl (fun _ => 0))))] H := hP
  have hD : va_D A [(h0, .inr (6, [.int 0, .long 0, .ref q0, .int 0, .int 0, .int 0, .int 0, .int 0, .int 0, .null, .null, .null, .null, .null, .int 0, .int 0, .int 0, .int 0, .int 0, .int 0, .int 0, .int 0, .null, .null, .null])), (q0, .inl (y 0, (300, .inl (fun _ => 0)))), (q1, .inl (y 0, (8, .inl (fun _ => 0))))] := hD
  refine W.widen (k := 2) (n := 308) (by decide) (by decide) ?_
  refine va_putF (D := D) (ci := 6) (v := .ref q1) (C := RX6) (T := TX6) (N := 25) hx hb (Ts := tw_big) (fun _ h => hw h) tw_cl_w6 tyX6 tyX6_ok nmX6 hown hK hP hD hS 0 rfl rfl 9 (by decide) (hw (tw_g_in (i := 760) (by decide +kernel))) (fun _ h9 => h9) rfl hin rfl (tyX6_ok 9 (by decide)) rfl rfl (Nat.le_of_ble_eq_true rfl) dX6_in_18 (fun H locs hP hD hS => ?_)
  have hP : va_P D vwCl [(h0, .inr (6, [.int 0, .long 0, .ref q0, .int 0, .int 0, .int 0, .int 0, .int 0, .int 0, .ref q1, .null, .null, .null, .null, .int 0, .int 0, .int 0, .int 0, .int 0, .int 0, .int 0, .int 0, .null, .null, .null])), (q0, .inl (y 0, (300, .inl (fun _ => 0)))), (q1, .inl (y 0, (8, .inl (fun _ => 0))))] H := hP
  have hD : va_D A [(h0, .inr (6, [.int 0, .long 0, .ref q0, .int 0, .int 0, .int 0, .int 0, .int 0, .int 0, .ref q1, .null, .null, .null, .null, .int 0, .int 0, .int 0, .int 0, .int 0, .int 0, .int 0, .int 0, .null, .null, .null])), (q0, .inl (y 0, (300, .inl (fun _ => 0)))), (q1, .inl (y 0, (8, .inl (fun _ => 0))))] := hD
  refine lv_aload_n hx hb dX6_in_21 rfl (lv_at hl 0 rfl) ?_
  refine lv_bipush (v := 48) hx hb dX6_in_22 (by decide) ?_
  refine ux_newaI (n := 48) (N' := 48) hx hb (hw (tw_g_in (i := 94) (by decide +kernel))) hK 0 rfl hP hD hS hA (by decide) (by decide) (by decide) (by decide) (by decide) dX6_in_24 (fun q2 H hP hD hS => ?_)
  have hP : va_P D vwCl [(h0, .inr (6, [.int 0, .long 0, .ref q0, .int 0, .int 0, .int 0, .int 0, .int 0, .int 0, .ref q1, .null, .null, .null, .null, .int 0, .int 0, .int 0, .int 0, .int 0, .int 0, .int 0, .int 0, .null, .null, .null])), (q0, .inl (y 0, (300, .inl (fun _ => 0)))), (q1, .inl (y 0, (8, .inl (fun _ => 0)))), (q2, .inl (y 0, (48, .inl (fun _ => 0))))] H := hP
  have hD : va_D A [(h0, .inr (6, [.int 0, .long 0, .ref q0, .int 0, .int 0, .int 0, .int 0, .int 0, .int 0, .ref q1, .null, .null, .null, .null, .int 0, .int 0, .int 0, .int 0, .int 0, .int 0, .int 0, .int 0, .null, .null, .null])), (q0, .inl (y 0, (300, .inl (fun _ => 0)))), (q1, .inl (y 0, (8, .inl (fun _ => 0)))), (q2, .inl (y 0, (48, .inl (fun _ => 0))))] := hD
  refine W.widen (k := 3) (n := 356) (by decide) (by decide) ?_
  refine va_putF (D := D) (ci := 6) (v := .ref q2) (C := RX6) (T := TX6) (N := 25) hx hb (Ts := tw_big) (fun _ h => hw h) tw_cl_w6 tyX6 tyX6_ok nmX6 hown hK hP hD hS 0 rfl rfl 10 (by decide) (hw (tw_g_in (i := 761) (by decide +kernel))) (fun _ h9 => h9) rfl hin rfl (tyX6_ok 10 (by decide)) rfl rfl (Nat.le_of_ble_eq_true rfl) dX6_in_26 (fun H locs hP hD hS => ?_)
  have hP : va_P D vwCl [(h0, .inr (6, [.int 0, .long 0, .ref q0, .int 0, .int 0, .int 0, .int 0, .int 0, .int 0, .ref q1, .ref q2, .null, .null, .null, .int 0, .int 0, .int 0, .int 0, .int 0, .int 0, .int 0, .int 0, .null, .null, .null])), (q0, .inl (y 0, (300, .inl (fun _ => 0)))), (q1, .inl (y 0, (8, .inl (fun _ => 0)))), (q2, .inl (y 0, (48, .inl (fun _ => 0))))] H := hP
  have hD : va_D A [(h0, .inr (6, [.int 0, .long 0, .ref q0, .int 0, .int 0, .int 0, .int 0, .int 0, .int 0, .ref q1, .ref q2, .null, .null, .null, .int 0, .int 0, .int 0, .int 0, .int 0, .int 0, .int 0, .int 0, .null, .null, .null])), (q0, .inl (y 0, (300, .inl (fun _ => 0)))), (q1, .inl (y 0, (8, .inl (fun _ => 0)))), (q2, .inl (y 0, (48, .inl (fun _ => 0))))] := hD
  refine lv_aload_n hx hb dX6_in_29 rfl (lv_at hl 0 rfl) ?_
  refine lv_bipush (v := 10) hx hb dX6_in_30 (by decide) ?_
  refine ux_newaI (n := 10) (N' := 10) hx hb (hw (tw_g_in (i := 94) (by decide +kernel))) hK 0 rfl hP hD hS hA (by decide) (by decide) (by decide) (by decide) (by decide) dX6_in_32 (fun q3 H hP hD hS => ?_)
  have hP : va_P D vwCl [(h0, .inr (6, [.int 0, .long 0, .ref q0, .int 0, .int 0, .int 0, .int 0, .int 0, .int 0, .ref q1, .ref q2, .null, .null, .null, .int 0, .int 0, .int 0, .int 0, .int 0, .int 0, .int 0, .int 0, .null, .null, .null])), (q0, .inl (y 0, (300, .inl (fun _ => 0)))), (q1, .inl (y 0, (8, .inl (fun _ => 0)))), (q2, .inl (y 0, (48, .inl (fun _ => 0)))), (q3, .inl (y 0, (10, .inl (fun _ => 0))))] H := hP
  have hD : va_D A [(h0, .inr (6, [.int 0, .long 0, .ref q0, .int 0, .int 0, .int 0, .int 0, .int 0, .int 0, .ref q1, .ref q2, .null, .null, .null, .int 0, .int 0, .int 0, .int 0, .int 0, .int 0, .int 0, .int 0, .null, .null, .null])), (q0, .inl (y 0, (300, .inl (fun _ => 0)))), (q1, .inl (y 0, (8, .inl (fun _ => 0)))), (q2, .inl (y 0, (48, .inl (fun _ => 0)))), (q3, .inl (y 0, (10, .inl (fun _ => 0))))] := hD
  refine W.widen (k := 4) (n := 366) (by decide) (by decide) ?_
  refine va_putF (D := D) (ci := 6) (v := .ref q3) (C := RX6) (T := TX6) (N := 25) hx hb (Ts := tw_big) (fun _ h => hw h) tw_cl_w6 tyX6 tyX6_ok nmX6 hown hK hP hD hS 0 rfl rfl 11 (by decide) (hw (tw_g_in (i := 762) (by decide +kernel))) (fun _ h9 => h9) rfl hin rfl (tyX6_ok 11 (by decide)) rfl rfl (Nat.le_of_ble_eq_true rfl) dX6_in_34 (fun H locs hP hD hS => ?_)
  have hP : va_P D vwCl [(h0, .inr (6, [.int 0, .long 0, .ref q0, .int 0, .int 0, .int 0, .int 0, .int 0, .int 0, .ref q1, .ref q2, .ref q3, .null, .null, .int 0, .int 0, .int 0, .int 0, .int 0, .int 0, .int 0, .int 0, .null, .null, .null])), (q0, .inl (y 0, (300, .inl (fun _ => 0)))), (q1, .inl (y 0, (8, .inl (fun _ => 0)))), (q2, .inl (y 0, (48, .inl (fun _ => 0)))), (q3, .inl (y 0, (10, .inl (fun _ => 0))))] H := hP
  have hD : va_D A [(h0, .inr (6, [.int 0, .long 0, .ref q0, .int 0, .int 0, .int 0, .int 0, .int 0, .int 0, .ref q1, .ref q2, .ref q3, .null, .null, .int 0, .int 0, .int 0, .int 0, .int 0, .int 0, .int 0, .int 0, .null, .null, .null])), (q0, .inl (y 0, (300, .inl (fun _ => 0)))), (q1, .inl (y 0, (8, .inl (fun _ => 0)))), (q2, .inl (y 0, (48, .inl (fun _ => 0)))), (q3, .inl (y 0, (10, .inl (fun _ => 0))))] := hD
  refine lv_aload_n hx hb dX6_in_37 rfl (lv_at hl 0 rfl) ?_
  refine lv_bipush (v := 8) hx hb dX6_in_38 (by decide) ?_
  refine ux_newaI (n := 8) (N' := 8) hx hb (hw (tw_g_in (i := 94) (by decide +kernel))) hK 0 rfl hP hD hS hA (by decide) (by decide) (by decide) (by decide) (by decide) dX6_in_40 (fun q4 H hP hD hS => ?_)
  have hP : va_P D vwCl [(h0, .inr (6, [.int 0, .long 0, .ref q0, .int 0, .int 0, .int 0, .int 0, .int 0, .int 0, .ref q1, .ref q2, .ref q3, .null, .null, .int 0, .int 0, .int 0, .int 0, .int 0, .int 0, .int 0, .int 0, .null, .null, .null])), (q0, .inl (y 0, (300, .inl (fun _ => 0)))), (q1, .inl (y 0, (8, .inl (fun _ => 0)))), (q2, .inl (y 0, (48, .inl (fun _ => 0)))), (q3, .inl (y 0, (10, .inl (fun _ => 0)))), (q4, .inl (y 0, (8, .inl (fun _ => 0))))] H := hP
  have hD : va_D A [(h0, .inr (6, [.int 0, .long 0, .ref q0, .int 0, .int 0, .int 0, .int 0, .int 0, .int 0, .ref q1, .ref q2, .ref q3, .null, .null, .int 0, .int 0, .int 0, .int 0, .int 0, .int 0, .int 0, .int 0, .null, .null, .null])), (q0, .inl (y 0, (300, .inl (fun _ => 0)))), (q1, .inl (y 0, (8, .inl (fun _ => 0)))), (q2, .inl (y 0, (48, .inl (fun _ => 0)))), (q3, .inl (y 0, (10, .inl (fun _ => 0)))), (q4, .inl (y 0, (8, .inl (fun _ => 0))))] := hD
  refine W.widen (k := 5) (n := 374) (by decide) (by decide) ?_
  refine va_putF (D := D) (ci := 6) (v := .ref q4) (C := RX6) (T := TX6) (N := 25) hx hb (Ts := tw_big) (fun _ h => hw h) tw_cl_w6 tyX6 tyX6_ok nmX6 hown hK hP hD hS 0 rfl rfl 12 (by decide) (hw (tw_g_in (i := 763) (by decide +kernel))) (fun _ h9 => h9) rfl hin rfl (tyX6_ok 12 (by decide)) rfl rfl (Nat.le_of_ble_eq_true rfl) dX6_in_42 (fun H locs hP hD hS => ?_)
  have hP : va_P D vwCl [(h0, .inr (6, [.int 0, .long 0, .ref q0, .int 0, .int 0, .int 0, .int 0, .int 0, .int 0, .ref q1, .ref q2, .ref q3, .ref q4, .null, .int 0, .int 0, .int 0, .int 0, .int 0, .int 0, .int 0, .int 0, .null, .null, .null])), (q0, .inl (y 0, (300, .inl (fun _ => 0)))), (q1, .inl (y 0, (8, .inl (fun _ => 0)))), (q2, .inl (y 0, (48, .inl (fun _ => 0)))), (q3, .inl (y 0, (10, .inl (fun _ => 0)))), (q4, .inl (y 0, (8, .inl (fun _ => 0))))] H := hP
  have hD : va_D A [(h0, .inr (6, [.int 0, .long 0, .ref q0, .int 0, .int 0, .int 0, .int 0, .int 0, .int 0, .ref q1, .ref q2, .ref q3, .ref q4, .null, .int 0, .int 0, .int 0, .int 0, .int 0, .int 0, .int 0, .int 0, .null, .null, .null])), (q0, .inl (y 0, (300, .inl (fun _ => 0)))), (q1, .inl (y 0, (8, .inl (fun _ => 0)))), (q2, .inl (y 0, (48, .inl (fun _ => 0)))), (q3, .inl (y 0, (10, .inl (fun _ => 0)))), (q4, .inl (y 0, (8, .inl (fun _ => 0))))] := hD
  refine lv_aload_n hx hb dX6_in_45 rfl (lv_at hl 0 rfl) ?_
  refine lv_bipush (v := 8) hx hb dX6_in_46 (by decide) ?_
  refine ux_newaI (n := 8) (N' := 8) hx hb (hw (tw_g_in (i := 94) (by decide +kernel))) hK 0 rfl hP hD hS hA (by decide) (by decide) (by decide) (by decide) (by decide) dX6_in_48 (fun q5 H hP hD hS => ?_)
  have hP : va_P D vwCl [(h0, .inr (6, [.int 0, .long 0, .ref q0, .int 0, .int 0, .int 0, .int 0, .int 0, .int 0, .ref q1, .ref q2, .ref q3, .ref q4, .null, .int 0, .int 0, .int 0, .int 0, .int 0, .int 0, .int 0, .int 0, .null, .null, .null])), (q0, .inl (y 0, (300, .inl (fun _ => 0)))), (q1, .inl (y 0, (8, .inl (fun _ => 0)))), (q2, .inl (y 0, (48, .inl (fun _ => 0)))), (q3, .inl (y 0, (10, .inl (fun _ => 0)))), (q4, .inl (y 0, (8, .inl (fun _ => 0)))), (q5, .inl (y 0, (8, .inl (fun _ => 0))))] H := hP
  have hD : va_D A [(h0, .inr (6, [.int 0, .long 0, .ref q0, .int 0, .int 0, .int 0, .int 0, .int 0, .int 0, .ref q1, .ref q2, .ref q3, .ref q4, .null, .int 0, .int 0, .int 0, .int 0, .int 0, .int 0, .int 0, .int 0, .null, .null, .null])), (q0, .inl (y 0, (300, .inl (fun _ => 0)))), (q1, .inl (y 0, (8, .inl (fun _ => 0)))), (q2, .inl (y 0, (48, .inl (fun _ => 0)))), (q3, .inl (y 0, (10, .inl (fun _ => 0)))), (q4, .inl (y 0, (8, .inl (fun _ => 0)))), (q5, .inl (y 0, (8, .inl (fun _ => 0))))] := hD
  refine W.widen (k := 6) (n := 382) (by decide) (by decide) ?_
  refine va_putF (D := D) (ci := 6) (v := .ref q5) (C := RX6) (T := TX6) (N := 25) hx hb (Ts := tw_big) (fun _ h => hw h) tw_cl_w6 tyX6 tyX6_ok nmX6 hown hK hP hD hS 0 rfl rfl 13 (by decide) (hw (tw_g_in (i := 764) (by decide +kernel))) (fun _ h9 => h9) rfl hin rfl (tyX6_ok 13 (by decide)) rfl rfl (Nat.le_of_ble_eq_true rfl) dX6_in_50 (fun H locs hP hD hS => ?_)
  have hP : va_P D vwCl [(h0, .inr (6, [.int 0, .long 0, .ref q0, .int 0, .int 0, .int 0, .int 0, .int 0, .int 0, .ref q1, .ref q2, .ref q3, .ref q4, .ref q5, .int 0, .int 0, .int 0, .int 0, .int 0, .int 0, .int 0, .int 0, .null, .null, .null])), (q0, .inl (y 0, (300, .inl (fun _ => 0)))), (q1, .inl (y 0, (8, .inl (fun _ => 0)))), (q2, .inl (y 0, (48, .inl (fun _ => 0)))), (q3, .inl (y 0, (10, .inl (fun _ => 0)))), (q4, .inl (y 0, (8, .inl (fun _ => 0)))), (q5, .inl (y 0, (8, .inl (fun _ => 0))))] H := hP
  have hD : va_D A [(h0, .inr (6, [.int 0, .long 0, .ref q0, .int 0, .int 0, .int 0, .int 0, .int 0, .int 0, .ref q1, .ref q2, .ref q3, .ref q4, .ref q5, .int 0, .int 0, .int 0, .int 0, .int 0, .int 0, .int 0, .int 0, .null, .null, .null])), (q0, .inl (y 0, (300, .inl (fun _ => 0)))), (q1, .inl (y 0, (8, .inl (fun _ => 0)))), (q2, .inl (y 0, (48, .inl (fun _ => 0)))), (q3, .inl (y 0, (10, .inl (fun _ => 0)))), (q4, .inl (y 0, (8, .inl (fun _ => 0)))), (q5, .inl (y 0, (8, .inl (fun _ => 0))))] := hD
  refine lv_aload_n hx hb dX6_in_53 rfl (lv_at hl 0 rfl) ?_
  refine lv_sipush (v := 363) hx hb dX6_in_54 (by decide) ?_
  refine ux_newaI (n := 363) (N' := 363) hx hb (hw (tw_g_in (i := 94) (by decide +kernel))) hK 0 rfl hP hD hS hA (by decide) (by decide) (by decide) (by decide) (by decide) dX6_in_57 (fun q6 H hP hD hS => ?_)
  have hP : va_P D vwCl [(h0, .inr (6, [.int 0, .long 0, .ref q0, .int 0, .int 0, .int 0, .int 0, .int 0, .int 0, .ref q1, .ref q2, .ref q3, .ref q4, .ref q5, .int 0, .int 0, .int 0, .int 0, .int 0, .int 0, .int 0, .int 0, .null, .null, .null])), (q0, .inl (y 0, (300, .inl (fun _ => 0)))), (q1, .inl (y 0, (8, .inl (fun _ => 0)))), (q2, .inl (y 0, (48, .inl (fun _ => 0)))), (q3, .inl (y 0, (10, .inl (fun _ => 0)))), (q4, .inl (y 0, (8, .inl (fun _ => 0)))), (q5, .inl (y 0, (8, .inl (fun _ => 0)))), (q6, .inl (y 0, (363, .inl (fun _ => 0))))] H := hP
  have hD : va_D A [(h0, .inr (6, [.int 0, .long 0, .ref q0, .int 0, .int 0, .int 0, .int 0, .int 0, .int 0, .ref q1, .ref q2, .ref q3, .ref q4, .ref q5, .int 0, .int 0, .int 0, .int 0, .int 0, .int 0, .int 0, .int 0, .null, .null, .null])), (q0, .inl (y 0, (300, .inl (fun _ => 0)))), (q1, .inl (y 0, (8, .inl (fun _ => 0)))), (q2, .inl (y 0, (48, .inl (fun _ => 0)))), (q3, .inl (y 0, (10, .inl (fun _ => 0)))), (q4, .inl (y 0, (8, .inl (fun _ => 0)))), (q5, .inl (y 0, (8, .inl (fun _ => 0)))), (q6, .inl (y 0, (363, .inl (fun _ => 0))))] := hD
  refine W.widen (k := 7) (n := 745) (by decide) (by decide) ?_
  refine va_putF (D := D) (ci := 6) (v := .ref q6) (C := RX6) (T := TX6) (N := 25) hx hb (Ts := tw_big) (fun _ h => hw h) tw_cl_w6 tyX6 tyX6_ok nmX6 hown hK hP hD hS 0 rfl rfl 22 (by decide) (hw (tw_g_in (i := 773) (by decide +kernel))) (fun _ h9 => h9) rfl hin rfl (tyX6_ok 22 (by decide)) rfl rfl (Nat.le_of_ble_eq_true rfl) dX6_in_59 (fun H locs hP hD hS => ?_)
  have hP : va_P D vwCl [(h0, .inr (6, [.int 0, .long 0, .ref q0, .int 0, .int 0, .int 0, .int 0, .int 0, .int 0, .ref q1, .ref q2, .ref q3, .ref q4, .ref q5, .int 0, .int 0, .int 0, .int 0, .int 0, .int 0, .int 0, .int 0, .ref q6, .null, .null])), (q0, .inl (y 0, (300, .inl (fun _ => 0)))), (q1, .inl (y 0, (8, .inl (fun _ => 0)))), (q2, .inl (y 0, (48, .inl (fun _ => 0)))), (q3, .inl (y 0, (10, .inl (fun _ => 0)))), (q4, .inl (y 0, (8, .inl (fun _ => 0)))), (q5, .inl (y 0, (8, .inl (fun _ => 0)))), (q6, .inl (y 0, (363, .inl (fun _ => 0))))] H := hP
  have hD : va_D A [(h0, .inr (6, [.int 0, .long 0, .ref q0, .int 0, .int 0, .int 0, .int 0, .int 0, .int 0, .ref q1, .ref q2, .ref q3, .ref q4, .ref q5, .int 0, .int 0, .int 0, .int 0, .int 0, .int 0, .int 0, .int 0, .ref q6, .null, .null])), (q0, .inl (y 0, (300, .inl (fun _ => 0)))), (q1, .inl (y 0, (8, .inl (fun _ => 0)))), (q2, .inl (y 0, (48, .inl (fun _ => 0)))), (q3, .inl (y 0, (10, .inl (fun _ => 0)))), (q4, .inl (y 0, (8, .inl (fun _ => 0)))), (q5, .inl (y 0, (8, .inl (fun _ => 0)))), (q6, .inl (y 0, (363, .inl (fun _ => 0))))] := hD
  refine lv_aload_n hx hb dX6_in_62 rfl (lv_at hl 0 rfl) ?_
  refine lv_sipush (v := 726) hx hb dX6_in_63 (by decide) ?_
  refine ux_newaI (n := 726) (N' := 726) hx hb (hw (tw_g_in (i := 94) (by decide +kernel))) hK 0 rfl hP hD hS hA (by decide) (by decide) (by decide) (by decide) (by decide) dX6_in_66 (fun q7 H hP hD hS => ?_)
  have hP : va_P D vwCl [(h0, .inr (6, [.int 0, .long 0, .ref q0, .int 0, .int 0, .int 0, .int 0, .int 0, .int 0, .ref q1, .ref q2, .ref q3, .ref q4, .ref q5, .int 0, .int 0, .int 0, .int 0, .int 0, .int 0, .int 0, .int 0, .ref q6, .null, .null])), (q0, .inl (y 0, (300, .inl (fun _ => 0)))), (q1, .inl (y 0, (8, .inl (fun _ => 0)))), (q2, .inl (y 0, (48, .inl (fun _ => 0)))), (q3, .inl (y 0, (10, .inl (fun _ => 0)))), (q4, .inl (y 0, (8, .inl (fun _ => 0)))), (q5, .inl (y 0, (8, .inl (fun _ => 0)))), (q6, .inl (y 0, (363, .inl (fun _ => 0)))), (q7, .inl (y 0, (726, .inl (fun _ => 0))))] H := hP
  have hD : va_D A [(h0, .inr (6, [.int 0, .long 0, .ref q0, .int 0, .int 0, .int 0, .int 0, .int 0, .int 0, .ref q1, .ref q2, .ref q3, .ref q4, .ref q5, .int 0, .int 0, .int 0, .int 0, .int 0, .int 0, .int 0, .int 0, .ref q6, .null, .null])), (q0, .inl (y 0, (300, .inl (fun _ => 0)))), (q1, .inl (y 0, (8, .inl (fun _ => 0)))), (q2, .inl (y 0, (48, .inl (fun _ => 0)))), (q3, .inl (y 0, (10, .inl (fun _ => 0)))), (q4, .inl (y 0, (8, .inl (fun _ => 0)))), (q5, .inl (y 0, (8, .inl (fun _ => 0)))), (q6, .inl (y 0, (363, .inl (fun _ => 0)))), (q7, .inl (y 0, (726, .inl (fun _ => 0))))] := hD
  refine W.widen (k := 8) (n := 1471) (by decide) (by decide) ?_
  refine va_putF (D := D) (ci := 6) (v := .ref q7) (C := RX6) (T := TX6) (N := 25) hx hb (Ts := tw_big) (fun _ h => hw h) tw_cl_w6 tyX6 tyX6_ok nmX6 hown hK hP hD hS 0 rfl rfl 23 (by decide) (hw (tw_g_in (i := 774) (by decide +kernel))) (fun _ h9 => h9) rfl hin rfl (tyX6_ok 23 (by decide)) rfl rfl (Nat.le_of_ble_eq_true rfl) dX6_in_68 (fun H locs hP hD hS => ?_)
  have hP : va_P D vwCl [(h0, .inr (6, [.int 0, .long 0, .ref q0, .int 0, .int 0, .int 0, .int 0, .int 0, .int 0, .ref q1, .ref q2, .ref q3, .ref q4, .ref q5, .int 0, .int 0, .int 0, .int 0, .int 0, .int 0, .int 0, .int 0, .ref q6, .ref q7, .null])), (q0, .inl (y 0, (300, .inl (fun _ => 0)))), (q1, .inl (y 0, (8, .inl (fun _ => 0)))), (q2, .inl (y 0, (48, .inl (fun _ => 0)))), (q3, .inl (y 0, (10, .inl (fun _ => 0)))), (q4, .inl (y 0, (8, .inl (fun _ => 0)))), (q5, .inl (y 0, (8, .inl (fun _ => 0)))), (q6, .inl (y 0, (363, .inl (fun _ => 0)))), (q7, .inl (y 0, (726, .inl (fun _ => 0))))] H := hP
  have hD : va_D A [(h0, .inr (6, [.int 0, .long 0, .ref q0, .int 0, .int 0, .int 0, .int 0, .int 0, .int 0, .ref q1, .ref q2, .ref q3, .ref q4, .ref q5, .int 0, .int 0, .int 0, .int 0, .int 0, .int 0, .int 0, .int 0, .ref q6, .ref q7, .null])), (q0, .inl (y 0, (300, .inl (fun _ => 0)))), (q1, .inl (y 0, (8, .inl (fun _ => 0)))), (q2, .inl (y 0, (48, .inl (fun _ => 0)))), (q3, .inl (y 0, (10, .inl (fun _ => 0)))), (q4, .inl (y 0, (8, .inl (fun _ => 0)))), (q5, .inl (y 0, (8, .inl (fun _ => 0)))), (q6, .inl (y 0, (363, .inl (fun _ => 0)))), (q7, .inl (y 0, (726, .inl (fun _ => 0))))] := hD
  refine lv_aload_n hx hb dX6_in_71 rfl (lv_at hl 0 rfl) ?_
  refine lv_iconst (v := 2) hx hb dX6_in_72 (by decide) ?_
  refine ux_newaZ (n := 2) (N' := 2) hx hb (hw (tw_g_in (i := 827) (by decide +kernel))) hK 1 rfl hP hD hS hA (by decide) (by decide) (by decide) (by decide) (by decide) dX6_in_73 (fun q8 H hP hD hS => ?_)
  have hP : va_P D vwCl [(h0, .inr (6, [.int 0, .long 0, .ref q0, .int 0, .int 0, .int 0, .int 0, .int 0, .int 0, .ref q1, .ref q2, .ref q3, .ref q4, .ref q5, .int 0, .int 0, .int 0, .int 0, .int 0, .int 0, .int 0, .int 0, .ref q6, .ref q7, .null])), (q0, .inl (y 0, (300, .inl (fun _ => 0)))), (q1, .inl (y 0, (8, .inl (fun _ => 0)))), (q2, .inl (y 0, (48, .inl (fun _ => 0)))), (q3, .inl (y 0, (10, .inl (fun _ => 0)))), (q4, .inl (y 0, (8, .inl (fun _ => 0)))), (q5, .inl (y 0, (8, .inl (fun _ => 0)))), (q6, .inl (y 0, (363, .inl (fun _ => 0)))), (q7, .inl (y 0, (726, .inl (fun _ => 0)))), (q8, .inl (y 1, (2, .inl (fun _ => 0))))] H := hP
  have hD : va_D A [(h0, .inr (6, [.int 0, .long 0, .ref q0, .int 0, .int 0, .int 0, .int 0, .int 0, .int 0, .ref q1, .ref q2, .ref q3, .ref q4, .ref q5, .int 0, .int 0, .int 0, .int 0, .int 0, .int 0, .int 0, .int 0, .ref q6, .ref q7, .null])), (q0, .inl (y 0, (300, .inl (fun _ => 0)))), (q1, .inl (y 0, (8, .inl (fun _ => 0)))), (q2, .inl (y 0, (48, .inl (fun _ => 0)))), (q3, .inl (y 0, (10, .inl (fun _ => 0)))), (q4, .inl (y 0, (8, .inl (fun _ => 0)))), (q5, .inl (y 0, (8, .inl (fun _ => 0)))), (q6, .inl (y 0, (363, .inl (fun _ => 0)))), (q7, .inl (y 0, (726, .inl (fun _ => 0)))), (q8, .inl (y 1, (2, .inl (fun _ => 0))))] := hD
  refine W.widen (k := 9) (n := 1473) (by decide) (by decide) ?_
  refine va_putF (D := D) (ci := 6) (v := .ref q8) (C := RX6) (T := TX6) (N := 25) hx hb (Ts := tw_big) (fun _ h => hw h) tw_cl_w6 tyX6 tyX6_ok nmX6 hown hK hP hD hS 0 rfl rfl 24 (by decide) (hw (tw_g_in (i := 775) (by decide +kernel))) (fun _ h9 => h9) rfl hin rfl (tyX6_ok 24 (by decide)) rfl rfl (Nat.le_of_ble_eq_true rfl) dX6_in_75 (fun H locs hP hD hS => ?_)
  have hP : va_P D vwCl [(h0, .inr (6, [.int 0, .long 0, .ref q0, .int 0, .int 0, .int 0, .int 0, .int 0, .int 0, .ref q1, .ref q2, .ref q3, .ref q4, .ref q5, .int 0, .int 0, .int 0, .int 0, .int 0, .int 0, .int 0, .int 0, .ref q6, .ref q7, .ref q8])), (q0, .inl (y 0, (300, .inl (fun _ => 0)))), (q1, .inl (y 0, (8, .inl (fun _ => 0)))), (q2, .inl (y 0, (48, .inl (fun _ => 0)))), (q3, .inl (y 0, (10, .inl (fun _ => 0)))), (q4, .inl (y 0, (8, .inl (fun _ => 0)))), (q5, .inl (y 0, (8, .inl (fun _ => 0)))), (q6, .inl (y 0, (363, .inl (fun _ => 0)))), (q7, .inl (y 0, (726, .inl (fun _ => 0)))), (q8, .inl (y 1, (2, .inl (fun _ => 0))))] H := hP
  have hD : va_D A [(h0, .inr (6, [.int 0, .long 0, .ref q0, .int 0, .int 0, .int 0, .int 0, .int 0, .int 0, .ref q1, .ref q2, .ref q3, .ref q4, .ref q5, .int 0, .int 0, .int 0, .int 0, .int 0, .int 0, .int 0, .int 0, .ref q6, .ref q7, .ref q8])), (q0, .inl (y 0, (300, .inl (fun _ => 0)))), (q1, .inl (y 0, (8, .inl (fun _ => 0)))), (q2, .inl (y 0, (48, .inl (fun _ => 0)))), (q3, .inl (y 0, (10, .inl (fun _ => 0)))), (q4, .inl (y 0, (8, .inl (fun _ => 0)))), (q5, .inl (y 0, (8, .inl (fun _ => 0)))), (q6, .inl (y 0, (363, .inl (fun _ => 0)))), (q7, .inl (y 0, (726, .inl (fun _ => 0)))), (q8, .inl (y 1, (2, .inl (fun _ => 0))))] := hD
  obtain ⟨u, hu⟩ : ∃ u : Nat → Nat, u = fun j => [q0, q1, q2, q3, q4, q5, q6, q7, q8].getD j 0 := ⟨_, rfl⟩
  have hP : va_P D vwCl (ux_w6 y h0 u) H := by rw [hu]; exact hP
  have hD : va_D A (ux_w6 y h0 u) := by rw [hu]; exact hD
  refine lv_aload_n hx hb dX6_in_78 rfl (lv_at hl 0 rfl) ?_
  have hPc := hP.sub (ws' := ux_w6 y h0 u) [0, 1, 2, 3, 4, 5, 6, 7, 8, 9] rfl
  have hDc := hD.sub (ws' := ux_w6 y h0 u) [0, 1, 2, 3, 4, 5, 6, 7, 8, 9] (by decide) rfl
  have hFc := va_free (wc := ux_w6 y h0 u) hD hS hA [0, 1, 2, 3, 4, 5, 6, 7, 8, 9] rfl
  refine va_callv (va_runV (As := []) (rest := []) ⟨hx, hb, hml, hown, hts⟩ (ux_cb l y D h0 H.size u) ⟨callB_of 0 hts (ux_goodIn (tw_g_in (i := 750) (by decide +kernel))) rfl rfl rfl (hw (tw_g_in (i := 54) (by decide +kernel))) (hw (tw_g_in (i := 747) (by decide +kernel))) ⟨by decide, by decide, by decide +kernel⟩ ⟨Nat.le_of_ble_eq_true rfl, Nat.le_of_ble_eq_true rfl⟩, (hw (tw_g_in (i := 749) (by decide +kernel))), (hw (tw_g_in (i := 24) (by decide +kernel)))⟩ ⟨ux_blind, va_recv hK hPc (ci := 6) (q0 := 0) rfl rfl, fun U hU hW => ⟨rfl, by rw [hU], by rw [hU]; exact hPc, hQ.warm hW, hDc.weaken (fun _ _ _ _ => trivial)⟩⟩ rfl rfl hl.1 rfl (lv_room (Nat.le_of_ble_eq_true rfl)) dX6_in_79 ⟨Nat.le_of_ble_eq_true rfl, Nat.le_of_ble_eq_true rfl⟩) hS (fun q _ h => hFc q h) hFc (fun u0 t H1 locs ht hvm hw1 hB hz1 hk1 hS => ?_)
  obtain ⟨hP1, hD1⟩ := hB
  rw [ht] at hP1
  obtain ⟨hP, hD⟩ := va_join (wr := []) (w1 := ux_w6 y h0 u) hP hD [0, 1, 2, 3, 4, 5, 6, 7, 8, 9] [] rfl rfl (by decide) (by decide) hk1 hFc hP1 hD1
  exact W.vret hx hb hr (fun t ht hW => ⟨⟨u, rfl, trivial, by rw [ht]; exact hP, by rw [hAe]; exact hD⟩, by rw [hAe]; exact hS.F ht⟩) hS.2.2 dX6_in_82
