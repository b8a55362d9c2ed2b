/-! the constructors: names, codes, wrappers -/
def ux_ys (y : Nat → ClassId) : List (ClassId × FieldType) := [(y 0, .int), (y 1, .boolean), (y 2, .object RX1), (y 3, .object RX2)]
/-- what stands fast while cells are made -/
def ux_Q (y : Nat → ClassId) (D : va_G) (U : State) : Prop := va_K D vwCl (ux_ys y) U ∧ va_AO RX2 U ∧ va_AO RX1 U ∧ ∀ q, q ∈ tw_nest → va_Nw (.methodLinkNest q.1 q.2.1 q.2.2 "ThawWords") U
theorem ux_Q.warm {y : Nat → ClassId} {D : va_G} {s U : State} (hW : s.WarmedH U.vm) (h : ux_Q y D s) : ux_Q y D U := ⟨va_K.moved hW.alike h.1, va_AO.moved hW.alike h.2.1, va_AO.moved hW.alike h.2.2.1, fun q hq => va_Nw.warmM hW (h.2.2.2 q hq)⟩
theorem ux_Q.calling {y : Nat → ClassId} {D : va_G} {U : State} {m : JFrame} {mk : MethodId} {a : Array Value} (h : ux_Q y D U) : ux_Q y D (U.calling m mk a) := by
  have e : (U.calling m mk a).vm = U.vm := rfl
  have al : U.vm.Alike (U.calling m mk a).vm := Vm.Alike.refl U.vm
  exact ⟨va_K.moved al h.1, va_AO.moved al h.2.1, va_AO.moved al h.2.2.1, fun q hq => va_Nw.same rfl e.symm (h.2.2.2 q hq)⟩
abbrev ux_pre (y : Nat → ClassId) (D : va_G) (h0 : Nat) (ws : va_W) (sz : Nat) : Array Value → State → Prop := va_Pc [.ref h0] (fun U => U.heap.size = sz ∧ va_P D vwCl ws U.heap ∧ ux_Q y D U ∧ va_D (fun _ => True) ws)
abbrev ux_post (D : va_G) (ws : va_W) (sz : Nat) (wf : (Nat → Nat) → va_W) : Array Value → State → Outcome → State → Prop := va_Qv (fun _ : Nat → Nat => True) (fun u t => va_P D vwCl (wf u) t.heap ∧ va_D (va_A ws sz) (wf u)) (va_A ws sz)
theorem ux_blind {y : Nat → ClassId} {D : va_G} {h0 sz : Nat} {ws : va_W} : FrameBlind (ux_pre y D h0 ws sz) := fun a U _ mk h => ⟨h.1, h.2.1, h.2.2.1, h.2.2.2.1.calling, h.2.2.2.2⟩
theorem ux_goodIn {a b : Cond} (h : b ∈ tw_big) : GoodIn (a :: tw_big) (b :: tw_big) := by
  intro w hw
  rcases List.mem_cons.mp hw with z | z
  · rw [z]; exact ⟨List.mem_cons_of_mem _ h, tw_good h⟩
  · exact ⟨List.mem_cons_of_mem _ z, tw_good z⟩
theorem ux_RA {s : State} {a b : ClassId} {ty : FieldType} (h1 : va_RA s a ty) (h2 : va_RA s b ty) : a = b := by
  cases ty with
  | object C =>
    obtain ⟨k1, c1, -, -, -, h1⟩ := h1
    obtain ⟨k2, c2, -, -, -, h2⟩ := h2
    rw [h1] at h2
    exact Option.some.inj h2
  | _ =>
    have h1 : s.vm.findClass _ = some a := h1
    have h2 : s.vm.findClass _ = some b := h2
    rw [h1] at h2
    exact Option.some.inj h2
section
variable {p : Program} {l : Launch} {e : Env} {R : Room} {s : State} {m : MethodId} {args : Array Value} {below : List Frame} {meth : Method} {c : Code} {H : Heap} {locs : List Loc} {cells slots : Nat} {Q : State → Prop}
variable {cc : ByteArray} {pc : Nat} {ls : Array Slot} {rest : List Value} {D : va_G} {cl : List vw_C} {A : Nat → Prop} {tys : List (ClassId × FieldType)} {ws : va_W} {H0 : Heap}
theorem ux_last {cA cB : ClassId} {ty : FieldType} (hK : va_K D cl (tys ++ [(cA, ty)]) s) (t0 : Nat) (ht : tys[t0]? = some (cB, ty)) : cA = cB := by
  have h1 := (hK.2 tys.length (cA, ty) (by rw [List.getElem?_append_right (Nat.le_refl _)]; simp)).2
  have h2 := (hK.2 t0 (cB, ty) (by rw [List.getElem?_append_left (List.getElem?_eq_some_iff.mp ht).1]; exact ht)).2
  exact ux_RA h1 h2
theorem ux_newaI (hexec : p.tables.exec = Jvm.exec) (hb : c.code = cc) (harr : (Cond.arrayClass .int).before args s = true) (hK : va_K D cl tys s) (t0 : Nat) {cB : ClassId} (ht : tys[t0]? = some (cB, .int)) (hP : va_P D cl ws H) (hD : va_D A ws) (hS : va_S A H0 H locs) (hA : ∀ q, H0.size ≤ q → A q)
    {n : Int32} {N' : Nat} (hn : ¬ n < 0) (hN : n.toNatClampNeg = N') (hbytes : N' * componentBytes .int ≤ 536870912) (hcells : cells + 1 ≤ R.cells) (hslots : slots + N' ≤ R.slots) (hdg : decode cc pc = .ok (.newarray .int, 2))
    (kk : ∀ (q : Nat) (H1 : Heap), va_P D cl (ws ++ [(q, .inl (cB, (N', .inl (fun _ => 0))))]) H1 → va_D A (ws ++ [(q, .inl (cB, (N', .inl (fun _ => 0))))]) → va_S A H0 H1 locs →
      W p l e R s m args below meth c H1 locs (cells + 1) (slots + N') Q (F0 m (pc + 2) ls (.ref q :: rest))) : W p l e R s m args below meth c H locs cells slots Q (F0 m pc ls (.int n :: rest)) := by
  refine va_newa (atype := .int) (a0 := (N', .inl (fun _ => 0))) hexec hb harr rfl hK hP hD hS hA (fun cA => vp_cell_i _ _ _) hn hN hbytes hcells hslots hdg (fun q cA H1 hK1 hP1 hD1 hS1 => ?_)
  have e1 := ux_last hK1 t0 ht
  subst e1
  exact kk q H1 hP1 hD1 hS1
theorem ux_newaZ (hexec : p.tables.exec = Jvm.exec) (hb : c.code = cc) (harr : (Cond.arrayClass .boolean).before args s = true) (hK : va_K D cl tys s) (t0 : Nat) {cB : ClassId} (ht : tys[t0]? = some (cB, .boolean)) (hP : va_P D cl ws H) (hD : va_D A ws) (hS : va_S A H0 H locs) (hA : ∀ q, H0.size ≤ q → A q)
    {n : Int32} {N' : Nat} (hn : ¬ n < 0) (hN : n.toNatClampNeg = N') (hbytes : N' * componentBytes .boolean ≤ 536870912) (hcells : cells + 1 ≤ R.cells) (hslots : slots + N' ≤ R.slots) (hdg : decode cc pc = .ok (.newarray .boolean, 2))
    (kk : ∀ (q : Nat) (H1 : Heap), va_P D cl (ws ++ [(q, .inl (cB, (N', .inl (fun _ => 0))))]) H1 → va_D A (ws ++ [(q, .inl (cB, (N', .inl (fun _ => 0))))]) → va_S A H0 H1 locs →
      W p l e R s m args below meth c H1 locs (cells + 1) (slots + N') Q (F0 m (pc + 2) ls (.ref q :: rest))) : W p l e R s m args below meth c H locs cells slots Q (F0 m pc ls (.int n :: rest)) := by
  refine va_newa (atype := .boolean) (a0 := (N', .inl (fun _ => 0))) hexec hb harr rfl hK hP hD hS hA (fun cA => vp_cell_i _ _ _) hn hN hbytes hcells hslots hdg (fun q cA H1 hK1 hP1 hD1 hS1 => ?_)
  have e1 := ux_last hK1 t0 ht
  subst e1
  exact kk q H1 hP1 hD1 hS1
theorem ux_newq (hexec : p.tables.exec = Jvm.exec) (hb : c.code = cc) {own C : String} {index : Nat} (hown : s.vm.findClass own = some m.cls) (hclink : (Cond.classLink own index C).before args s = true) (hover : va_AO C s) (hK : va_K D cl tys s) (t0 : Nat) {cB : ClassId} (ht : tys[t0]? = some (cB, .object C)) (hP : va_P D cl ws H) (hD : va_D A ws) (hS : va_S A H0 H locs) (hA : ∀ q, H0.size ≤ q → A q)
    {n : Int32} {N' : Nat} (hn : ¬ n < 0) (hN : n.toNatClampNeg = N') (hbytes : N' * 4 ≤ 536870912) (hcells : cells + 1 ≤ R.cells) (hslots : slots + N' ≤ R.slots) (hdg : decode cc pc = .ok (.anewarray index, 3))
    (kk : ∀ (q : Nat) (H1 : Heap), va_P D cl (ws ++ [(q, .inl (cB, N', .inr (.inr (.inr (.inr (fun _ => none))))))]) H1 → va_D A (ws ++ [(q, .inl (cB, N', .inr (.inr (.inr (.inr (fun _ => none))))))]) → va_S A H0 H1 locs →
      W p l e R s m args below meth c H1 locs (cells + 1) (slots + N') Q (F0 m (pc + 3) ls (.ref q :: rest))) : W p l e R s m args below meth c H locs cells slots Q (F0 m pc ls (.int n :: rest)) := by
  refine va_newq hexec hb hown hclink hover hK hP hD hS hA hn hN hbytes hcells hslots hdg (fun q cA H1 hK1 hP1 hD1 hS1 => ?_)
  have e1 := ux_last hK1 t0 ht
  subst e1
  exact kk q H1 hP1 hD1 hS1
end
abbrev cX0_init : ByteArray := prog_2_method_1_code
def yX0_init : MethodName := ⟨RX0, "<init>", "()V"⟩
def wX0_init : List Cond := Cond.code yX0_init cX0_init 1 none :: tw_big
abbrev cX1_init : ByteArray := prog_3_method_1_code
def yX1_init : MethodName := ⟨RX1, "<init>", "()V"⟩
def wX1_init : List Cond := Cond.code yX1_init cX1_init 1 none :: tw_big
abbrev cX2_init : ByteArray := prog_4_method_1_code
def yX2_init : MethodName := ⟨RX2, "<init>", "()V"⟩
def wX2_init : List Cond := Cond.code yX2_init cX2_init 1 none :: tw_big
abbrev cX3_init : ByteArray := prog_5_method_1_code
def yX3_init : MethodName := ⟨RX3, "<init>", "()V"⟩
def wX3_init : List Cond := Cond.code yX3_init cX3_init 2 none :: tw_big
abbrev cX4_init : ByteArray := prog_6_method_1_code
def yX4_init : MethodName := ⟨RX4, "<init>", "()V"⟩
def wX4_init : List Cond := Cond.code yX4_init cX4_init 1 none :: tw_big
abbrev cX5_init : ByteArray := prog_1_method_1_code
def yX5_init : MethodName := ⟨RX5, "<init>", "()V"⟩
def wX5_init : List Cond := Cond.code yX5_init cX5_init 1 none :: tw_big
abbrev cX6_init : ByteArray := prog_8_method_1_code
def yX6_init : MethodName := ⟨RX6, "<init>", "()V"⟩
def wX6_init : List Cond := Cond.code yX6_init cX6_init 1 none :: tw_big
theorem dX0_in_0 : decode cX0_init 0 = .ok (.aload_n 0, 1) := by decide +kernel
theorem dX0_in_1 : decode cX0_init 1 = .ok (.invokespecial 3, 3) := by decide +kernel
theorem dX0_in_4 : decode cX0_init 4 = .ok (.aload_n 0, 1) := by decide +kernel
theorem dX0_in_5 : decode cX0_init 5 = .ok (.iconst 4, 1) := by decide +kernel
theorem dX0_in_6 : decode cX0_init 6 = .ok (.newarray .int, 2) := by decide +kernel
theorem dX0_in_8 : decode cX0_init 8 = .ok (.putfield 9, 3) := by decide +kernel
theorem dX0_in_11 : decode cX0_init 11 = .ok (.aload_n 0, 1) := by decide +kernel
theorem dX0_in_12 : decode cX0_init 12 = .ok (.bipush 24, 2) := by decide +kernel
theorem dX0_in_14 : decode cX0_init 14 = .ok (.newarray .int, 2) := by decide +kernel
theorem dX0_in_16 : decode cX0_init 16 = .ok (.putfield 15, 3) := by decide +kernel
theorem dX0_in_19 : decode cX0_init 19 = .ok (.aload_n 0, 1) := by decide +kernel
theorem dX0_in_20 : decode cX0_init 20 = .ok (.iconst 5, 1) := by decide +kernel
theorem dX0_in_21 : decode cX0_init 21 = .ok (.newarray .int, 2) := by decide +kernel
theorem dX0_in_23 : decode cX0_init 23 = .ok (.putfield 18, 3) := by decide +kernel
theorem dX0_in_26 : decode cX0_init 26 = .ok (.aload_n 0, 1) := by decide +kernel
theorem dX0_in_27 : decode cX0_init 27 = .ok (.iconst 4, 1) := by decide +kernel
theorem dX0_in_28 : decode cX0_init 28 = .ok (.newarray .int, 2) := by decide +kernel
theorem dX0_in_30 : decode cX0_init 30 = .ok (.putfield 21, 3) := by decide +kernel
theorem dX0_in_33 : decode cX0_init 33 = .ok (.aload_n 0, 1) := by decide +kernel
theorem dX0_in_34 : decode cX0_init 34 = .ok (.iconst 4, 1) := by decide +kernel
theorem dX0_in_35 : decode cX0_init 35 = .ok (.newarray .int, 2) := by decide +kernel
theorem dX0_in_37 : decode cX0_init 37 = .ok (.putfield 24, 3) := by decide +kernel
theorem dX0_in_40 : decode cX0_init 40 = .ok (.aload_n 0, 1) := by decide +kernel
theorem dX0_in_41 : decode cX0_init 41 = .ok (.iconst 0, 1) := by decide +kernel
theorem dX0_in_42 : decode cX0_init 42 = .ok (.putfield 27, 3) := by decide +kernel
theorem dX0_in_45 : decode cX0_init 45 = .ok (.aload_n 0, 1) := by decide +kernel
theorem dX0_in_46 : decode cX0_init 46 = .ok (.iconst 0, 1) := by decide +kernel
theorem dX0_in_47 : decode cX0_init 47 = .ok (.putfield 31, 3) := by decide +kernel
theorem dX0_in_50 : decode cX0_init 50 = .ok (.aload_n 0, 1) := by decide +kernel
theorem dX0_in_51 : decode cX0_init 51 = .ok (.iconst 0, 1) := by decide +kernel
theorem dX0_in_52 : decode cX0_init 52 = .ok (.putfield 34, 3) := by decide +kernel
theorem dX0_in_55 : decode cX0_init 55 = .ok (.aload_n 0, 1) := by decide +kernel
theorem dX0_in_56 : decode cX0_init 56 = .ok (.iconst 0, 1) := by decide +kernel
theorem dX0_in_57 : decode cX0_init 57 = .ok (.putfield 37, 3) := by decide +kernel
theorem dX0_in_60 : decode cX0_init 60 = .ok (.return_, 1) := by decide +kernel
theorem dX1_in_0 : decode cX1_init 0 = .ok (.aload_n 0, 1) := by decide +kernel
theorem dX1_in_1 : decode cX1_init 1 = .ok (.invokespecial 3, 3) := by decide +kernel
theorem dX1_in_4 : decode cX1_init 4 = .ok (.aload_n 0, 1) := by decide +kernel
theorem dX1_in_5 : decode cX1_init 5 = .ok (.bipush 60, 2) := by decide +kernel
theorem dX1_in_7 : decode cX1_init 7 = .ok (.newarray .int, 2) := by decide +kernel
theorem dX1_in_9 : decode cX1_init 9 = .ok (.putfield 9, 3) := by decide +kernel
theorem dX1_in_12 : decode cX1_init 12 = .ok (.aload_n 0, 1) := by decide +kernel
theorem dX1_in_13 : decode cX1_init 13 = .ok (.bipush 60, 2) := by decide +kernel
theorem dX1_in_15 : decode cX1_init 15 = .ok (.newarray .int, 2) := by decide +kernel
theorem dX1_in_17 : decode cX1_init 17 = .ok (.putfield 15, 3) := by decide +kernel
theorem dX1_in_20 : decode cX1_init 20 = .ok (.aload_n 0, 1) := by decide +kernel
theorem dX1_in_21 : decode cX1_init 21 = .ok (.iconst 0, 1) := by decide +kernel
theorem dX1_in_22 : decode cX1_init 22 = .ok (.putfield 18, 3) := by decide +kernel
theorem dX1_in_25 : decode cX1_init 25 = .ok (.return_, 1) := by decide +kernel
theorem dX2_in_0 : decode cX2_init 0 = .ok (.aload_n 0, 1) := by decide +kernel
theorem dX2_in_1 : decode cX2_init 1 = .ok (.invokespecial 3, 3) := by decide +kernel
theorem dX2_in_4 : decode cX2_init 4 = .ok (.aload_n 0, 1) := by decide +kernel
theorem dX2_in_5 : decode cX2_init 5 = .ok (.iconst 4, 1) := by decide +kernel
theorem dX2_in_6 : decode cX2_init 6 = .ok (.newarray .int, 2) := by decide +kernel
theorem dX2_in_8 : decode cX2_init 8 = .ok (.putfield 9, 3) := by decide +kernel
theorem dX2_in_11 : decode cX2_init 11 = .ok (.aload_n 0, 1) := by decide +kernel
theorem dX2_in_12 : decode cX2_init 12 = .ok (.iconst 4, 1) := by decide +kernel
theorem dX2_in_13 : decode cX2_init 13 = .ok (.newarray .int, 2) := by decide +kernel
theorem dX2_in_15 : decode cX2_init 15 = .ok (.putfield 15, 3) := by decide +kernel
theorem dX2_in_18 : decode cX2_init 18 = .ok (.aload_n 0, 1) := by decide +kernel
theorem dX2_in_19 : decode cX2_init 19 = .ok (.iconst 0, 1) := by decide +kernel
theorem dX2_in_20 : decode cX2_init 20 = .ok (.putfield 18, 3) := by decide +kernel
theorem dX2_in_23 : decode cX2_init 23 = .ok (.aload_n 0, 1) := by decide +kernel
theorem dX2_in_24 : decode cX2_init 24 = .ok (.iconst 0, 1) := by decide +kernel
theorem dX2_in_25 : decode cX2_init 25 = .ok (.putfield 22, 3) := by decide +kernel
theorem dX2_in_28 : decode cX2_init 28 = .ok (.aload_n 0, 1) := by decide +kernel
theorem dX2_in_29 : decode cX2_init 29 = .ok (.iconst 0, 1) := by decide +kernel
theorem dX2_in_30 : decode cX2_init 30 = .ok (.putfield 25, 3) := by decide +kernel
theorem dX2_in_33 : decode cX2_init 33 = .ok (.aload_n 0, 1) := by decide +kernel
theorem dX2_in_34 : decode cX2_init 34 = .ok (.iconst 0, 1) := by decide +kernel
theorem dX2_in_35 : decode cX2_init 35 = .ok (.putfield 28, 3) := by decide +kernel
theorem dX2_in_38 : decode cX2_init 38 = .ok (.aload_n 0, 1) := by decide +kernel
theorem dX2_in_39 : decode cX2_init 39 = .ok (.iconst 0, 1) := by decide +kernel
theorem dX2_in_40 : decode cX2_init 40 = .ok (.putfield 31, 3) := by decide +kernel
theorem dX2_in_43 : decode cX2_init 43 = .ok (.aload_n 0, 1) := by decide +kernel
theorem dX2_in_44 : decode cX2_init 44 = .ok (.iconst 0, 1) := by decide +kernel
theorem dX2_in_45 : decode cX2_init 45 = .ok (.putfield 34, 3) := by decide +kernel
theorem dX2_in_48 : decode cX2_init 48 = .ok (.return_, 1) := by decide +kernel
theorem dX3_in_0 : decode cX3_init 0 = .ok (.aload_n 0, 1) := by decide +kernel
theorem dX3_in_1 : decode cX3_init 1 = .ok (.invokespecial 3, 3) := by decide +kernel
theorem dX3_in_4 : decode cX3_init 4 = .ok (.aload_n 0, 1) := by decide +kernel
theorem dX3_in_5 : decode cX3_init 5 = .ok (.bipush 8, 2) := by decide +kernel
theorem dX3_in_7 : decode cX3_init 7 = .ok (.anewarray 9, 3) := by decide +kernel
theorem dX3_in_10 : decode cX3_init 10 = .ok (.putfield 11, 3) := by decide +kernel
theorem dX3_in_13 : decode cX3_init 13 = .ok (.aload_n 0, 1) := by decide +kernel
theorem dX3_in_14 : decode cX3_init 14 = .ok (.iconst 4, 1) := by decide +kernel
theorem dX3_in_15 : decode cX3_init 15 = .ok (.anewarray 17, 3) := by decide +kernel
theorem dX3_in_18 : decode cX3_init 18 = .ok (.putfield 19, 3) := by decide +kernel
theorem dX3_in_21 : decode cX3_init 21 = .ok (.aload_n 0, 1) := by decide +kernel
theorem dX3_in_22 : decode cX3_init 22 = .ok (.iconst 4, 1) := by decide +kernel
theorem dX3_in_23 : decode cX3_init 23 = .ok (.newarray .int, 2) := by decide +kernel
theorem dX3_in_25 : decode cX3_init 25 = .ok (.putfield 23, 3) := by decide +kernel
theorem dX3_in_28 : decode cX3_init 28 = .ok (.aload_n 0, 1) := by decide +kernel
theorem dX3_in_29 : decode cX3_init 29 = .ok (.iconst 0, 1) := by decide +kernel
theorem dX3_in_30 : decode cX3_init 30 = .ok (.putfield 27, 3) := by decide +kernel
theorem dX3_in_33 : decode cX3_init 33 = .ok (.aload_n 0, 1) := by decide +kernel
theorem dX3_in_34 : decode cX3_init 34 = .ok (.iconst 0, 1) := by decide +kernel
theorem dX3_in_35 : decode cX3_init 35 = .ok (.putfield 31, 3) := by decide +kernel
theorem dX3_in_38 : decode cX3_init 38 = .ok (.aload_n 0, 1) := by decide +kernel
theorem dX3_in_39 : decode cX3_init 39 = .ok (.iconst 0, 1) := by decide +kernel
theorem dX3_in_40 : decode cX3_init 40 = .ok (.putfield 34, 3) := by decide +kernel
theorem dX3_in_43 : decode cX3_init 43 = .ok (.aload_n 0, 1) := by decide +kernel
theorem dX3_in_44 : decode cX3_init 44 = .ok (.iconst 0, 1) := by decide +kernel
theorem dX3_in_45 : decode cX3_init 45 = .ok (.putfield 37, 3) := by decide +kernel
theorem dX3_in_48 : decode cX3_init 48 = .ok (.iconst 0, 1) := by decide +kernel
theorem dX3_in_49 : decode cX3_init 49 = .ok (.istore_n 1, 1) := by decide +kernel
theorem dX3_in_50 : decode cX3_init 50 = .ok (.iload_n 1, 1) := by decide +kernel
theorem dX3_in_51 : decode cX3_init 51 = .ok (.aload_n 0, 1) := by decide +kernel
theorem dX3_in_52 : decode cX3_init 52 = .ok (.getfield 11, 3) := by decide +kernel
theorem dX3_in_55 : decode cX3_init 55 = .ok (.arraylength, 1) := by decide +kernel
theorem dX3_in_56 : decode cX3_init 56 = .ok (.if_icmp .ge 22, 3) := by decide +kernel
theorem dX3_in_59 : decode cX3_init 59 = .ok (.aload_n 0, 1) := by decide +kernel
theorem dX3_in_60 : decode cX3_init 60 = .ok (.getfield 11, 3) := by decide +kernel
theorem dX3_in_63 : decode cX3_init 63 = .ok (.iload_n 1, 1) := by decide +kernel
theorem dX3_in_64 : decode cX3_init 64 = .ok (.new 9, 3) := by decide +kernel
theorem dX3_in_67 : decode cX3_init 67 = .ok (.dup, 1) := by decide +kernel
theorem dX3_in_68 : decode cX3_init 68 = .ok (.invokespecial 41, 3) := by decide +kernel
theorem dX3_in_71 : decode cX3_init 71 = .ok (.aastore, 1) := by decide +kernel
theorem dX3_in_72 : decode cX3_init 72 = .ok (.iinc 1 1, 3) := by decide +kernel
theorem dX3_in_75 : decode cX3_init 75 = .ok (.goto (-25), 3) := by decide +kernel
theorem dX3_in_78 : decode cX3_init 78 = .ok (.iconst 0, 1) := by decide +kernel
theorem dX3_in_79 : decode cX3_init 79 = .ok (.istore_n 1, 1) := by decide +kernel
theorem dX3_in_80 : decode cX3_init 80 = .ok (.iload_n 1, 1) := by decide +kernel
theorem dX3_in_81 : decode cX3_init 81 = .ok (.aload_n 0, 1) := by decide +kernel
theorem dX3_in_82 : decode cX3_init 82 = .ok (.getfield 19, 3) := by decide +kernel
theorem dX3_in_85 : decode cX3_init 85 = .ok (.arraylength, 1) := by decide +kernel
theorem dX3_in_86 : decode cX3_init 86 = .ok (.if_icmp .ge 22, 3) := by decide +kernel
theorem dX3_in_89 : decode cX3_init 89 = .ok (.aload_n 0, 1) := by decide +kernel
theorem dX3_in_90 : decode cX3_init 90 = .ok (.getfield 19, 3) := by decide +kernel
theorem dX3_in_93 : decode cX3_init 93 = .ok (.iload_n 1, 1) := by decide +kernel
theorem dX3_in_94 : decode cX3_init 94 = .ok (.new 17, 3) := by decide +kernel
theorem dX3_in_97 : decode cX3_init 97 = .ok (.dup, 1) := by decide +kernel
theorem dX3_in_98 : decode cX3_init 98 = .ok (.invokespecial 42, 3) := by decide +kernel
theorem dX3_in_101 : decode cX3_init 101 = .ok (.aastore, 1) := by decide +kernel
theorem dX3_in_102 : decode cX3_init 102 = .ok (.iinc 1 1, 3) := by decide +kernel
theorem dX3_in_105 : decode cX3_init 105 = .ok (.goto (-25), 3) := by decide +kernel
theorem dX3_in_108 : decode cX3_init 108 = .ok (.iconst 0, 1) := by decide +kernel
theorem dX3_in_109 : decode cX3_init 109 = .ok (.istore_n 1, 1) := by decide +kernel
theorem dX3_in_110 : decode cX3_init 110 = .ok (.iload_n 1, 1) := by decide +kernel
theorem dX3_in_111 : decode cX3_init 111 = .ok (.aload_n 0, 1) := by decide +kernel
theorem dX3_in_112 : decode cX3_init 112 = .ok (.getfield 23, 3) := by decide +kernel
theorem dX3_in_115 : decode cX3_init 115 = .ok (.arraylength, 1) := by decide +kernel
theorem dX3_in_116 : decode cX3_init 116 = .ok (.if_icmp .ge 16, 3) := by decide +kernel
theorem dX3_in_119 : decode cX3_init 119 = .ok (.aload_n 0, 1) := by decide +kernel
theorem dX3_in_120 : decode cX3_init 120 = .ok (.getfield 23, 3) := by decide +kernel
theorem dX3_in_123 : decode cX3_init 123 = .ok (.iload_n 1, 1) := by decide +kernel
theorem dX3_in_124 : decode cX3_init 124 = .ok (.iconst (-1), 1) := by decide +kernel
theorem dX3_in_125 : decode cX3_init 125 = .ok (.iastore, 1) := by decide +kernel
theorem dX3_in_126 : decode cX3_init 126 = .ok (.iinc 1 1, 3) := by decide +kernel
theorem dX3_in_129 : decode cX3_init 129 = .ok (.goto (-19), 3) := by decide +kernel
theorem dX3_in_132 : decode cX3_init 132 = .ok (.return_, 1) := by decide +kernel
theorem dX4_in_0 : decode cX4_init 0 = .ok (.aload_n 0, 1) := by decide +kernel
theorem dX4_in_1 : decode cX4_init 1 = .ok (.invokespecial 3, 3) := by decide +kernel
theorem dX4_in_4 : decode cX4_init 4 = .ok (.aload_n 0, 1) := by decide +kernel
theorem dX4_in_5 : decode cX4_init 5 = .ok (.sipush 300, 3) := by decide +kernel
theorem dX4_in_8 : decode cX4_init 8 = .ok (.newarray .int, 2) := by decide +kernel
theorem dX4_in_10 : decode cX4_init 10 = .ok (.putfield 9, 3) := by decide +kernel
theorem dX4_in_13 : decode cX4_init 13 = .ok (.aload_n 0, 1) := by decide +kernel
theorem dX4_in_14 : decode cX4_init 14 = .ok (.iconst 0, 1) := by decide +kernel
theorem dX4_in_15 : decode cX4_init 15 = .ok (.putfield 15, 3) := by decide +kernel
theorem dX4_in_18 : decode cX4_init 18 = .ok (.aload_n 0, 1) := by decide +kernel
theorem dX4_in_19 : decode cX4_init 19 = .ok (.iconst 0, 1) := by decide +kernel
theorem dX4_in_20 : decode cX4_init 20 = .ok (.putfield 19, 3) := by decide +kernel
theorem dX4_in_23 : decode cX4_init 23 = .ok (.aload_n 0, 1) := by decide +kernel
theorem dX4_in_24 : decode cX4_init 24 = .ok (.iconst 0, 1) := by decide +kernel
theorem dX4_in_25 : decode cX4_init 25 = .ok (.putfield 22, 3) := by decide +kernel
theorem dX4_in_28 : decode cX4_init 28 = .ok (.aload_n 0, 1) := by decide +kernel
theorem dX4_in_29 : decode cX4_init 29 = .ok (.iconst 0, 1) := by decide +kernel
theorem dX4_in_30 : decode cX4_init 30 = .ok (.putfield 25, 3) := by decide +kernel
theorem dX4_in_33 : decode cX4_init 33 = .ok (.aload_n 0, 1) := by decide +kernel
theorem dX4_in_34 : decode cX4_init 34 = .ok (.iconst 0, 1) := by decide +kernel
theorem dX4_in_35 : decode cX4_init 35 = .ok (.putfield 28, 3) := by decide +kernel
theorem dX4_in_38 : decode cX4_init 38 = .ok (.return_, 1) := by decide +kernel
theorem dX5_in_0 : decode cX5_init 0 = .ok (.aload_n 0, 1) := by decide +kernel
theorem dX5_in_1 : decode cX5_init 1 = .ok (.invokespecial 1, 3) := by decide +kernel
theorem dX5_in_4 : decode cX5_init 4 = .ok (.aload_n 0, 1) := by decide +kernel
theorem dX5_in_5 : decode cX5_init 5 = .ok (.new 7, 3) := by decide +kernel
theorem dX5_in_8 : decode cX5_init 8 = .ok (.dup, 1) := by decide +kernel
theorem dX5_in_9 : decode cX5_init 9 = .ok (.invokespecial 9, 3) := by decide +kernel
theorem dX5_in_12 : decode cX5_init 12 = .ok (.putfield 10, 3) := by decide +kernel
theorem dX5_in_15 : decode cX5_init 15 = .ok (.aload_n 0, 1) := by decide +kernel
theorem dX5_in_16 : decode cX5_init 16 = .ok (.new 16, 3) := by decide +kernel
theorem dX5_in_19 : decode cX5_init 19 = .ok (.dup, 1) := by decide +kernel
theorem dX5_in_20 : decode cX5_init 20 = .ok (.invokespecial 18, 3) := by decide +kernel
theorem dX5_in_23 : decode cX5_init 23 = .ok (.putfield 19, 3) := by decide +kernel
theorem dX5_in_26 : decode cX5_init 26 = .ok (.aload_n 0, 1) := by decide +kernel
theorem dX5_in_27 : decode cX5_init 27 = .ok (.new 16, 3) := by decide +kernel
theorem dX5_in_30 : decode cX5_init 30 = .ok (.dup, 1) := by decide +kernel
theorem dX5_in_31 : decode cX5_init 31 = .ok (.invokespecial 18, 3) := by decide +kernel
theorem dX5_in_34 : decode cX5_init 34 = .ok (.putfield 23, 3) := by decide +kernel
theorem dX5_in_37 : decode cX5_init 37 = .ok (.aload_n 0, 1) := by decide +kernel
theorem dX5_in_38 : decode cX5_init 38 = .ok (.new 26, 3) := by decide +kernel
theorem dX5_in_41 : decode cX5_init 41 = .ok (.dup, 1) := by decide +kernel
theorem dX5_in_42 : decode cX5_init 42 = .ok (.invokespecial 28, 3) := by decide +kernel
theorem dX5_in_45 : decode cX5_init 45 = .ok (.putfield 29, 3) := by decide +kernel
theorem dX5_in_48 : decode cX5_init 48 = .ok (.aload_n 0, 1) := by decide +kernel
theorem dX5_in_49 : decode cX5_init 49 = .ok (.new 26, 3) := by decide +kernel
theorem dX5_in_52 : decode cX5_init 52 = .ok (.dup, 1) := by decide +kernel
theorem dX5_in_53 : decode cX5_init 53 = .ok (.invokespecial 28, 3) := by decide +kernel
theorem dX5_in_56 : decode cX5_init 56 = .ok (.putfield 33, 3) := by decide +kernel
theorem dX5_in_59 : decode cX5_init 59 = .ok (.aload_n 0, 1) := by decide +kernel
theorem dX5_in_60 : decode cX5_init 60 = .ok (.new 26, 3) := by decide +kernel
theorem dX5_in_63 : decode cX5_init 63 = .ok (.dup, 1) := by decide +kernel
theorem dX5_in_64 : decode cX5_init 64 = .ok (.invokespecial 28, 3) := by decide +kernel
theorem dX5_in_67 : decode cX5_init 67 = .ok (.putfield 36, 3) := by decide +kernel
theorem dX5_in_70 : decode cX5_init 70 = .ok (.aload_n 0, 1) := by decide +kernel
theorem dX5_in_71 : decode cX5_init 71 = .ok (.lconst 0, 1) := by decide +kernel
theorem dX5_in_72 : decode cX5_init 72 = .ok (.putfield 39, 3) := by decide +kernel
theorem dX5_in_75 : decode cX5_init 75 = .ok (.return_, 1) := by decide +kernel
theorem dX6_in_0 : decode cX6_init 0 = .ok (.aload_n 0, 1) := by decide +kernel
theorem dX6_in_1 : decode cX6_init 1 = .ok (.invokespecial 1, 3) := by decide +kernel
theorem dX6_in_4 : decode cX6_init 4 = .ok (.aload_n 0, 1) := by decide +kernel
theorem dX6_in_5 : decode cX6_init 5 = .ok (.sipush 300, 3) := by decide +kernel
theorem dX6_in_8 : decode cX6_init 8 = .ok (.newarray .int, 2) := by decide +kernel
theorem dX6_in_10 : decode cX6_init 10 = .ok (.putfield 7, 3) := by decide +kernel
theorem dX6_in_13 : decode cX6_init 13 = .ok (.aload_n 0, 1) := by decide +kernel
theorem dX6_in_14 : decode cX6_init 14 = .ok (.bipush 8, 2) := by decide +kernel
theorem dX6_in_16 : decode cX6_init 16 = .ok (.newarray .int, 2) := by decide +kernel
theorem dX6_in_18 : decode cX6_init 18 = .ok (.putfield 13, 3) := by decide +kernel
theorem dX6_in_21 : decode cX6_init 21 = .ok (.aload_n 0, 1) := by decide +kernel
theorem dX6_in_22 : decode cX6_init 22 = .ok (.bipush 48, 2) := by decide +kernel
theorem dX6_in_24 : decode cX6_init 24 = .ok (.newarray .int, 2) := by decide +kernel
theorem dX6_in_26 : decode cX6_init 26 = .ok (.putfield 16, 3) := by decide +kernel
theorem dX6_in_29 : decode cX6_init 29 = .ok (.aload_n 0, 1) := by decide +kernel
theorem dX6_in_30 : decode cX6_init 30 = .ok (.bipush 10, 2) := by decide +kernel
theorem dX6_in_32 : decode cX6_init 32 = .ok (.newarray .int, 2) := by decide +kernel
theorem dX6_in_34 : decode cX6_init 34 = .ok (.putfield 19, 3) := by decide +kernel
theorem dX6_in_37 : decode cX6_init 37 = .ok (.aload_n 0, 1) := by decide +kernel
theorem dX6_in_38 : decode cX6_init 38 = .ok (.bipush 8, 2) := by decide +kernel
theorem dX6_in_40 : decode cX6_init 40 = .ok (.newarray .int, 2) := by decide +kernel
theorem dX6_in_42 : decode cX6_init 42 = .ok (.putfield 22, 3) := by decide +kernel
theorem dX6_in_45 : decode cX6_init 45 = .ok (.aload_n 0, 1) := by decide +kernel
theorem dX6_in_46 : decode cX6_init 46 = .ok (.bipush 8, 2) := by decide +kernel
theorem dX6_in_48 : decode cX6_init 48 = .ok (.newarray .int, 2) := by decide +kernel
theorem dX6_in_50 : decode cX6_init 50 = .ok (.putfield 25, 3) := by decide +kernel
theorem dX6_in_53 : decode cX6_init 53 = .ok (.aload_n 0, 1) := by decide +kernel
theorem dX6_in_54 : decode cX6_init 54 = .ok (.sipush 363, 3) := by decide +kernel
theorem dX6_in_57 : decode cX6_init 57 = .ok (.newarray .int, 2) := by decide +kernel
theorem dX6_in_59 : decode cX6_init 59 = .ok (.putfield 28, 3) := by decide +kernel
theorem dX6_in_62 : decode cX6_init 62 = .ok (.aload_n 0, 1) := by decide +kernel
theorem dX6_in_63 : decode cX6_init 63 = .ok (.sipush 726, 3) := by decide +kernel
theorem dX6_in_66 : decode cX6_init 66 = .ok (.newarray .int, 2) := by decide +kernel
theorem dX6_in_68 : decode cX6_init 68 = .ok (.putfield 31, 3) := by decide +kernel
theorem dX6_in_71 : decode cX6_init 71 = .ok (.aload_n 0, 1) := by decide +kernel
theorem dX6_in_72 : decode cX6_init 72 = .ok (.iconst 2, 1) := by decide +kernel
theorem dX6_in_73 : decode cX6_init 73 = .ok (.newarray .boolean, 2) := by decide +kernel
theorem dX6_in_75 : decode cX6_init 75 = .ok (.putfield 34, 3) := by decide +kernel
theorem dX6_in_78 : decode cX6_init 78 = .ok (.aload_n 0, 1) := by decide +kernel
theorem dX6_in_79 : decode cX6_init 79 = .ok (.invokevirtual 38, 3) := by decide +kernel
theorem dX6_in_82 : decode cX6_init 82 = .ok (.return_, 1) := by decide +kernel
/-- what an object of class 0 is, new -/
def ux_w0 (y : Nat → ClassId) (h0 : Nat) (u : Nat → Nat) : va_W := [(h0, .inr (0, [.ref (u 0), .ref (u 1), .ref (u 2), .ref (u 3), .ref (u 4), .int 0, .int 0, .int 0, .int 0])), ((u 0), .inl (y 0, (4, .inl (fun _ => 0)))), ((u 1), .inl (y 0, (24, .inl (fun _ => 0)))), ((u 2), .inl (y 0, (5, .inl (fun _ => 0)))), ((u 3), .inl (y 0, (4, .inl (fun _ => 0)))), ((u 4), .inl (y 0, (4, .inl (fun _ => 0))))]
def ux_r0 : Room := { frames := 1, cells := 5, slots := 41, locals := 12 }
set_option maxHeartbeats 4000000 in
set_option maxRecDepth 100000 in
theorem ux_c0 (l : Launch) (y : Nat → ClassId) (D : va_G) (h0 sz : Nat) : Met l yX0_init wX0_init ux_r0 (ux_pre y D h0 [(h0, .inr (0, [.null, .null, .null, .null, .null, .int 0, .int 0, .int 0, .int 0]))] sz) (ux_post D [(h0, .inr (0, [.null, .null, .null, .null, .null, .int 0, .int 0, .int 0, .int 0]))] sz (ux_w0 y h0)) 5 41 (va_A [(h0, .inr (0, [.null, .null, .null, .null, .null, .int 0, .int 0, .int 0, .int 0]))] sz) := by
  refine Met.ofW (cc := cX0_init) (maxL := 1) (ret := none) (by decide) rfl ?_
  intro p e s m args below meth c s₁ B hml hv
  obtain ⟨rfl, hsz, hP, hQ, hD0⟩ := hv
  have hK := hQ.1
  have hx := B.exec
  have hb := B.bytes
  have hr := B.returns
  have hts := atoms_spec (ws := wX0_init) B.pre
  have hw : ∀ {w : Cond}, w ∈ tw_big → w.before #[Value.ref h0] s = true := fun h => hts _ (List.mem_cons_of_mem _ h)
  have hown : s.vm.findClass RX0 = some m.cls := findClass_of_methodNamed B.named
  have hlocks := B.notSynchronized
  have hin : meth.name = "<init>" := (name_of_methodNamed B.named B.method).1
  subst hsz
  have hD := hD0.self (sz := s.heap.size)
  generalize hAe : va_A [(h0, .inr (0, [.null, .null, .null, .null, .null, .int 0, .int 0, .int 0, .int 0]))] s.heap.size = A at hD ⊢
  have hA : ∀ q : Nat, s.heap.size ≤ q → A q := fun q h => by rw [← hAe]; exact Or.inr h
  have hS : va_S A s.heap s.heap [] := va_S.rf
  have hl := lv_entry ([.ref h0]) (n := 1) (Nat.le_of_ble_eq_true rfl)
  rw [lg_entry_eq]
  generalize (lg_sl ([.ref h0]) ++ List.replicate (1 - (lg_sl ([.ref h0])).length) Slot.unset).toArray = ls at hl ⊢
  have hl : lv_has ls 1 [(0, .ref h0)] := hl
  refine lv_aload_n hx hb dX0_in_0 rfl (lv_at hl 0 rfl) ?_
  refine W.objInit hx hb hown (hw (tw_g_in (i := 100) (by decide +kernel))) (hw (tw_g_in (i := 66) (by decide +kernel))) (hw (tw_g_in (i := 67) (by decide +kernel))) rfl (by rw [hml]; exact hl.1) rfl dX0_in_1 (Nat.le_of_ble_eq_true rfl) (Nat.le_of_ble_eq_true rfl) ?_
  refine W.eq (g2 := F0 m 4 ls []) rfl ?_
  refine lv_aload_n hx hb dX0_in_4 rfl (lv_at hl 0 rfl) ?_
  refine lv_iconst (v := 4) hx hb dX0_in_5 (by decide) ?_
  refine ux_newaI (n := 4) (N' := 4) hx hb (hw (tw_g_in (i := 94) (by decide +kernel))) hK 0 rfl hP hD hS hA (by decide) (by decide) (by decide) (by decide) (by decide) dX0_in_6 (fun q0 H hP hD hS => ?_)
  have hP : va_P D vwCl [(h0, .inr (0, [.null, .null, .null, .null, .null, .int 0, .int 0, .int 0, .int 0])), (q0, .inl (y 0, (4, .inl (fun _ => 0))))] H := hP
  have hD : va_D A [(h0, .inr (0, [.null, .null, .null, .null, .null, .int 0, .int 0, .int 0, .int 0])), (q0, .inl (y 0, (4, .inl (fun _ => 0))))] := hD
  refine W.widen (k := 1) (n := 4) (by decide) (by decide) ?_
  refine va_putF (D := D) (ci := 0) (v := .ref q0) (C := RX0) (T := TX0) (N := 9) hx hb (Ts := tw_big) (fun _ h => hw h) tw_cl_w0 tyX0 tyX0_ok nmX0 hown hK hP hD hS 0 rfl rfl 0 (by decide) (hw (tw_g_in (i := 101) (by decide +kernel))) (fun _ h9 => h9) rfl hin rfl (tyX0_ok 0 (by decide)) rfl rfl (Nat.le_of_ble_eq_true rfl) dX0_in_8 (fun H locs hP hD hS => ?_)
  have hP : va_P D vwCl [(h0, .inr (0, [.ref q0, .null, .null, .null, .null, .int 0, .int 0, .int 0, .int 0])), (q0, .inl (y 0, (4, .inl (fun _ => 0))))] H := hP
  have hD : va_D A [(h0, .inr (0, [.ref q0, .null, .null, .null, .null, .int 0, .int 0, .int 0, .int 0])), (q0, .inl (y 0, (4, .inl (fun _ => 0))))] := hD
  refine lv_aload_n hx hb dX0_in_11 rfl (lv_at hl 0 rfl) ?_
  refine lv_bipush (v := 24) hx hb dX0_in_12 (by decide) ?_
  refine ux_newaI (n := 24) (N' := 24) hx hb (hw (tw_g_in (i := 94) (by decide +kernel))) hK 0 rfl hP hD hS hA (by decide) (by decide) (by decide) (by decide) (by decide) dX0_in_14 (fun q1 H hP hD hS => ?_)
  have hP : va_P D vwCl [(h0, .inr (0, [.ref q0, .null, .null, .null, .null, .int 0, .int 0, .int 0, .int 0])), (q0, .inl (y 0, (4, .inl (fun _ => 0)))), (q1, .inl (y 0, (24, .inl (fun _ => 0))))] H := hP
  have hD : va_D A [(h0, .inr (0, [.ref q0, .null, .null, .null, .null, .int 0, .int 0, .int 0, .int 0])), (q0, .inl (y 0, (4, .inl (fun _ => 0)))), (q1, .inl (y 0, (24, .inl (fun _ => 0))))] := hD
  refine W.widen (k := 2) (n := 28) (by decide) (by decide) ?_
  refine va_putF (D := D) (ci := 0) (v := .ref q1) (C := RX0) (T := TX0) (N := 9) hx hb (Ts := tw_big) (fun _ h => hw h) tw_cl_w0 tyX0 tyX0_ok nmX0 hown hK hP hD hS 0 rfl rfl 1 (by decide) (hw (tw_g_in (i := 103) (by decide +kernel))) (fun _ h9 => h9) rfl hin rfl (tyX0_ok 1 (by decide)) rfl rfl (Nat.le_of_ble_eq_true rfl) dX0_in_16 (fun H locs hP hD hS => ?_)
  have hP : va_P D vwCl [(h0, .inr (0, [.ref q0, .ref q1, .null, .null, .null, .int 0, .int 0, .int 0, .int 0])), (q0, .inl (y 0, (4, .inl (fun _ => 0)))), (q1, .inl (y 0, (24, .inl (fun _ => 0))))] H := hP
  have hD : va_D A [(h0, .inr (0, [.ref q0, .ref q1, .null, .null, .null, .int 0, .int 0, .int 0, .int 0])), (q0, .inl (y 0, (4, .inl (fun _ => 0)))), (q1, .inl (y 0, (24, .inl (fun _ => 0))))] := hD
  refine lv_aload_n hx hb dX0_in_19 rfl (lv_at hl 0 rfl) ?_
  refine lv_iconst (v := 5) hx hb dX0_in_20 (by decide) ?_
  refine ux_newaI (n := 5) (N' := 5) hx hb (hw (tw_g_in (i := 94) (by decide +kernel))) hK 0 rfl hP hD hS hA (by decide) (by decide) (by decide) (by decide) (by decide) dX0_in_21 (fun q2 H hP hD hS => ?_)
  have hP : va_P D vwCl [(h0, .inr (0, [.ref q0, .ref q1, .null, .null, .null, .int 0, .int 0, .int 0, .int 0])), (q0, .inl (y 0, (4, .inl (fun _ => 0)))), (q1, .inl (y 0, (24, .inl (fun _ => 0)))), (q2, .inl (y 0, (5, .inl (fun _ => 0))))] H := hP
  have hD : va_D A [(h0, .inr (0, [.ref q0, .ref q1, .null, .null, .null, .int 0, .int 0, .int 0, .int 0])), (q0, .inl (y 0, (4, .inl (fun _ => 0)))), (q1, .inl (y 0, (24, .inl (fun _ => 0)))), (q2, .inl (y 0, (5, .inl (fun _ => 0))))] := hD
  refine W.widen (k := 3) (n := 33) (by decide) (by decide) ?_
  refine va_putF (D := D) (ci := 0) (v := .ref q2) (C := RX0) (T := TX0) (N := 9) hx hb (Ts := tw_big) (fun _ h => hw h) tw_cl_w0 tyX0 tyX0_ok nmX0 hown hK hP hD hS 0 rfl rfl 2 (by decide) (hw (tw_g_in (i := 104) (by decide +kernel))) (fun _ h9 => h9) rfl hin rfl (tyX0_ok 2 (by decide)) rfl rfl (Nat.le_of_ble_eq_true rfl) dX0_in_23 (fun H locs hP hD hS => ?_)
  have hP : va_P D vwCl [(h0, .inr (0, [.ref q0, .ref q1, .ref q2, .null, .null, .int 0, .int 0, .int 0, .int 0])), (q0, .inl (y 0, (4, .inl (fun _ => 0)))), (q1, .inl (y 0, (24, .inl (fun _ => 0)))), (q2, .inl (y 0, (5, .inl (fun _ => 0))))] H := hP
  have hD : va_D A [(h0, .inr (0, [.ref q0, .ref q1, .ref q2, .null, .null, .int 0, .int 0, .int 0, .int 0])), (q0, .inl (y 0, (4, .inl (fun _ => 0)))), (q1, .inl (y 0, (24, .inl (fun _ => 0)))), (q2, .inl (y 0, (5, .inl (fun _ => 0))))] := hD
  refine lv_aload_n hx hb dX0_in_26 rfl (lv_at hl 0 rfl) ?_
  refine lv_iconst (v := 4) hx hb dX0_in_27 (by decide) ?_
  refine ux_newaI (n := 4) (N' := 4) hx hb (hw (tw_g_in (i := 94) (by decide +kernel))) hK 0 rfl hP hD hS hA (by decide) (by decide) (by decide) (by decide) (by decide) dX0_in_28 (fun q3 H hP hD hS => ?_)
  have hP : va_P D vwCl [(h0, .inr (0, [.ref q0, .ref q1, .ref q2, .null, .null, .int 0, .int 0, .int 0, .int 0])), (q0, .inl (y 0, (4, .inl (fun _ => 0)))), (q1, .inl (y 0, (24, .inl (fun _ => 0)))), (q2, .inl (y 0, (5, .inl (fun _ => 0)))), (q3, .inl (y 0, (4, .inl (fun _ => 0))))] H := hP
  have hD : va_D A [(h0, .inr (0, [.ref q0, .ref q1, .ref q2, .null, .null, .int 0, .int 0, .int 0, .int 0])), (q0, .inl (y 0, (4, .inl (fun _ => 0)))), (q1, .inl (y 0, (24, .inl (fun _ => 0)))), (q2, .inl (y 0, (5, .inl (fun _ => 0)))), (q3, .inl (y 0, (4, .inl (fun _ => 0))))] := hD
  refine W.widen (k := 4) (n := 37) (by decide) (by decide) ?_
  refine va_putF (D := D) (ci := 0) (v := .ref q3) (C := RX0) (T := TX0) (N := 9) hx hb (Ts := tw_big) (fun _ h => hw h) tw_cl_w0 tyX0 tyX0_ok nmX0 hown hK hP hD hS 0 rfl rfl 3 (by decide) (hw (tw_g_in (i := 107) (by decide +kernel))) (fun _ h9 => h9) rfl hin rfl (tyX0_ok 3 (by decide)) rfl rfl (Nat.le_of_ble_eq_true rfl) dX0_in_30 (fun H locs hP hD hS => ?_)
  have hP : va_P D vwCl [(h0, .inr (0, [.ref q0, .ref q1, .ref q2, .ref q3, .null, .int 0, .int 0, .int 0, .int 0])), (q0, .inl (y 0, (4, .inl (fun _ => 0)))), (q1, .inl (y 0, (24, .inl (fun _ => 0)))), (q2, .inl (y 0, (5, .inl (fun _ => 0)))), (q3, .inl (y 0, (4, .inl (fun _ => 0))))] H := hP
  have hD : va_D A [(h0, .inr (0, [.ref q0, .ref q1, .ref q2, .ref q3, .null, .int 0, .int 0, .int 0, .int 0])), (q0, .inl (y 0, (4, .inl (fun _ => 0)))), (q1, .inl (y 0, (24, .inl (fun _ => 0)))), (q2, .inl (y 0, (5, .inl (fun _ => 0)))), (q3, .inl (y 0, (4, .inl (fun _ => 0))))] := hD
  refine lv_aload_n hx hb dX0_in_33 rfl (lv_at hl 0 rfl) ?_
  refine lv_iconst (v := 4) hx hb dX0_in_34 (by decide) ?_
  refine ux_newaI (n := 4) (N' := 4) hx hb (hw (tw_g_in (i := 94) (by decide +kernel))) hK 0 rfl hP hD hS hA (by decide) (by decide) (by decide) (by decide) (by decide) dX0_in_35 (fun q4 H hP hD hS => ?_)
  have hP : va_P D vwCl [(h0, .inr (0, [.ref q0, .ref q1, .ref q2, .ref q3, .null, .int 0, .int 0, .int 0, .int 0])), (q0, .inl (y 0, (4, .inl (fun _ => 0)))), (q1, .inl (y 0, (24, .inl (fun _ => 0)))), (q2, .inl (y 0, (5, .inl (fun _ => 0)))), (q3, .inl (y 0, (4, .inl (fun _ => 0)))), (q4, .inl (y 0, (4, .inl (fun _ => 0))))] H := hP
  have hD : va_D A [(h0, .inr (0, [.ref q0, .ref q1, .ref q2, .ref q3, .null, .int 0, .int 0, .int 0, .int 0])), (q0, .inl (y 0, (4, .inl (fun _ => 0)))), (q1, .inl (y 0, (24, .inl (fun _ => 0)))), (q2, .inl (y 0, (5, .inl (fun _ => 0)))), (q3, .inl (y 0, (4, .inl (fun _ => 0)))), (q4, .inl (y 0, (4, .inl (fun _ => 0))))] := hD
  refine W.widen (k := 5) (n := 41) (by decide) (by decide) ?_
  refine va_putF (D := D) (ci := 0) (v := .ref q4) (C := RX0) (T := TX0) (N := 9) hx hb (Ts := tw_big) (fun _ h => hw h) tw_cl_w0 tyX0 tyX0_ok nmX0 hown hK hP hD hS 0 rfl rfl 4 (by decide) (hw (tw_g_in (i := 109) (by decide +kernel))) (fun _ h9 => h9) rfl hin rfl (tyX0_ok 4 (by decide)) rfl rfl (Nat.le_of_ble_eq_true rfl) dX0_in_37 (fun H locs hP hD hS => ?_)
  have hP : va_P D vwCl [(h0, .inr (0, [.ref q0, .ref q1, .ref q2, .ref q3, .ref q4, .int 0, .int 0, .int 0, .int 0])), (q0, .inl (y 0, (4, .inl (fun _ => 0)))), (q1, .inl (y 0, (24, .inl (fun _ => 0)))), (q2, .inl (y 0, (5, .inl (fun _ => 0)))), (q3, .inl (y 0, (4, .inl (fun _ => 0)))), (q4, .inl (y 0, (4, .inl (fun _ => 0))))] H := hP
  have hD : va_D A [(h0, .inr (0, [.ref q0, .ref q1, .ref q2, .ref q3, .ref q4, .int 0, .int 0, .int 0, .int 0])), (q0, .inl (y 0, (4, .inl (fun _ => 0)))), (q1, .inl (y 0, (24, .inl (fun _ => 0)))), (q2, .inl (y 0, (5, .inl (fun _ => 0)))), (q3, .inl (y 0, (4, .inl (fun _ => 0)))), (q4, .inl (y 0, (4, .inl (fun _ => 0))))] := hD
  refine lv_aload_n hx hb dX0_in_40 rfl (lv_at hl 0 rfl) ?_
  refine lv_iconst (v := 0) hx hb dX0_in_41 (by decide) ?_
  refine va_put (D := D) (ci := 0) (v := .int 0) (C := RX0) (T := TX0) (N := 9) hx hb (Ts := tw_big) (fun _ h => hw h) tw_cl_w0 tyX0 tyX0_ok nmX0 hown hK hP hD hS 0 rfl rfl 5 (by decide) (hw (tw_g_in (i := 111) (by decide +kernel))) (fun _ h9 => h9) rfl (tyX0_ok 5 (by decide)) rfl rfl (Nat.le_of_ble_eq_true rfl) dX0_in_42 (fun H locs hP hD hS => ?_)
  have hP : va_P D vwCl [(h0, .inr (0, [.ref q0, .ref q1, .ref q2, .ref q3, .ref q4, .int 0, .int 0, .int 0, .int 0])), (q0, .inl (y 0, (4, .inl (fun _ => 0)))), (q1, .inl (y 0, (24, .inl (fun _ => 0)))), (q2, .inl (y 0, (5, .inl (fun _ => 0)))), (q3, .inl (y 0, (4, .inl (fun _ => 0)))), (q4, .inl (y 0, (4, .inl (fun _ => 0))))] H := hP
  have hD : va_D A [(h0, .inr (0, [.ref q0, .ref q1, .ref q2, .ref q3, .ref q4, .int 0, .int 0, .int 0, .int 0])), (q0, .inl (y 0, (4, .inl (fun _ => 0)))), (q1, .inl (y 0, (24, .inl (fun _ => 0)))), (q2, .inl (y 0, (5, .inl (fun _ => 0)))), (q3, .inl (y 0, (4, .inl (fun _ => 0)))), (q4, .inl (y 0, (4, .inl (fun _ => 0))))] := hD
  refine lv_aload_n hx hb dX0_in_45 rfl (lv_at hl 0 rfl) ?_
  refine lv_iconst (v := 0) hx hb dX0_in_46 (by decide) ?_
  refine va_put (D := D) (ci := 0) (v := .int 0) (C := RX0) (T := TX0) (N := 9) hx hb (Ts := tw_big) (fun _ h => hw h) tw_cl_w0 tyX0 tyX0_ok nmX0 hown hK hP hD hS 0 rfl rfl 6 (by decide) (hw (tw_g_in (i := 115) (by decide +kernel))) (fun _ h9 => h9) rfl (tyX0_ok 6 (by decide)) rfl rfl (Nat.le_of_ble_eq_true rfl) dX0_in_47 (fun H locs hP hD hS => ?_)
  have hP : va_P D vwCl [(h0, .inr (0, [.ref q0, .ref q1, .ref q2, .ref q3, .ref q4, .int 0, .int 0, .int 0, .int 0])), (q0, .inl (y 0, (4, .inl (fun _ => 0)))), (q1, .inl (y 0, (24, .inl (fun _ => 0)))), (q2, .inl (y 0, (5, .inl (fun _ => 0)))), (q3, .inl (y 0, (4, .inl (fun _ => 0)))), (q4, .inl (y 0, (4, .inl (fun _ => 0))))] H := hP
  have hD : va_D A [(h0, .inr (0, [.ref q0, .ref q1, .ref q2, .ref q3, .ref q4, .int 0, .int 0, .int 0, .int 0])), (q0, .inl (y 0, (4, .inl (fun _ => 0)))), (q1, .inl (y 0, (24, .inl (fun _ => 0)))), (q2, .inl (y 0, (5, .inl (fun _ => 0)))), (q3, .inl (y 0, (4, .inl (fun _ => 0)))), (q4, .inl (y 0, (4, .inl (fun _ => 0))))] := hD
  refine lv_aload_n hx hb dX0_in_50 rfl (lv_at hl 0 rfl) ?_
  refine lv_iconst (v := 0) hx hb dX0_in_51 (by decide) ?_
  refine va_put (D := D) (ci := 0) (v := .int 0) (C := RX0) (T := TX0) (N := 9) hx hb (Ts := tw_big) (fun _ h => hw h) tw_cl_w0 tyX0 tyX0_ok nmX0 hown hK hP hD hS 0 rfl rfl 7 (by decide) (hw (tw_g_in (i := 118) (by decide +kernel))) (fun _ h9 => h9) rfl (tyX0_ok 7 (by decide)) rfl rfl (Nat.le_of_ble_eq_true rfl) dX0_in_52 (fun H locs hP hD hS => ?_)
  have hP : va_P D vwCl [(h0, .inr (0, [.ref q0, .ref q1, .ref q2, .ref q3, .ref q4, .int 0, .int 0, .int 0, .int 0])), (q0, .inl (y 0, (4, .inl (fun _ => 0)))), (q1, .inl (y 0, (24, .inl (fun _ => 0)))), (q2, .inl (y 0, (5, .inl (fun _ => 0)))), (q3, .inl (y 0, (4, .inl (fun _ => 0)))), (q4, .inl (y 0, (4, .inl (fun _ => 0))))] H := hP
  have hD : va_D A [(h0, .inr (0, [.ref q0, .ref q1, .ref q2, .ref q3, .ref q4, .int 0, .int 0, .int 0, .int 0])), (q0, .inl (y 0, (4, .inl (fun _ => 0)))), (q1, .inl (y 0, (24, .inl (fun _ => 0)))), (q2, .inl (y 0, (5, .inl (fun _ => 0)))), (q3, .inl (y 0, (4, .inl (fun _ => 0)))), (q4, .inl (y 0, (4, .inl (fun _ => 0))))] := hD
  refine lv_aload_n hx hb dX0_in_55 rfl (lv_at hl 0 rfl) ?_
  refine lv_iconst (v := 0) hx hb dX0_in_56 (by decide) ?_
  refine va_put (D := D) (ci := 0) (v := .int 0) (C := RX0) (T := TX0) (N := 9) hx hb (Ts := tw_big) (fun _ h => hw h) tw_cl_w0 tyX0 tyX0_ok nmX0 hown hK hP hD hS 0 rfl rfl 8 (by decide) (hw (tw_g_in (i := 121) (by decide +kernel))) (fun _ h9 => h9) rfl (tyX0_ok 8 (by decide)) rfl rfl (Nat.le_of_ble_eq_true rfl) dX0_in_57 (fun H locs hP hD hS => ?_)
  have hP : va_P D vwCl [(h0, .inr (0, [.ref q0, .ref q1, .ref q2, .ref q3, .ref q4, .int 0, .int 0, .int 0, .int 0])), (q0, .inl (y 0, (4, .inl (fun _ => 0)))), (q1, .inl (y 0, (24, .inl (fun _ => 0)))), (q2, .inl (y 0, (5, .inl (fun _ => 0)))), (q3, .inl (y 0, (4, .inl (fun _ => 0)))), (q4, .inl (y 0, (4, .inl (fun _ => 0))))] H := hP
  have hD : va_D A [(h0, .inr (0, [.ref q0, .ref q1, .ref q2, .ref q3, .ref q4, .int 0, .int 0, .int 0, .int 0])), (q0, .inl (y 0, (4, .inl (fun _ => 0)))), (q1, .inl (y 0, (24, .inl (fun _ => 0)))), (q2, .inl (y 0, (5, .inl (fun _ => 0)))), (q3, .inl (y 0, (4, .inl (fun _ => 0)))), (q4, .inl (y 0, (4, .inl (fun _ => 0))))] := hD
  exact W.vret hx hb hr (fun t ht hW => ⟨⟨fun j => [q0, q1, q2, q3, q4].getD j 0, rfl, trivial, by rw [ht]; exact hP, by rw [hAe]; exact hD⟩, by rw [hAe]; exact hS.F ht⟩) hS.2.2 dX0_in_60
/-- what an object of class 1 is, new -/
def ux_w1 (y : Nat → ClassId) (h0 : Nat) (u : Nat → Nat) : va_W := [(h0, .inr (1, [.ref (u 0), .ref (u 1), .int 0])), ((u 0), .inl (y 0, (60, .inl (fun _ => 0)))), ((u 1), .inl (y 0, (60, .inl (fun _ => 0))))]
def ux_r1 : Room := { frames := 1, cells := 2, slots := 120, locals := 12 }
set_option maxHeartbeats 4000000 in
set_option maxRecDepth 100000 in
theorem ux_c1 (l : Launch) (y : Nat → ClassId) (D : va_G) (h0 sz : Nat) : Met l yX1_init wX1_init ux_r1 (ux_pre y D h0 [(h0, .inr (1, [.null, .null, .int 0]))] sz) (ux_post D [(h0, .inr (1, [.null, .null, .int 0]))] sz (ux_w1 y h0)) 2 120 (va_A [(h0, .inr (1, [.null, .null, .int 0]))] sz) := by
  refine Met.ofW (cc := cX1_init) (maxL := 1) (ret := none) (by decide) rfl ?_
  intro p e s m args below meth c s₁ B hml hv
  obtain ⟨rfl, hsz, hP, hQ, hD0⟩ := hv
  have hK := hQ.1
  have hx := B.exec
  have hb := B.bytes
  have hr := B.returns
  have hts := atoms_spec (ws := wX1_init) B.pre
  have hw : ∀ {w : Cond}, w ∈ tw_big → w.before #[Value.ref h0] s = true := fun h => hts _ (List.mem_cons_of_mem _ h)
  have hown : s.vm.findClass RX1 = some m.cls := findClass_of_methodNamed B.named
  have hlocks := B.notSynchronized
  have hin : meth.name = "<init>" := (name_of_methodNamed B.named B.method).1
  subst hsz
  have hD := hD0.self (sz := s.heap.size)
  generalize hAe : va_A [(h0, .inr (1, [.null, .null, .int 0]))] s.heap.size = A at hD ⊢
  have hA : ∀ q : Nat, s.heap.size ≤ q → A q := fun q h => by rw [← hAe]; exact Or.inr h
  have hS : va_S A s.heap s.heap [] := va_S.rf
  have hl := lv_entry ([.ref h0]) (n := 1) (Nat.le_of_ble_eq_true rfl)
  rw [lg_entry_eq]
  generalize (lg_sl ([.ref h0]) ++ List.replicate (1 - (lg_sl ([.ref h0])).length) Slot.unset).toArray = ls at hl ⊢
  have hl : lv_has ls 1 [(0, .ref h0)] := hl
  refine lv_aload_n hx hb dX1_in_0 rfl (lv_at hl 0 rfl) ?_
  refine W.objInit hx hb hown (hw (tw_g_in (i := 205) (by decide +kernel))) (hw (tw_g_in (i := 66) (by decide +kernel))) (hw (tw_g_in (i := 67) (by decide +kernel))) rfl (by rw [hml]; exact hl.1) rfl dX1_in_1 (Nat.le_of_ble_eq_true rfl) (Nat.le_of_ble_eq_true rfl) ?_
  refine W.eq (g2 := F0 m 4 ls []) rfl ?_
  refine lv_aload_n hx hb dX1_in_4 rfl (lv_at hl 0 rfl) ?_
  refine lv_bipush (v := 60) hx hb dX1_in_5 (by decide) ?_
  refine ux_newaI (n := 60) (N' := 60) hx hb (hw (tw_g_in (i := 94) (by decide +kernel))) hK 0 rfl hP hD hS hA (by decide) (by decide) (by decide) (by decide) (by decide) dX1_in_7 (fun q0 H hP hD hS => ?_)
  have hP : va_P D vwCl [(h0, .inr (1, [.null, .null, .int 0])), (q0, .inl (y 0, (60, .inl (fun _ => 0))))] H := hP
  have hD : va_D A [(h0, .inr (1, [.null, .null, .int 0])), (q0, .inl (y 0, (60, .inl (fun _ => 0))))] := hD
  refine W.widen (k := 1) (n := 60) (by decide) (by decide) ?_
  refine va_putF (D := D) (ci := 1) (v := .ref q0) (C := RX1) (T := TX1) (N := 3) hx hb (Ts := tw_big) (fun _ h => hw h) tw_cl_w1 tyX1 tyX1_ok nmX1 hown hK hP hD hS 0 rfl rfl 0 (by decide) (hw (tw_g_in (i := 206) (by decide +kernel))) (fun _ h9 => h9) rfl hin rfl (tyX1_ok 0 (by decide)) rfl rfl (Nat.le_of_ble_eq_true rfl) dX1_in_9 (fun H locs hP hD hS => ?_)
  have hP : va_P D vwCl [(h0, .inr (1, [.ref q0, .null, .int 0])), (q0, .inl (y 0, (60, .inl (fun _ => 0))))] H := hP
  have hD : va_D A [(h0, .inr (1, [.ref q0, .null, .int 0])), (q0, .inl (y 0, (60, .inl (fun _ => 0))))] := hD
  refine lv_aload_n hx hb dX1_in_12 rfl (lv_at hl 0 rfl) ?_
  refine lv_bipush (v := 60) hx hb dX1_in_13 (by decide) ?_
  refine ux_newaI (n := 60) (N' := 60) hx hb (hw (tw_g_in (i := 94) (by decide +kernel))) hK 0 rfl hP hD hS hA (by decide) (by decide) (by decide) (by decide) (by decide) dX1_in_15 (fun q1 H hP hD hS => ?_)
  have hP : va_P D vwCl [(h0, .inr (1, [.ref q0, .null, .int 0])), (q0, .inl (y 0, (60, .inl (fun _ => 0)))), (q1, .inl (y 0, (60, .inl (fun _ => 0))))] H := hP
  have hD : va_D A [(h0, .inr (1, [.ref q0, .null, .int 0])), (q0, .inl (y 0, (60, .inl (fun _ => 0)))), (q1, .inl (y 0, (60, .inl (fun _ => 0))))] := hD
  refine W.widen (k := 2) (n := 120) (by decide) (by decide) ?_
  refine va_putF (D := D) (ci := 1) (v := .ref q1) (C := RX1) (T := TX1) (N := 3) hx hb (Ts := tw_big) (fun _ h => hw h) tw_cl_w1 tyX1 tyX1_ok nmX1 hown hK hP hD hS 0 rfl rfl 1 (by decide) (hw (tw_g_in (i := 208) (by decide +kernel))) (fun _ h9 => h9) rfl hin rfl (tyX1_ok 1 (by decide)) rfl rfl (Nat.le_of_ble_eq_true rfl) dX1_in_17 (fun H locs hP hD hS => ?_)
  have hP : va_P D vwCl [(h0, .inr (1, [.ref q0, .ref q1, .int 0])), (q0, .inl (y 0, (60, .inl (fun _ => 0)))), (q1, .inl (y 0, (60, .inl (fun _ => 0))))] H := hP
  have hD : va_D A [(h0, .inr (1, [.ref q0, .ref q1, .int 0])), (q0, .inl (y 0, (60, .inl (fun _ => 0)))), (q1, .inl (y 0, (60, .inl (fun _ => 0))))] := hD
  refine lv_aload_n hx hb dX1_in_20 rfl (lv_at hl 0 rfl) ?_
  refine lv_iconst (v := 0) hx hb dX1_in_21 (by decide) ?_
  refine va_put (D := D) (ci := 1) (v := .int 0) (C := RX1) (T := TX1) (N := 3) hx hb (Ts := tw_big) (fun _ h => hw h) tw_cl_w1 tyX1 tyX1_ok nmX1 hown hK hP hD hS 0 rfl rfl 2 (by decide) (hw (tw_g_in (i := 210) (by decide +kernel))) (fun _ h9 => h9) rfl (tyX1_ok 2 (by decide)) rfl rfl (Nat.le_of_ble_eq_true rfl) dX1_in_22 (fun H locs hP hD hS => ?_)
  have hP : va_P D vwCl [(h0, .inr (1, [.ref q0, .ref q1, .int 0])), (q0, .inl (y 0, (60, .inl (fun _ => 0)))), (q1, .inl (y 0, (60, .inl (fun _ => 0))))] H := hP
  have hD : va_D A [(h0, .inr (1, [.ref q0, .ref q1, .int 0])), (q0, .inl (y 0, (60, .inl (fun _ => 0)))), (q1, .inl (y 0, (60, .inl (fun _ => 0))))] := hD
  exact W.vret hx hb hr (fun t ht hW => ⟨⟨fun j => [q0, q1].getD j 0, rfl, trivial, by rw [ht]; exact hP, by rw [hAe]; exact hD⟩, by rw [hAe]; exact hS.F ht⟩) hS.2.2 dX1_in_25
/-- what an object of class 2 is, new -/
def ux_w2 (y : Nat → ClassId) (h0 : Nat) (u : Nat → Nat) : va_W := [(h0, .inr (2, [.ref (u 0), .ref (u 1), .int 0, .int 0, .int 0, .int 0, .int 0, .int 0])), ((u 0), .inl (y 0, (4, .inl (fun _ => 0)))), ((u 1), .inl (y 0, (4, .inl (fun _ => 0))))]
def ux_r2 : Room := { frames := 1, cells := 2, slots := 8, locals := 12 }
set_option maxHeartbeats 4000000 in
set_option maxRecDepth 100000 in
theorem ux_c2 (l : Launch) (y : Nat → ClassId) (D : va_G) (h0 sz : Nat) : Met l yX2_init wX2_init ux_r2 (ux_pre y D h0 [(h0, .inr (2, [.null, .null, .int 0, .int 0, .int 0, .int 0, .int 0, .int 0]))] sz) (ux_post D [(h0, .inr (2, [.null, .null, .int 0, .int 0, .int 0, .int 0, .int 0, .int 0]))] sz (ux_w2 y h0)) 2 8 (va_A [(h0, .inr (2, [.null, .null, .int 0, .int 0, .int 0, .int 0, .int 0, .int 0]))] sz) := by
  refine Met.ofW (cc := cX2_init) (maxL := 1) (ret := none) (by decide) rfl ?_
  intro p e s m args below meth c s₁ B hml hv
  obtain ⟨rfl, hsz, hP, hQ, hD0⟩ := hv
  have hK := hQ.1
  have hx := B.exec
  have hb := B.bytes
  have hr := B.returns
  have hts := atoms_spec (ws := wX2_init) B.pre
  have hw : ∀ {w : Cond}, w ∈ tw_big → w.before #[Value.ref h0] s = true := fun h => hts _ (List.mem_cons_of_mem _ h)
  have hown : s.vm.findClass RX2 = some m.cls := findClass_of_methodNamed B.named
  have hlocks := B.notSynchronized
  have hin : meth.name = "<init>" := (name_of_methodNamed B.named B.method).1
  subst hsz
  have hD := hD0.self (sz := s.heap.size)
  generalize hAe : va_A [(h0, .inr (2, [.null, .null, .int 0, .int 0, .int 0, .int 0, .int 0, .int 0]))] s.heap.size = A at hD ⊢
  have hA : ∀ q : Nat, s.heap.size ≤ q → A q := fun q h => by rw [← hAe]; exact Or.inr h
  have hS : va_S A s.heap s.heap [] := va_S.rf
  have hl := lv_entry ([.ref h0]) (n := 1) (Nat.le_of_ble_eq_true rfl)
  rw [lg_entry_eq]
  generalize (lg_sl ([.ref h0]) ++ List.replicate (1 - (lg_sl ([.ref h0])).length) Slot.unset).toArray = ls at hl ⊢
  have hl : lv_has ls 1 [(0, .ref h0)] := hl
  refine lv_aload_n hx hb dX2_in_0 rfl (lv_at hl 0 rfl) ?_
  refine W.objInit hx hb hown (hw (tw_g_in (i := 157) (by decide +kernel))) (hw (tw_g_in (i := 66) (by decide +kernel))) (hw (tw_g_in (i := 67) (by decide +kernel))) rfl (by rw [hml]; exact hl.1) rfl dX2_in_1 (Nat.le_of_ble_eq_true rfl) (Nat.le_of_ble_eq_true rfl) ?_
  refine W.eq (g2 := F0 m 4 ls []) rfl ?_
  refine lv_aload_n hx hb dX2_in_4 rfl (lv_at hl 0 rfl) ?_
  refine lv_iconst (v := 4) hx hb dX2_in_5 (by decide) ?_
  refine ux_newaI (n := 4) (N' := 4) hx hb (hw (tw_g_in (i := 94) (by decide +kernel))) hK 0 rfl hP hD hS hA (by decide) (by decide) (by decide) (by decide) (by decide) dX2_in_6 (fun q0 H hP hD hS => ?_)
  have hP : va_P D vwCl [(h0, .inr (2, [.null, .null, .int 0, .int 0, .int 0, .int 0, .int 0, .int 0])), (q0, .inl (y 0, (4, .inl (fun _ => 0))))] H := hP
  have hD : va_D A [(h0, .inr (2, [.null, .null, .int 0, .int 0, .int 0, .int 0, .int 0, .int 0])), (q0, .inl (y 0, (4, .inl (fun _ => 0))))] := hD
  refine W.widen (k := 1) (n := 4) (by decide) (by decide) ?_
  refine va_putF (D := D) (ci := 2) (v := .ref q0) (C := RX2) (T := TX2) (N := 8) hx hb (Ts := tw_big) (fun _ h => hw h) tw_cl_w2 tyX2 tyX2_ok nmX2 hown hK hP hD hS 0 rfl rfl 0 (by decide) (hw (tw_g_in (i := 158) (by decide +kernel))) (fun _ h9 => h9) rfl hin rfl (tyX2_ok 0 (by decide)) rfl rfl (Nat.le_of_ble_eq_true rfl) dX2_in_8 (fun H locs hP hD hS => ?_)
  have hP : va_P D vwCl [(h0, .inr (2, [.ref q0, .null, .int 0, .int 0, .int 0, .int 0, .int 0, .int 0])), (q0, .inl (y 0, (4, .inl (fun _ => 0))))] H := hP
  have hD : va_D A [(h0, .inr (2, [.ref q0, .null, .int 0, .int 0, .int 0, .int 0, .int 0, .int 0])), (q0, .inl (y 0, (4, .inl (fun _ => 0))))] := hD
  refine lv_aload_n hx hb dX2_in_11 rfl (lv_at hl 0 rfl) ?_
  refine lv_iconst (v := 4) hx hb dX2_in_12 (by decide) ?_
  refine ux_newaI (n := 4) (N' := 4) hx hb (hw (tw_g_in (i := 94) (by decide +kernel))) hK 0 rfl hP hD hS hA (by decide) (by decide) (by decide) (by decide) (by decide) dX2_in_13 (fun q1 H hP hD hS => ?_)
  have hP : va_P D vwCl [(h0, .inr (2, [.ref q0, .null, .int 0, .int 0, .int 0, .int 0, .int 0, .int 0])), (q0, .inl (y 0, (4, .inl (fun _ => 0)))), (q1, .inl (y 0, (4, .inl (fun _ => 0))))] H := hP
  have hD : va_D A [(h0, .inr (2, [.ref q0, .null, .int 0, .int 0, .int 0, .int 0, .int 0, .int 0])), (q0, .inl (y 0, (4, .inl (fun _ => 0)))), (q1, .inl (y 0, (4, .inl (fun _ => 0))))] := hD
  refine W.widen (k := 2) (n := 8) (by decide) (by decide) ?_
  refine va_putF (D := D) (ci := 2) (v := .ref q1) (C := RX2) (T := TX2) (N := 8) hx hb (Ts := tw_big) (fun _ h => hw h) tw_cl_w2 tyX2 tyX2_ok nmX2 hown hK hP hD hS 0 rfl rfl 1 (by decide) (hw (tw_g_in (i := 162) (by decide +kernel))) (fun _ h9 => h9) rfl hin rfl (tyX2_ok 1 (by decide)) rfl rfl (Nat.le_of_ble_eq_true rfl) dX2_in_15 (fun H locs hP hD hS => ?_)
  have hP : va_P D vwCl [(h0, .inr (2, [.ref q0, .ref q1, .int 0, .int 0, .int 0, .int 0, .int 0, .int 0])), (q0, .inl (y 0, (4, .inl (fun _ => 0)))), (q1, .inl (y 0, (4, .inl (fun _ => 0))))] H := hP
  have hD : va_D A [(h0, .inr (2, [.ref q0, .ref q1, .int 0, .int 0, .int 0, .int 0, .int 0, .int 0])), (q0, .inl (y 0, (4, .inl (fun _ => 0)))), (q1, .inl (y 0, (4, .inl (fun _ => 0))))] := hD
  refine lv_aload_n hx hb dX2_in_18 rfl (lv_at hl 0 rfl) ?_
  refine lv_iconst (v := 0) hx hb dX2_in_19 (by decide) ?_
  refine va_put (D := D) (ci := 2) (v := .int 0) (C := RX2) (T := TX2) (N := 8) hx hb (Ts := tw_big) (fun _ h => hw h) tw_cl_w2 tyX2 tyX2_ok nmX2 hown hK hP hD hS 0 rfl rfl 2 (by decide) (hw (tw_g_in (i := 165) (by decide +kernel))) (fun _ h9 => h9) rfl (tyX2_ok 2 (by decide)) rfl rfl (Nat.le_of_ble_eq_true rfl) dX2_in_20 (fun H locs hP hD hS => ?_)
  have hP : va_P D vwCl [(h0, .inr (2, [.ref q0, .ref q1, .int 0, .int 0, .int 0, .int 0, .int 0, .int 0])), (q0, .inl (y 0, (4, .inl (fun _ => 0)))), (q1, .inl (y 0, (4, .inl (fun _ => 0))))] H := hP
  have hD : va_D A [(h0, .inr (2, [.ref q0, .ref q1, .int 0, .int 0, .int 0, .int 0, .int 0, .int 0])), (q0, .inl (y 0, (4, .inl (fun _ => 0)))), (q1, .inl (y 0, (4, .inl (fun _ => 0))))] := hD
  refine lv_aload_n hx hb dX2_in_23 rfl (lv_at hl 0 rfl) ?_
  refine lv_iconst (v := 0) hx hb dX2_in_24 (by decide) ?_
  refine va_put (D := D) (ci := 2) (v := .int 0) (C := RX2) (T := TX2) (N := 8) hx hb (Ts := tw_big) (fun _ h => hw h) tw_cl_w2 tyX2 tyX2_ok nmX2 hown hK hP hD hS 0 rfl rfl 3 (by decide) (hw (tw_g_in (i := 169) (by decide +kernel))) (fun _ h9 => h9) rfl (tyX2_ok 3 (by decide)) rfl rfl (Nat.le_of_ble_eq_true rfl) dX2_in_25 (fun H locs hP hD hS => ?_)
  have hP : va_P D vwCl [(h0, .inr (2, [.ref q0, .ref q1, .int 0, .int 0, .int 0, .int 0, .int 0, .int 0])), (q0, .inl (y 0, (4, .inl (fun _ => 0)))), (q1, .inl (y 0, (4, .inl (fun _ => 0))))] H := hP
  have hD : va_D A [(h0, .inr (2, [.ref q0, .ref q1, .int 0, .int 0, .int 0, .int 0, .int 0, .int 0])), (q0, .inl (y 0, (4, .inl (fun _ => 0)))), (q1, .inl (y 0, (4, .inl (fun _ => 0))))] := hD
  refine lv_aload_n hx hb dX2_in_28 rfl (lv_at hl 0 rfl) ?_
  refine lv_iconst (v := 0) hx hb dX2_in_29 (by decide) ?_
  refine va_put (D := D) (ci := 2) (v := .int 0) (C := RX2) (T := TX2) (N := 8) hx hb (Ts := tw_big) (fun _ h => hw h) tw_cl_w2 tyX2 tyX2_ok nmX2 hown hK hP hD hS 0 rfl rfl 4 (by decide) (hw (tw_g_in (i := 172) (by decide +kernel))) (fun _ h9 => h9) rfl (tyX2_ok 4 (by decide)) rfl rfl (Nat.le_of_ble_eq_true rfl) dX2_in_30 (fun H locs hP hD hS => ?_)
  have hP : va_P D vwCl [(h0, .inr (2, [.ref q0, .ref q1, .int 0, .int 0, .int 0, .int 0, .int 0, .int 0])), (q0, .inl (y 0, (4, .inl (fun _ => 0)))), (q1, .inl (y 0, (4, .inl (fun _ => 0))))] H := hP
  have hD : va_D A [(h0, .inr (2, [.ref q0, .ref q1, .int 0, .int 0, .int 0, .int 0, .int 0, .int 0])), (q0, .inl (y 0, (4, .inl (fun _ => 0)))), (q1, .inl (y 0, (4, .inl (fun _ => 0))))] := hD
  refine lv_aload_n hx hb dX2_in_33 rfl (lv_at hl 0 rfl) ?_
  refine lv_iconst (v := 0) hx hb dX2_in_34 (by decide) ?_
  refine va_put (D := D) (ci := 2) (v := .int 0) (C := RX2) (T := TX2) (N := 8) hx hb (Ts := tw_big) (fun _ h => hw h) tw_cl_w2 tyX2 tyX2_ok nmX2 hown hK hP hD hS 0 rfl rfl 5 (by decide) (hw (tw_g_in (i := 175) (by decide +kernel))) (fun _ h9 => h9) rfl (tyX2_ok 5 (by decide)) rfl rfl (Nat.le_of_ble_eq_true rfl) dX2_in_35 (fun H locs hP hD hS => ?_)
  have hP : va_P D vwCl [(h0, .inr (2, [.ref q0, .ref q1, .int 0, .int 0, .int 0, .int 0, .int 0, .int 0])), (q0, .inl (y 0, (4, .inl (fun _ => 0)))), (q1, .inl (y 0, (4, .inl (fun _ => 0))))] H := hP
  have hD : va_D A [(h0, .inr (2, [.ref q0, .ref q1, .int 0, .int 0, .int 0, .int 0, .int 0, .int 0])), (q0, .inl (y 0, (4, .inl (fun _ => 0)))), (q1, .inl (y 0, (4, .inl (fun _ => 0))))] := hD
  refine lv_aload_n hx hb dX2_in_38 rfl (lv_at hl 0 rfl) ?_
  refine lv_iconst (v := 0) hx hb dX2_in_39 (by decide) ?_
  refine va_put (D := D) (ci := 2) (v := .int 0) (C := RX2) (T := TX2) (N := 8) hx hb (Ts := tw_big) (fun _ h => hw h) tw_cl_w2 tyX2 tyX2_ok nmX2 hown hK hP hD hS 0 rfl rfl 6 (by decide) (hw (tw_g_in (i := 178) (by decide +kernel))) (fun _ h9 => h9) rfl (tyX2_ok 6 (by decide)) rfl rfl (Nat.le_of_ble_eq_true rfl) dX2_in_40 (fun H locs hP hD hS => ?_)
  have hP : va_P D vwCl [(h0, .inr (2, [.ref q0, .ref q1, .int 0, .int 0, .int 0, .int 0, .int 0, .int 0])), (q0, .inl (y 0, (4, .inl (fun _ => 0)))), (q1, .inl (y 0, (4, .inl (fun _ => 0))))] H := hP
  have hD : va_D A [(h0, .inr (2, [.ref q0, .ref q1, .int 0, .int 0, .int 0, .int 0, .int 0, .int 0])), (q0, .inl (y 0, (4, .inl (fun _ => 0)))), (q1, .inl (y 0, (4, .inl (fun _ => 0))))] := hD
  refine lv_aload_n hx hb dX2_in_43 rfl (lv_at hl 0 rfl) ?_
  refine lv_iconst (v := 0) hx hb dX2_in_44 (by decide) ?_
  refine va_put (D := D) (ci := 2) (v := .int 0) (C := RX2) (T := TX2) (N := 8) hx hb (Ts := tw_big) (fun _ h => hw h) tw_cl_w2 tyX2 tyX2_ok nmX2 hown hK hP hD hS 0 rfl rfl 7 (by decide) (hw (tw_g_in (i := 181) (by decide +kernel))) (fun _ h9 => h9) rfl (tyX2_ok 7 (by decide)) rfl rfl (Nat.le_of_ble_eq_true rfl) dX2_in_45 (fun H locs hP hD hS => ?_)
  have hP : va_P D vwCl [(h0, .inr (2, [.ref q0, .ref q1, .int 0, .int 0, .int 0, .int 0, .int 0, .int 0])), (q0, .inl (y 0, (4, .inl (fun _ => 0)))), (q1, .inl (y 0, (4, .inl (fun _ => 0))))] H := hP
  have hD : va_D A [(h0, .inr (2, [.ref q0, .ref q1, .int 0, .int 0, .int 0, .int 0, .int 0, .int 0])), (q0, .inl (y 0, (4, .inl (fun _ => 0)))), (q1, .inl (y 0, (4, .inl (fun _ => 0))))] := hD
  exact W.vret hx hb hr (fun t ht hW => ⟨⟨fun j => [q0, q1].getD j 0, rfl, trivial, by rw [ht]; exact hP, by rw [hAe]; exact hD⟩, by rw [hAe]; exact hS.F ht⟩) hS.2.2 dX2_in_48
/-- what an object of class 4 is, new -/
def ux_w4 (y : Nat → ClassId) (h0 : Nat) (u : Nat → Nat) : va_W := [(h0, .inr (4, [.ref (u 0), .int 0, .int 0, .int 0, .int 0, .int 0])), ((u 0), .inl (y 0, (300, .inl (fun _ => 0))))]
def ux_r4 : Room := { frames := 1, cells := 1, slots := 300, locals := 12 }
set_option maxHeartbeats 4000000 in
set_option maxRecDepth 100000 in
theorem ux_c4 (l : Launch) (y : Nat → ClassId) (D : va_G) (h0 sz : Nat) : Met l yX4_init wX4_init ux_r4 (ux_pre y D h0 [(h0, .inr (4, [.null, .int 0, .int 0, .int 0, .int 0, .int 0]))] sz) (ux_post D [(h0, .inr (4, [.null, .int 0, .int 0, .int 0, .int 0, .int 0]))] sz (ux_w4 y h0)) 1 300 (va_A [(h0, .inr (4, [.null, .int 0, .int 0, .int 0, .int 0, .int 0]))] sz) := by
  refine Met.ofW (cc := cX4_init) (maxL := 1) (ret := none) (by decide) rfl ?_
  intro p e s m args below meth c s₁ B hml hv
  obtain ⟨rfl, hsz, hP, hQ, hD0⟩ := hv
  have hK := hQ.1
  have hx := B.exec
  have hb := B.bytes
  have hr := B.returns
  have hts := atoms_spec (ws := wX4_init) B.pre
  have hw : ∀ {w : Cond}, w ∈ tw_big → w.before #[Value.ref h0] s = true := fun h => hts _ (List.mem_cons_of_mem _ h)
  have hown : s.vm.findClass RX4 = some m.cls := findClass_of_methodNamed B.named
  have hlocks := B.notSynchronized
  have hin : meth.name = "<init>" := (name_of_methodNamed B.named B.method).1
  subst hsz
  have hD := hD0.self (sz := s.heap.size)
  generalize hAe : va_A [(h0, .inr (4, [.null, .int 0, .int 0, .int 0, .int 0, .int 0]))] s.heap.size = A at hD ⊢
  have hA : ∀ q : Nat, s.heap.size ≤ q → A q := fun q h => by rw [← hAe]; exact Or.inr h
  have hS : va_S A s.heap s.heap [] := va_S.rf
  have hl := lv_entry ([.ref h0]) (n := 1) (Nat.le_of_ble_eq_true rfl)
  rw [lg_entry_eq]
  generalize (lg_sl ([.ref h0]) ++ List.replicate (1 - (lg_sl ([.ref h0])).length) Slot.unset).toArray = ls at hl ⊢
  have hl : lv_has ls 1 [(0, .ref h0)] := hl
  refine lv_aload_n hx hb dX4_in_0 rfl (lv_at hl 0 rfl) ?_
  refine W.objInit hx hb hown (hw (tw_g_in (i := 73) (by decide +kernel))) (hw (tw_g_in (i := 66) (by decide +kernel))) (hw (tw_g_in (i := 67) (by decide +kernel))) rfl (by rw [hml]; exact hl.1) rfl dX4_in_1 (Nat.le_of_ble_eq_true rfl) (Nat.le_of_ble_eq_true rfl) ?_
  refine W.eq (g2 := F0 m 4 ls []) rfl ?_
  refine lv_aload_n hx hb dX4_in_4 rfl (lv_at hl 0 rfl) ?_
  refine lv_sipush (v := 300) hx hb dX4_in_5 (by decide) ?_
  refine ux_newaI (n := 300) (N' := 300) hx hb (hw (tw_g_in (i := 94) (by decide +kernel))) hK 0 rfl hP hD hS hA (by decide) (by decide) (by decide) (by decide) (by decide) dX4_in_8 (fun q0 H hP hD hS => ?_)
  have hP : va_P D vwCl [(h0, .inr (4, [.null, .int 0, .int 0, .int 0, .int 0, .int 0])), (q0, .inl (y 0, (300, .inl (fun _ => 0))))] H := hP
  have hD : va_D A [(h0, .inr (4, [.null, .int 0, .int 0, .int 0, .int 0, .int 0])), (q0, .inl (y 0, (300, .inl (fun _ => 0))))] := hD
  refine W.widen (k := 1) (n := 300) (by decide) (by decide) ?_
  refine va_putF (D := D) (ci := 4) (v := .ref q0) (C := RX4) (T := TX4) (N := 6) hx hb (Ts := tw_big) (fun _ h => hw h) tw_cl_w4 tyX4 tyX4_ok nmX4 hown hK hP hD hS 0 rfl rfl 0 (by decide) (hw (tw_g_in (i := 74) (by decide +kernel))) (fun _ h9 => h9) rfl hin rfl (tyX4_ok 0 (by decide)) rfl rfl (Nat.le_of_ble_eq_true rfl) dX4_in_10 (fun H locs hP hD hS => ?_)
  have hP : va_P D vwCl [(h0, .inr (4, [.ref q0, .int 0, .int 0, .int 0, .int 0, .int 0])), (q0, .inl (y 0, (300, .inl (fun _ => 0))))] H := hP
  have hD : va_D A [(h0, .inr (4, [.ref q0, .int 0, .int 0, .int 0, .int 0, .int 0])), (q0, .inl (y 0, (300, .inl (fun _ => 0))))] := hD
  refine lv_aload_n hx hb dX4_in_13 rfl (lv_at hl 0 rfl) ?_
  refine lv_iconst (v := 0) hx hb dX4_in_14 (by decide) ?_
  refine va_put (D := D) (ci := 4) (v := .int 0) (C := RX4) (T := TX4) (N := 6) hx hb (Ts := tw_big) (fun _ h => hw h) tw_cl_w4 tyX4 tyX4_ok nmX4 hown hK hP hD hS 0 rfl rfl 1 (by decide) (hw (tw_g_in (i := 75) (by decide +kernel))) (fun _ h9 => h9) rfl (tyX4_ok 1 (by decide)) rfl rfl (Nat.le_of_ble_eq_true rfl) dX4_in_15 (fun H locs hP hD hS => ?_)
  have hP : va_P D vwCl [(h0, .inr (4, [.ref q0, .int 0, .int 0, .int 0, .int 0, .int 0])), (q0, .inl (y 0, (300, .inl (fun _ => 0))))] H := hP
  have hD : va_D A [(h0, .inr (4, [.ref q0, .int 0, .int 0, .int 0, .int 0, .int 0])), (q0, .inl (y 0, (300, .inl (fun _ => 0))))] := hD
  refine lv_aload_n hx hb dX4_in_18 rfl (lv_at hl 0 rfl) ?_
  refine lv_iconst (v := 0) hx hb dX4_in_19 (by decide) ?_
  refine va_put (D := D) (ci := 4) (v := .int 0) (C := RX4) (T := TX4) (N := 6) hx hb (Ts := tw_big) (fun _ h => hw h) tw_cl_w4 tyX4 tyX4_ok nmX4 hown hK hP hD hS 0 rfl rfl 2 (by decide) (hw (tw_g_in (i := 77) (by decide +kernel))) (fun _ h9 => h9) rfl (tyX4_ok 2 (by decide)) rfl rfl (Nat.le_of_ble_eq_true rfl) dX4_in_20 (fun H locs hP hD hS => ?_)
  have hP : va_P D vwCl [(h0, .inr (4, [.ref q0, .int 0, .int 0, .int 0, .int 0, .int 0])), (q0, .inl (y 0, (300, .inl (fun _ => 0))))] H := hP
  have hD : va_D A [(h0, .inr (4, [.ref q0, .int 0, .int 0, .int 0, .int 0, .int 0])), (q0, .inl (y 0, (300, .inl (fun _ => 0))))] := hD
  refine lv_aload_n hx hb dX4_in_23 rfl (lv_at hl 0 rfl) ?_
  refine lv_iconst (v := 0) hx hb dX4_in_24 (by decide) ?_
  refine va_put (D := D) (ci := 4) (v := .int 0) (C := RX4) (T := TX4) (N := 6) hx hb (Ts := tw_big) (fun _ h => hw h) tw_cl_w4 tyX4 tyX4_ok nmX4 hown hK hP hD hS 0 rfl rfl 3 (by decide) (hw (tw_g_in (i := 78) (by decide +kernel))) (fun _ h9 => h9) rfl (tyX4_ok 3 (by decide)) rfl rfl (Nat.le_of_ble_eq_true rfl) dX4_in_25 (fun H locs hP hD hS => ?_)
  have hP : va_P D vwCl [(h0, .inr (4, [.ref q0, .int 0, .int 0, .int 0, .int 0, .int 0])), (q0, .inl (y 0, (300, .inl (fun _ => 0))))] H := hP
  have hD : va_D A [(h0, .inr (4, [.ref q0, .int 0, .int 0, .int 0, .int 0, .int 0])), (q0, .inl (y 0, (300, .inl (fun _ => 0))))] := hD
  refine lv_aload_n hx hb dX4_in_28 rfl (lv_at hl 0 rfl) ?_
  refine lv_iconst (v := 0) hx hb dX4_in_29 (by decide) ?_
  refine va_put (D := D) (ci := 4) (v := .int 0) (C := RX4) (T := TX4) (N := 6) hx hb (Ts := tw_big) (fun _ h => hw h) tw_cl_w4 tyX4 tyX4_ok nmX4 hown hK hP hD hS 0 rfl rfl 4 (by decide) (hw (tw_g_in (i := 79) (by decide +kernel))) (fun _ h9 => h9) rfl (tyX4_ok 4 (by decide)) rfl rfl (Nat.le_of_ble_eq_true rfl) dX4_in_30 (fun H locs hP hD hS => ?_)
  have hP : va_P D vwCl [(h0, .inr (4, [.ref q0, .int 0, .int 0, .int 0, .int 0, .int 0])), (q0, .inl (y 0, (300, .inl (fun _ => 0))))] H := hP
  have hD : va_D A [(h0, .inr (4, [.ref q0, .int 0, .int 0, .int 0, .int 0, .int 0])), (q0, .inl (y 0, (300, .inl (fun _ => 0))))] := hD
  refine lv_aload_n hx hb dX4_in_33 rfl (lv_at hl 0 rfl) ?_
  refine lv_iconst (v := 0) hx hb dX4_in_34 (by decide) ?_
  refine va_put (D := D) (ci := 4) (v := .int 0) (C := RX4) (T := TX4) (N := 6) hx hb (Ts := tw_big) (fun _ h => hw h) tw_cl_w4 tyX4 tyX4_ok nmX4 hown hK hP hD hS 0 rfl rfl 5 (by decide) (hw (tw_g_in (i := 80) (by decide +kernel))) (fun _ h9 => h9) rfl (tyX4_ok 5 (by decide)) rfl rfl (Nat.le_of_ble_eq_true rfl) dX4_in_35 (fun H locs hP hD hS => ?_)
  have hP : va_P D vwCl [(h0, .inr (4, [.ref q0, .int 0, .int 0, .int 0, .int 0, .int 0])), (q0, .inl (y 0, (300, .inl (fun _ => 0))))] H := hP
  have hD : va_D A [(h0, .inr (4, [.ref q0, .int 0, .int 0, .int 0, .int 0, .int 0])), (q0, .inl (y 0, (300, .inl (fun _ => 0))))] := hD
  exact W.vret hx hb hr (fun t ht hW => ⟨⟨fun j => [q0].getD j 0, rfl, trivial, by rw [ht]; exact hP, by rw [hAe]; exact hD⟩, by rw [hAe]; exact hS.F ht⟩) hS.2.2 dX4_in_38
