/-! what holds as the law begins -/
def uz_tm (i : Nat) : Term := Term.string "ThawWords$Text" (tw_stT.getD i (0, "")).1
def uz_fl : List Cond := flatC (Jvm.Cond.and given_1 narrow_1)
theorem uz_f1 : ∀ i, i < 6 → Cond.exactly (uz_tm i) "java/lang/String" ∈ uz_fl := by decide +kernel
theorem uz_f2 : ∀ i, i < 6 → Cond.eq (.field (uz_tm i) "java/lang/String" "coder" "B") (.int 0) ∈ uz_fl := by decide +kernel
theorem uz_f3 : ∀ i, i < 6 → Cond.arrayOf (.field (uz_tm i) "java/lang/String" "value" "[B") .byte ∈ uz_fl := by decide +kernel
theorem uz_f4 : ∀ i, i < 6 → Cond.eq (.length (.field (uz_tm i) "java/lang/String" "value" "[B")) (.int (Int32.ofNat (tw_lenT.getD i 0))) ∈ uz_fl := by decide +kernel
theorem uz_f5 : ∀ i, i < 6 → ∀ j, j < tw_lenT.getD i 0 → Cond.eq (.elem (.field (uz_tm i) "java/lang/String" "value" "[B") (.int (Int32.ofNat j))) (.int ((tw_bytT.getD i []).getD j 0)) ∈ uz_fl := by decide +kernel
theorem uz_f6 : ∀ i, i < 6 → ∀ j, j < 6 → i ≠ j → Cond.not (Cond.eq (uz_tm i) (uz_tm j)) ∈ uz_fl ∨ Cond.not (Cond.eq (uz_tm j) (uz_tm i)) ∈ uz_fl := by decide +kernel
theorem uz_f7 : ∀ i, i < 6 → tw_lenT.getD i 0 < 2 ^ 31 := by decide +kernel
theorem uz_f8 : ∀ i, i < 6 → Cond.stringRef "ThawWords$Text" (tw_stT.getD i (0, "")).1 (tw_stT.getD i (0, "")).2 ∈ lw_tbl := by decide +kernel
theorem uz_f9 : ∀ q, q ∈ tw_nest → Cond.methodLinkNest q.1 q.2.1 q.2.2 "ThawWords" ∈ lw_tbl := by decide +kernel
/-- the tables, the String constants, the statics -/
theorem uz_beg {s : State} {b : Nat} (hts : ∀ w ∈ lw_tbl, w.before #[Value.ref b] s = true) (hgv : (Jvm.Cond.and given_1 narrow_1).before #[Value.ref b] s = true) : ∃ (D : va_G) (y : Nat → ClassId) (aK aV : Nat → Nat) (fo : Value), ux_Q y D s ∧
    ∀ (A : Nat → Prop), (∀ a : Nat, a < s.heap.size → ¬ A a) → vk_S 6 tw_lenT tw_bytT aK aV A s s.heap ∧ va_Z "java/lang/String" "COMPACT_STRINGS" "Z" (.int 1) A s s.heap ∧ va_Z "jdk/internal/util/Preconditions" "SIOOBE_FORMATTER" "Ljava/util/function/BiFunction;" fo A s s.heap ∧ (fo = .null ∨ ∃ t, fo = .ref t) ∧ (∀ i, i < 6 → vk_R "ThawWords$Text" (tw_stT.getD i (0, "")).1 (tw_stT.getD i (0, "")).2 (aK i) s) := by
  have hs : ∀ c ∈ uz_fl, c.before #[Value.ref b] s = true := flat_of_before _ hgv
  have hbig : ∀ w ∈ tw_big, w.before #[Value.ref b] s = true := fun w h => hts w (List.mem_filter.mp h).1
  obtain ⟨c0, i0, k0⟩ := u_known (C := RX0) (T := TX0) (N := 9) (n := 9) hbig tw_cl_w0 (hbig _ (tw_g_in (i := 96) (by decide +kernel)))
  obtain ⟨c1, i1, k1⟩ := u_known (C := RX1) (T := TX1) (N := 3) (n := 3) hbig tw_cl_w1 (hbig _ (tw_g_in (i := 201) (by decide +kernel)))
  obtain ⟨c2, i2, k2⟩ := u_known (C := RX2) (T := TX2) (N := 8) (n := 8) hbig tw_cl_w2 (hbig _ (tw_g_in (i := 153) (by decide +kernel)))
  obtain ⟨c3, i3, k3⟩ := u_known (C := RX3) (T := TX3) (N := 7) (n := 7) hbig tw_cl_w3 (hbig _ (tw_g_in (i := 144) (by decide +kernel)))
  obtain ⟨c4, i4, k4⟩ := u_known (C := RX4) (T := TX4) (N := 6) (n := 6) hbig tw_cl_w4 (hbig _ (tw_g_in (i := 69) (by decide +kernel)))
  obtain ⟨c5, i5, k5⟩ := u_known (C := RX5) (T := TX5) (N := 7) (n := 7) hbig tw_cl_w5 (hbig _ (tw_g_in (i := 61) (by decide +kernel)))
  obtain ⟨c6, i6, k6⟩ := u_known (C := RX6) (T := TX6) (N := 25) (n := 25) hbig tw_cl_w6 (hbig _ (tw_g_in (i := 742) (by decide +kernel)))
  obtain ⟨dC, dI, hKc⟩ : ∃ (dC : Nat → ClassId) (dI : Nat → Nat → Nat), ∀ (k : Nat) (q : vw_C), vwCl[k]? = some q → u_Kn s q.1 q.2.1 q.2.2 (dC k) (dI k) := by
    refine ⟨fun k => match k with | 0 => c0 | 1 => c1 | 2 => c2 | 3 => c3 | 4 => c4 | 5 => c5 | _ => c6, fun k => match k with | 0 => i0 | 1 => i1 | 2 => i2 | 3 => i3 | 4 => i4 | 5 => i5 | _ => i6, ?_⟩
    intro k q hq
    match k, hq with
    | 0, hq => cases hq; exact k0
    | 1, hq => cases hq; exact k1
    | 2, hq => cases hq; exact k2
    | 3, hq => cases hq; exact k3
    | 4, hq => cases hq; exact k4
    | 5, hq => cases hq; exact k5
    | 6, hq => cases hq; exact k6
    | k + 7, hq => simp at hq
  have hArr : ∀ ty : FieldType, (∀ C, ty ≠ .object C) → (Cond.arrayClass ty).before #[Value.ref b] s = true → ∃ cA : ClassId, ArrOfT s cA ty ∧ va_RA s cA ty := by
    intro ty hn h
    obtain ⟨cA, kA, comp, f1, f2, f3⟩ := Cond.arrayClass_spec (args := #[Value.ref b]) (first := s) (o := none) (s := s) (idx := []) h
    refine ⟨cA, fun n z => ⟨fun k h => (by cases h), kA, f2, comp, f3⟩, ?_⟩
    cases ty with
    | object C => exact absurd rfl (hn C)
    | _ => exact f1
  have hArq : ∀ C : String, (Cond.arrayOver (.object C)).before #[Value.ref b] s = true → ∃ cA : ClassId, ArrOfT s cA (.object C) ∧ va_RA s cA (.object C) := by
    intro C h
    obtain ⟨comp, cA, kA, f1, f2, f3, f4, f5⟩ := Cond.arrayOver_spec (args := #[Value.ref b]) (first := s) (o := none) (s := s) (idx := []) h
    exact ⟨cA, fun n z => ⟨fun k h => (by cases h), kA, f3, comp, f4⟩, kA, comp, f3, f4, f1, f5⟩
  have hO2 : (Cond.arrayOver (.object RX2)).before #[Value.ref b] s = true := hts _ (List.mem_of_getElem? (i := 150) (by decide +kernel))
  have hO1 : (Cond.arrayOver (.object RX1)).before #[Value.ref b] s = true := hts _ (List.mem_of_getElem? (i := 152) (by decide +kernel))
  obtain ⟨y0, g0⟩ := hArr .int (fun C h => by cases h) (hts _ (List.mem_of_getElem? (i := 94) (by decide +kernel)))
  obtain ⟨y1, g1⟩ := hArr .boolean (fun C h => by cases h) (hts _ (List.mem_of_getElem? (i := 827) (by decide +kernel)))
  obtain ⟨y2, g2⟩ := hArq RX1 hO1
  obtain ⟨y3, g3⟩ := hArq RX2 hO2
  have hA0 : ∀ a : Nat, a < s.heap.size → ¬ (fun q : Nat => s.heap.size ≤ q) a := fun a h => Nat.not_le.mpr h
  obtain ⟨aK, aV, hSs, hev⟩ := vk_Sof (args := #[Value.ref b]) (s := s) (N := 6) (tm := uz_tm) (len := tw_lenT) (byt := tw_bytT) uz_f7 (fun i hi => hs _ (uz_f1 i hi)) (fun i hi => hs _ (uz_f2 i hi)) (fun i hi => hs _ (uz_f3 i hi)) (fun i hi => hs _ (uz_f4 i hi)) (fun i hi j hj => hs _ (uz_f5 i hi j hj)) (fun i j hi hj hij => by
    rcases uz_f6 i hi j hj hij with h | h
    · exact Or.inl (hs _ h)
    · exact Or.inr (hs _ h)) hA0
  have hZ1 : va_Z "java/lang/String" "COMPACT_STRINGS" "Z" (.int 1) (fun q : Nat => s.heap.size ≤ q) s s.heap := va_Zof (args := #[Value.ref b]) (hts _ (List.mem_of_getElem? (i := 328) (by decide +kernel))) (hts (.initialized "java/lang/String") (List.mem_of_getElem? (i := 56) (by decide +kernel))) (va_eqt (hs _ (by decide +kernel))) hA0
  have hZ2 : va_Zq "jdk/internal/util/Preconditions" "SIOOBE_FORMATTER" "Ljava/util/function/BiFunction;" (fun q : Nat => s.heap.size ≤ q) s s.heap := va_Zqof (args := #[Value.ref b]) (hts _ (List.mem_of_getElem? (i := 344) (by decide +kernel))) (hts (.initialized "jdk/internal/util/Preconditions") (List.mem_of_getElem? (i := 58) (by decide +kernel))) (hs _ (by decide +kernel)) hA0
  obtain ⟨fo, hfo, hZ3⟩ : ∃ fo : Value, (fo = .null ∨ ∃ t, fo = .ref t) ∧ va_Z "jdk/internal/util/Preconditions" "SIOOBE_FORMATTER" "Ljava/util/function/BiFunction;" fo (fun q : Nat => s.heap.size ≤ q) s s.heap := by
    rcases hZ2 with h | ⟨t, h⟩
    · exact ⟨.null, Or.inl rfl, h⟩
    · exact ⟨.ref t, Or.inr ⟨t, rfl⟩, h⟩
  refine ⟨(dC, dI), fun k => match k with | 0 => y0 | 1 => y1 | 2 => y2 | _ => y3, aK, aV, fo, ⟨⟨hKc, ?_⟩, va_AO.of hO2, va_AO.of hO1, fun q hq => va_Nw.of rfl (hts _ (uz_f9 q hq))⟩, fun A hA => ?_⟩
  · intro k q hk
    match k, hk with
    | 0, hk => cases hk; exact g0
    | 1, hk => cases hk; exact g1
    | 2, hk => cases hk; exact g2
    | 3, hk => cases hk; exact g3
    | k + 4, hk => simp [ux_ys] at hk
  · have hn : ∀ q, A q → s.heap.size ≤ q := fun q hq => Nat.not_lt.mp (fun z => hA q z hq)
    exact ⟨hSs.narrow hn, hZ1.narrow hn, hZ3.narrow hn, hfo, fun i hi => vk_R.of (hts _ (uz_f8 i hi)) (hev i hi)⟩
