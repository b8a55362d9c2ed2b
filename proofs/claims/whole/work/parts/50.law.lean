/-! the law: what stands fast at each of its calls -/
def R_law : String := "ThawWordsLaw"
def lw_P (b : Addr) (xs : List Int32) (args : Array Value) (s : State) : Prop := args = #[.ref b] ∧ s.IntsAt b xs ∧ xs.length ≤ 384 ∧ (Jvm.Cond.and given_1 narrow_1).before args s = true
def lw_Q (_ : Array Value) (s : State) (o : Outcome) (t : State) : Prop := o = .returned (some (.int 1)) ∧ Framed s o t [] 600000 7302250
def lw_Z (below : List Frame) (a : Array Value) (s : State) : State → Prop := fun t => ∃ o, t.status = .running ∧ Ended t below o ∧ lw_Q a s o t
/-- the law's own end, with 1 on the stack, nothing written that was there before, its room as the claim has it -/
theorem lw_ret {p : Program} {l : Launch} {e : Env} {s : State} {m : MethodId} {below : List Frame} {meth : Method} {c : Code} {b : Nat} (hx : p.tables.exec = Jvm.exec) (hb : c.code = code) (hr : meth.sig.returnType = ret) (hlocks : meth.locks = false) {pc : Nat} {H : Heap} {ls : Array Slot} (hdg : decode code pc = .ok (.ireturn, 1)) : W p l e room_1 s m #[Value.ref b] below meth c H [] 600000 7302250 (lw_Z below #[Value.ref b] s) (F0 m pc ls [.int 1]) := by
  intro T hT X
  obtain ⟨fs, hret, hrun, hended, hW, hframe⟩ := X.leave (v := some (.int 1)) (hlocks := hlocks) (fun h => by rw [hr] at h; cases h)
  have hmeth' : T.vm.method? m = some meth := X.method'
  refine ⟨T.setFrames fs, ?_, .returned (some (.int 1)), hrun, hended, rfl, ⟨_, rfl⟩, hW, hframe⟩
  jvm_step X.here [X.here.top, hx, hb, hdg, hmeth', hr, ret, narrow_b1]
  (try refine ⟨rfl, ?_⟩); (try refine ⟨rfl, ?_⟩)
  first | (intro acts; rw [hret _ acts rfl rfl rfl]) | rw [hret _ _ rfl rfl rfl]
  exact Steps.refl _
/-- what holds at the law's entry: the machine, the code, the tables' words (any of lw_tbl by 'hts w (by decide +kernel)'), the script of L ints xs at the cell b, what the Statement gives of the start (any of its parts by flat_of_before) -/
def lw_At (p : Program) (s : State) (m : MethodId) (meth : Method) (c : Code) (b L : Nat) (xs : Nat → Int32) : Prop :=
  p.tables.exec = Jvm.exec ∧ c.code = code ∧ meth.sig.returnType = ret ∧ c.maxLocals = 4 ∧ s.vm.findClass R_law = some m.cls ∧ (∀ w ∈ lw_tbl, w.before #[Value.ref b] s = true) ∧ va_X b L xs s s.heap ∧ b < s.heap.size ∧ meth.locks = false ∧ (Jvm.Cond.and given_1 narrow_1).before #[Value.ref b] s = true

theorem uz_ty {i : Nat} (hi : i < tw_tab.length) : ∀ (n pc : Nat) (L : tw_L) (st : List tw_V) (μ : tw_M) (r : tw_V) (μ' : tw_M), tw_ev n i pc L st μ = some (some r, μ') → (tw_re i = some .int ∨ tw_re i = some .boolean → ∃ x, r = tw_I x) ∧ (tw_re i = some .long → ∃ x, r = tw_J x) := by
  intro n
  induction n with
  | zero => intro pc L st μ r μ' h; cases h
  | succ n ih =>
    intro pc L st μ r μ' h
    rw [tw_ev] at h
    unfold tw_st at h
    cases ho : tw_op (tw_cd i) pc with
    | none => rw [ho] at h; cases h
    | some o =>
      rw [ho] at h
      dsimp only at h
      cases hx : tw_ex o pc L st μ with
      | none => rw [hx] at h; cases h
      | some out =>
        rw [hx] at h
        rcases out with ⟨q, L', st', μ1⟩ | r1 | ⟨j, as, r1, q⟩
        · exact ih _ _ _ _ _ _ h
        · cases h
          have hk := tw_all_ok hi ho
          have hr := uz_ret hx
          obtain ⟨a, w, b, c, d, e, f, g⟩ := o
          rcases hr with ⟨rfl | rfl, x, e1⟩ | ⟨rfl, x, e1⟩ | rfl | rfl
          · have hk2 : (decide (w = 1) && decide (tw_re i = some .int) && decide (decode (tw_by i) pc = .ok (.ireturn, w))) = true := hk
            simp only [Bool.and_eq_true, decide_eq_true_eq] at hk2
            exact ⟨fun _ => ⟨x, Option.some.inj e1⟩, fun z => by rw [hk2.1.2] at z; cases z⟩
          · have hk2 : (decide (w = 1) && decide (tw_re i = some (tw_ty b)) && decide (decode (tw_by i) pc = .ok (.ireturn, w))) = true := hk
            simp only [Bool.and_eq_true, decide_eq_true_eq] at hk2
            refine ⟨fun _ => ⟨x, Option.some.inj e1⟩, fun z => ?_⟩
            rw [hk2.1.2] at z
            have z2 : tw_ty b = .long := Option.some.inj z
            unfold tw_ty at z2
            split at z2 <;> cases z2
          · have hk2 : (decide (w = 1) && decide (tw_re i = some .long) && decide (decode (tw_by i) pc = .ok (.lreturn, w))) = true := hk
            simp only [Bool.and_eq_true, decide_eq_true_eq] at hk2
            exact ⟨fun z => (by rw [hk2.1.2] at z; rcases z with z | z <;> cases z), fun _ => ⟨x, Option.some.inj e1⟩⟩
          · have hk2 : (decide (w = 1) && (match tw_re i with
              | some (.object _) => true
              | some (.array _) => true
              | _ => false) && decide (decode (tw_by i) pc = .ok (.areturn, w))) = true := hk
            simp only [Bool.and_eq_true, decide_eq_true_eq] at hk2
            refine ⟨fun z => ?_, fun z => ?_⟩
            · rcases z with z | z
              · rw [z] at hk2; exact absurd hk2.1.2 (by decide)
              · rw [z] at hk2; exact absurd hk2.1.2 (by decide)
            · rw [z] at hk2; exact absurd hk2.1.2 (by decide)
          · have hk2 : (decide (w = 1) && decide (tw_re i = none) && decide (decode (tw_by i) pc = .ok (.return_, w))) = true := hk
            simp only [Bool.and_eq_true, decide_eq_true_eq] at hk2
            exact ⟨fun z => (by rw [hk2.1.2] at z; rcases z with z | z <;> cases z), fun z => by rw [hk2.1.2] at z; cases z⟩
        · dsimp only at h
          cases hc : tw_ev n j 0 (tw_en (tw_ml j) as) [] μ with
          | none => rw [hc] at h; cases h
          | some y =>
            rw [hc] at h
            exact ih _ _ _ _ _ _ h
theorem uz_tyI {i : Nat} {as : List tw_V} {μ μ' : tw_M} {r : tw_V} (hi : i < tw_tab.length) (hr : tw_re i = some .int ∨ tw_re i = some .boolean) (h : tw_call i as μ = some (some r, μ')) : ∃ x, r = tw_I x := by
  obtain ⟨n, hev⟩ := tw_run_iff.mp h
  exact (uz_ty hi n _ _ _ _ _ _ hev).1 hr
theorem uz_tyJ {i : Nat} {as : List tw_V} {μ μ' : tw_M} {r : tw_V} (hi : i < tw_tab.length) (hr : tw_re i = some .long) (h : tw_call i as μ = some (some r, μ')) : ∃ x, r = tw_J x := by
  obtain ⟨n, hev⟩ := tw_run_iff.mp h
  exact (uz_ty hi n _ _ _ _ _ _ hev).2 hr
/-- what stands fast while the law runs -/
def uz_Cx (gc gm : tw_E) (p : Program) (s : State) (m : MethodId) (c : Code) (b L : Nat) (xs : Nat → Int32) : Prop :=
  p.tables.exec = Jvm.exec ∧ c.code = code ∧ c.maxLocals = 4 ∧ s.vm.findClass R_law = some m.cls ∧ (∀ w ∈ lw_tbl, w.before #[Value.ref b] s = true) ∧ va_X b L xs s s.heap ∧ b < s.heap.size ∧
  (tw_sh gc ∧ tw_ap gc ∧ tw_F gc s s.heap ∧ (5, 0) ∈ tw_vs gc ∧ ∀ q, tw_A gc q → s.heap.size ≤ q) ∧ (tw_sh gm ∧ tw_ap gm ∧ tw_F gm s s.heap ∧ (6, 0) ∈ tw_vs gm ∧ ∀ q, tw_A gm q → s.heap.size ≤ q) ∧ (∀ q, tw_A gc q → ¬ tw_A gm q)
def uz_St (gc gm : tw_E) (s : State) (μ ν : tw_M) (H : Heap) (locs : List Loc) : Prop := va_P (tw_D gc) vwCl (tw_ws gc μ) H ∧ va_P (tw_D gm) vwCl (tw_ws gm ν) H ∧ va_S (fun q : Nat => s.heap.size ≤ q) s.heap H locs
def uz_Lo (gc gm : tw_E) (b i : Nat) (ls : Array Slot) : Prop := lv_has ls 4 [(3, .int (nI i)), (2, .ref (tw_ad gm 6 0)), (1, .ref (tw_ad gc 5 0)), (0, .ref b)]
/-- a call of the law: method, entry of its pool, words, arguments, kind -/
def uz_ck (j a na k0 i1 i2 i3 i4 i5 : Nat) : Bool :=
  decide (j < tw_tab.length) && decide ((tw_cl k0).1 = (tw_nm j).cls) && decide (k0 < 7) && tw_g i1 (.methodLink R_law a (tw_nm j)) && tw_g i2 (.instanceMethod (tw_nm j)) && tw_g i3 (.selects (tw_nm j).cls (tw_nm j) (tw_nm j)) && tw_g i4 (.initialized (tw_nm j).cls) && tw_g i5 (.code (tw_nm j) (tw_by j) (tw_ml j) (tw_re j)) && tw_mh (tw_nm j) && tw_np (tw_nm j) na && decide (tw_fr j + 1 ≤ 11) && decide (8 + (tw_ml j + 11) + tw_lo j ≤ 388)
section
variable {gc gm g g2 : tw_E} {p : Program} {l : Launch} {e : Env} {s : State} {m : MethodId} {below : List Frame} {meth : Method} {c : Code} {b L i pc n1 n2 : Nat} {xs : Nat → Int32} {Qf : State → Prop} {μ ν μ' ν' : tw_M} {H : Heap} {locs : List Loc} {ls : Array Slot} {rest : List Value}
theorem uz_arg (C : uz_Cx gc gm p s m c b L xs) (S : uz_St gc gm s μ ν H locs) (hl : uz_Lo gc gm b i ls) {k : Int} {kn : Nat} (hk : Int32.ofInt k = nI kn) (hi : i + kn < L) (hL : L ≤ 384) (d0 : decode code pc = .ok (.aload_n 0, 1)) (d1 : decode code (pc + 1) = .ok (.iload_n 3, 1)) (d2 : decode code (pc + 1 + 1) = .ok (.iconst k, 1)) (d3 : decode code (pc + 1 + 1 + 1) = .ok (.iadd, 1)) (d4 : decode code (pc + 1 + 1 + 1 + 1) = .ok (.iaload, 1))
    (kk : W p l e room_1 s m #[Value.ref b] below meth c H locs n1 n2 Qf (F0 m (pc + 1 + 1 + 1 + 1 + 1) ls (.int (xs (i + kn)) :: rest))) : W p l e room_1 s m #[Value.ref b] below meth c H locs n1 n2 Qf (F0 m pc ls rest) := by
  obtain ⟨hx, hb, hml, hown, hts, hX, hbl, -⟩ := C
  refine lv_aload_n hx hb d0 rfl (lv_at hl 3 rfl) ?_
  refine lv_iload_n hx hb d1 rfl (lv_at hl 0 rfl) ?_
  refine lv_iconst (v := nI kn) hx hb d2 hk ?_
  refine lv_iadd hx hb d3 ?_
  rw [nI_add]
  refine va_sld hx hb hX hbl (Nat.not_le.mpr hbl) S.2.2 (vp_in_nI hi (by omega)) d4 ?_
  rw [nI_clamp (by omega)]
  exact kk
theorem uz_good {j : Nat} (h : Cond.code (tw_nm j) (tw_by j) (tw_ml j) (tw_re j) ∈ tw_big) : GoodIn lw_tbl (tw_wm j) := by
  intro w hw
  rcases List.mem_cons.mp hw with z | z
  · rw [z]; exact ⟨(List.mem_filter.mp h).1, tw_good h⟩
  · exact ⟨(List.mem_filter.mp z).1, tw_good z⟩
/-- a call on one of the two: its own cells change as the small machine says, the other's stay -/
theorem uz_call {j a na k0 i1 i2 i3 i4 i5 : Nat} {as : List tw_V} {r : tw_V} (hx : p.tables.exec = Jvm.exec) (hb : c.code = code) (hml : c.maxLocals = 4) (hown : s.vm.findClass R_law = some m.cls) (hts : ∀ w ∈ lw_tbl, w.before #[Value.ref b] s = true)
    (hsh : tw_sh g) (hap : tw_ap g) (hF : tw_F g s s.heap) (hin : (k0, 0) ∈ tw_vs g) (hA : ∀ q, tw_A g q → s.heap.size ≤ q) (hdis : ∀ q, tw_A g2 q → ¬ tw_A g q)
    (hck : uz_ck j a na k0 i1 i2 i3 i4 i5 = true) (hle : (tw_el (tw_R k0 0 :: as)).length ≤ tw_ml j) (hvd : ∀ v, v ∈ as → tw_vd g v) (hcall : tw_call j (tw_R k0 0 :: as) μ = some (some r, μ')) (hlen : as.length = na) (hdg : decode code pc = .ok (.invokevirtual a, 3)) (h8 : (rest.map fun v => v.category).sum ≤ 8)
    (hP : va_P (tw_D g) vwCl (tw_ws g μ) H) (hP2 : va_P (tw_D g2) vwCl (tw_ws g2 ν) H) (hS : va_S (fun q : Nat => s.heap.size ≤ q) s.heap H locs) (hsz : ls.size = 4) {st0 : List Value} (hst : st0 = (as.map (tw_rv g)).reverse ++ .ref (tw_ad g k0 0) :: rest) (h12 : n1 ≤ 600000 ∧ n2 ≤ 7302250)
    (kk : ∀ (H1 : Heap) (locs1 : List Loc), va_P (tw_D g) vwCl (tw_ws g μ') H1 → va_P (tw_D g2) vwCl (tw_ws g2 ν) H1 → va_S (fun q : Nat => s.heap.size ≤ q) s.heap H1 locs1 → W p l e room_1 s m #[Value.ref b] below meth c H1 locs1 n1 n2 Qf (F0 m (pc + 3) ls (tw_rv g r :: rest))) : W p l e room_1 s m #[Value.ref b] below meth c H locs n1 n2 Qf (F0 m pc ls st0) := by
  unfold uz_ck at hck
  simp only [Bool.and_eq_true, decide_eq_true_eq] at hck
  obtain ⟨⟨⟨⟨⟨⟨⟨⟨⟨⟨⟨hj, hcls⟩, h7⟩, w1⟩, w2⟩, w3⟩, w4⟩, w5⟩, hmh⟩, hnp⟩, hfr⟩, hlo⟩ := hck
  have hw : ∀ {w : Cond}, w ∈ tw_big → w.before #[Value.ref b] s = true := fun h => hts _ (List.mem_filter.mp h).1
  have w5' := tw_g_in w5
  unfold tw_mh at hmh
  rw [Bool.and_eq_true] at hmh
  have hM := tw_met (l := l) hsh hap hj hle hcall
  have hrv : tw_rv g (tw_R k0 0) = .ref (tw_ad g k0 0) := tw_rv_in hsh hin
  have hpre : PreV s H (tw_nm j).cls (tw_ad g k0 0) (tw_Pr g (tw_R k0 0 :: as) μ) (as.map (tw_rv g)) := by
    refine ⟨tw_blind, ?_, fun U hU hW => ?_⟩
    · obtain ⟨ix, -, hix⟩ := tw_ws_at (μ := μ) hin
      rw [tw_ent_o h7] at hix
      have := va_recv hF.1 hP (tw_cl_at h7) hix
      rw [← hcls]
      exact this
    · refine ⟨?_, ?_, by rw [hU]; exact hP, ?_⟩
      · rw [List.map_cons, hrv]
      · intro v hv
        rcases List.mem_cons.mp hv with z | z
        · rw [z]
          exact Or.inr (Or.inr (Or.inr hin))
        · exact hvd v z
      · rw [hU]
        exact tw_F.go hF hW (fun q h1 _ => hS.2.1 q h1 (Nat.not_le.mpr h1))
  have hcw : CallW room_1 s #[Value.ref b] R_law (tw_nm j).cls a (tw_nm j) (tw_by j) (tw_ml j) (tw_re j) (tw_wm j) (tw_rm j) 0 0 na :=
    ⟨callB_of na hts (uz_good w5') rfl rfl rfl (hw (tw_g_in w4)) (hw (tw_g_in w1)) ⟨of_decide_eq_true hmh.1, of_decide_eq_true hmh.2, of_decide_eq_true hnp⟩ ⟨hfr, hlo⟩, hw (tw_g_in w2), hw (tw_g_in w3)⟩
  have hrun := va_runV (l := l) (e := e) (below := below) (meth := meth) (locs := locs) (cells := n1) (slots := n2) (g := F0 m pc ls st0) (rest := rest) ⟨hx, hb, hml, hown, hts⟩ hM hcw hpre rfl (by rw [List.length_map]; exact hlen) (show ls.size = 4 from hsz) hst (lv_room h8) hdg ⟨h12.1, h12.2⟩
  intro T hT X
  obtain ⟨v, st₀, t, T', L', h0, X', hL, e1, e2, ⟨hv, hPn, ⟨hz, hk⟩, -⟩, st⟩ := hrun T hT X
  cases hv
  rw [h0] at hz hk
  have hP2' : va_P (tw_D g2) vwCl (tw_ws g2 ν) T'.heap := by
    rw [e1]
    refine hP2.kept (fun k q hq => hk q.1 (hP2 k q hq).lt (hdis q.1 ?_))
    unfold tw_ws at hq
    rw [List.getElem?_map] at hq
    cases hy : (tw_vs g2)[k]? with
    | none => rw [hy] at hq; cases hq
    | some y => rw [hy] at hq; cases hq; exact ⟨y, List.mem_of_getElem? hy, rfl⟩
  obtain ⟨t2, a1, b1⟩ := kk T'.heap (locs ++ L') (by rw [e1]; exact hPn) hP2' ⟨Nat.le_trans hS.1 (by rw [e1]; exact hz), fun q h1 h2 => by
      rw [e1, hk q (Nat.lt_of_lt_of_le h1 hS.1) (fun z => h2 (hA q z))]
      exact hS.2.1 q h1 h2, fun q hq => by
    rcases List.mem_append.mp hq with h | h
    · exact hS.2.2 q h
    · exact hA _ (hL q h)⟩ T' rfl X'
  exact ⟨t2, st t2 a1, b1⟩
theorem uz_cc {j a na i1 i2 i3 i4 i5 : Nat} {as : List tw_V} {r : tw_V} (C : uz_Cx gc gm p s m c b L xs) (S : uz_St gc gm s μ ν H locs) (hl : uz_Lo gc gm b i ls) (hck : uz_ck j a na 5 i1 i2 i3 i4 i5 = true) (hle : (tw_el (tw_R 5 0 :: as)).length ≤ tw_ml j) (hvd : ∀ v, v ∈ as → tw_vd gc v) (hcall : tw_call j (tw_R 5 0 :: as) μ = some (some r, μ')) (hlen : as.length = na) (hdg : decode code pc = .ok (.invokevirtual a, 3)) (h8 : (rest.map fun v => v.category).sum ≤ 8) {st0 : List Value} (hst : st0 = (as.map (tw_rv gc)).reverse ++ .ref (tw_ad gc 5 0) :: rest) (h12 : n1 ≤ 600000 ∧ n2 ≤ 7302250)
    (kk : ∀ (H1 : Heap) (locs1 : List Loc), uz_St gc gm s μ' ν H1 locs1 → W p l e room_1 s m #[Value.ref b] below meth c H1 locs1 n1 n2 Qf (F0 m (pc + 3) ls (tw_rv gc r :: rest))) : W p l e room_1 s m #[Value.ref b] below meth c H locs n1 n2 Qf (F0 m pc ls st0) := by
  obtain ⟨hx, hb, hml, hown, hts, hX, hbl, ⟨c1, c2, c3, c4, c5⟩, -, c6⟩ := C
  exact uz_call hx hb hml hown hts c1 c2 c3 c4 c5 (fun q h1 h2 => c6 q h2 h1) hck hle hvd hcall hlen hdg h8 S.1 S.2.1 S.2.2 hl.1 hst h12 (fun H1 locs1 h1 h2 h3 => kk H1 locs1 ⟨h1, h2, h3⟩)
theorem uz_cm {j a na i1 i2 i3 i4 i5 : Nat} {as : List tw_V} {r : tw_V} (C : uz_Cx gc gm p s m c b L xs) (S : uz_St gc gm s μ ν H locs) (hl : uz_Lo gc gm b i ls) (hck : uz_ck j a na 6 i1 i2 i3 i4 i5 = true) (hle : (tw_el (tw_R 6 0 :: as)).length ≤ tw_ml j) (hvd : ∀ v, v ∈ as → tw_vd gm v) (hcall : tw_call j (tw_R 6 0 :: as) ν = some (some r, ν')) (hlen : as.length = na) (hdg : decode code pc = .ok (.invokevirtual a, 3)) (h8 : (rest.map fun v => v.category).sum ≤ 8) {st0 : List Value} (hst : st0 = (as.map (tw_rv gm)).reverse ++ .ref (tw_ad gm 6 0) :: rest) (h12 : n1 ≤ 600000 ∧ n2 ≤ 7302250)
    (kk : ∀ (H1 : Heap) (locs1 : List Loc), uz_St gc gm s μ ν' H1 locs1 → W p l e room_1 s m #[Value.ref b] below meth c H1 locs1 n1 n2 Qf (F0 m (pc + 3) ls (tw_rv gm r :: rest))) : W p l e room_1 s m #[Value.ref b] below meth c H locs n1 n2 Qf (F0 m pc ls st0) := by
  obtain ⟨hx, hb, hml, hown, hts, hX, hbl, -, ⟨c1, c2, c3, c4, c5⟩, c6⟩ := C
  exact uz_call hx hb hml hown hts c1 c2 c3 c4 c5 c6 hck hle hvd hcall hlen hdg h8 S.2.1 S.1 S.2.2 hl.1 hst h12 (fun H1 locs1 h1 h2 h3 => kk H1 locs1 ⟨h2, h1, h3⟩)
end
