/-! the law from its entry; the claim -/
theorem uz_gc_fst {D : va_G} {y : Nat → ClassId} {aK aV : Nat → Nat} {fo : Value} {h0 : Nat} {q : Nat → Nat} {u : Nat → Nat → Nat} : (ux_w5 y h0 q u).map Prod.fst = (tw_ws (uz_gc D y aK aV fo h0 q u) uz_c0).map Prod.fst := by
  show _ = (uz_ws (uz_gc D y aK aV fo h0 q u) uz_c0 uz_vc).map Prod.fst
  unfold uz_vc ux_w5
  rw [uz_ws_app, uz_ws_app, uz_ws_app, uz_ws_app, uz_ws_app, uz_ws_app, uz_ws_app]
  simp only [List.map_append, uz_ws3_fst]
  rfl
theorem uz_goodc {w0 : Cond} (h : w0 ∈ tw_big) : GoodIn lw_tbl (w0 :: tw_big) := by
  intro w hw
  rcases List.mem_cons.mp hw with z | z
  · rw [z]; exact ⟨(List.mem_filter.mp h).1, tw_good h⟩
  · exact ⟨(List.mem_filter.mp z).1, tw_good z⟩
theorem uz_A {g : tw_E} {μ : tw_M} {q : Nat} (h : tw_A g q) : ∃ (k : Nat) (e : va_E), (tw_ws g μ)[k]? = some (q, e) := by
  obtain ⟨x, hx, rfl⟩ := h
  obtain ⟨k, -, h2⟩ := tw_ws_at (g := g) (μ := μ) (k := x.1) (n := x.2) hx
  exact ⟨k, _, h2⟩
theorem uz_left {A : Nat → Prop} {w w' : va_W} (h : va_D A (w ++ w')) : va_D A w := ⟨fun i j p q hi hj e => h.1 i j p q (by rw [List.getElem?_append_left (List.getElem?_eq_some_iff.mp hi).1]; exact hi) (by rw [List.getElem?_append_left (List.getElem?_eq_some_iff.mp hj).1]; exact hj) e, fun k q hk => h.2 k q (by rw [List.getElem?_append_left (List.getElem?_eq_some_iff.mp hk).1]; exact hk)⟩
theorem uz_at {w w' : va_W} {k : Nat} : (w ++ w')[w.length + k]? = w'[k]? := by
  rw [List.getElem?_append_right (by omega), show w.length + k - w.length = k by omega]
theorem uz_right {A : Nat → Prop} {w w' : va_W} (h : va_D A (w ++ w')) : va_D A w' := ⟨fun i j p q hi hj e => by
  have := h.1 (w.length + i) (w.length + j) p q (by rw [uz_at]; exact hi) (by rw [uz_at]; exact hj) e
  omega, fun k q hk => h.2 (w.length + k) q (by rw [uz_at]; exact hk)⟩
theorem uz_Pl {D : va_G} {w w' : va_W} {H : Heap} (h : va_P D vwCl (w ++ w') H) : va_P D vwCl w H := fun k q hk => h k q (by rw [List.getElem?_append_left (List.getElem?_eq_some_iff.mp hk).1]; exact hk)
theorem uz_Pr {D : va_G} {w w' : va_W} {H : Heap} (h : va_P D vwCl (w ++ w') H) : va_P D vwCl w' H := fun k q hk => h (w.length + k) q (by rw [uz_at]; exact hk)
set_option maxHeartbeats 4000000 in
set_option maxRecDepth 100000 in
/-- from the entry, for every script of at most 384 ints, the law comes to its end with true ('hflags': the launch's flags, for a law that throws: no stack traces) -/
theorem whole_start {p : Program} {e : Env} {s : State} {m : MethodId} {below : List Frame} {meth : Method} {c : Code} (l : Launch) (hflags : l.flags = flags0) {b L : Nat} {xs : Nat → Int32} (hL : L ≤ 384) (C0 : lw_At p s m meth c b L xs) : W p l e room_1 s m #[Value.ref b] below meth c s.heap [] 0 0 (lw_Z below #[Value.ref b] s) (entryFrame m ([Value.ref b] : List Value).toArray 4) := by
  obtain ⟨hx, hb, hr, hml, hown, hts, hX, hbl, hlocks, hgv⟩ := id C0
  obtain ⟨D, y, aK, aV, fo, hQ, hSt⟩ := uz_beg hts hgv
  have hK := hQ.1
  have hw : ∀ {w : Cond}, w ∈ tw_big → w.before #[Value.ref b] s = true := fun h => hts _ (List.mem_filter.mp h).1
  have hA : ∀ q : Nat, s.heap.size ≤ q → (fun q : Nat => s.heap.size ≤ q) q := fun _ h => h
  have hS : va_S (fun q : Nat => s.heap.size ≤ q) s.heap s.heap [] := va_S.rf
  have hP : va_P D vwCl [] s.heap := fun k q h => by simp at h
  have hD : va_D (fun q : Nat => s.heap.size ≤ q) [] := ⟨fun i j p q h => by simp at h, fun k q h => by simp at h⟩
  have hl := lv_entry ([.ref b]) (n := 4) (Nat.le_of_ble_eq_true rfl)
  rw [lg_entry_eq]
  generalize (lg_sl ([.ref b]) ++ List.replicate (4 - (lg_sl ([.ref b])).length) Slot.unset).toArray = ls at hl ⊢
  have hl : lv_has ls 4 [(0, .ref b)] := hl
  refine va_new (ci := 5) (fs := [.null, .null, .null, .null, .null, .null, .long 0]) (C := RX5) (T := TX5) (N := 7) hx hb (Ts := tw_big) (fun _ h => hw h) tw_cl_w5 tyX5 tyX5_ok hown (hw (tw_g_in (i := 60) (by decide +kernel))) (hw (tw_g_in (i := 61) (by decide +kernel))) (hw (tw_g_in (i := 48) (by decide +kernel))) hK hP hD hS hA rfl (fun j hj => match j, hj with | 0, _ => rfl | 1, _ => rfl | 2, _ => rfl | 3, _ => rfl | 4, _ => rfl | 5, _ => rfl | 6, _ => rfl | n + 7, h => absurd h (by omega)) (Nat.le_of_ble_eq_true rfl) (Nat.le_of_ble_eq_true rfl) dL_0 (fun q0 H hP hD hS => ?_)
  refine W.widen (k := 1) (n := 7) (Nat.le_of_ble_eq_true rfl) (Nat.le_of_ble_eq_true rfl) ?_
  have hP : va_P D vwCl [(q0, .inr (5, [.null, .null, .null, .null, .null, .null, .long 0]))] H := hP
  have hD : va_D (fun q : Nat => s.heap.size ≤ q) [(q0, .inr (5, [.null, .null, .null, .null, .null, .null, .long 0]))] := hD
  have hPc := hP.sub (ws' := [(q0, .inr (5, [.null, .null, .null, .null, .null, .null, .long 0]))]) [0] rfl
  have hDc := hD.sub (ws' := [(q0, .inr (5, [.null, .null, .null, .null, .null, .null, .long 0]))]) [0] (by decide) rfl
  have hFc := va_free (wc := [(q0, .inr (5, [.null, .null, .null, .null, .null, .null, .long 0]))]) hD hS hA [0] rfl
  refine lv_dup hx hb dL_3 rfl ?_
  refine va_callv (va_runI (As := []) (rest := [.ref q0]) ⟨hx, hb, hml, hown, hts⟩ (ux_c5 l y D q0 H.size) ⟨callB_of 0 hts (uz_goodc (tw_g_in (i := 64) (by decide +kernel))) rfl rfl rfl (hw (tw_g_in (i := 48) (by decide +kernel))) (hw (tw_g_in (i := 62) (by decide +kernel))) ⟨by decide, by decide, by decide +kernel⟩ ⟨Nat.le_of_ble_eq_true rfl, Nat.le_of_ble_eq_true rfl⟩, rfl, (hw (tw_g_in (i := 63) (by decide +kernel)))⟩ ⟨ux_blind, fun U hU hW => ⟨rfl, by rw [hU], by rw [hU]; exact hPc, hQ.warm hW, hDc.weaken (fun _ _ _ _ => trivial)⟩⟩ rfl rfl hl.1 rfl (lv_room (Nat.le_of_ble_eq_true rfl)) dL_4 ⟨Nat.le_of_ble_eq_true rfl, Nat.le_of_ble_eq_true rfl⟩) hS (fun q _ h => hFc q h) hFc (fun v5 t H1 locs ht hvm hw1 hB hz1 hk1 hS => ?_)
  obtain ⟨hP1, hD1⟩ := hB
  rw [ht] at hP1
  obtain ⟨hP, hD⟩ := va_join (wr := []) (w1 := ux_w5 y q0 (ux_q5 v5) (ux_u5 v5)) hP hD [0] [] rfl rfl (by decide) (by decide) hk1 hFc hP1 hD1
  refine W.widen (k := 135) (n := 2342) (Nat.le_of_ble_eq_true rfl) (Nat.le_of_ble_eq_true rfl) ?_
  refine lv_astore_n (lv' := [(1, .ref q0), (0, .ref b)]) hx hb dL_7 rfl hl (by decide) rfl (fun ls hl => ?_)
  refine va_new (ci := 6) (fs := [.int 0, .long 0, .null, .int 0, .int 0, .int 0, .int 0, .int 0, .int 0, .null, .null, .null, .null, .null, .int 0, .int 0, .int 0, .int 0, .int 0, .int 0, .int 0, .int 0, .null, .null, .null]) (C := RX6) (T := TX6) (N := 25) hx hb (Ts := tw_big) (fun _ h => hw h) tw_cl_w6 tyX6 tyX6_ok hown (hw (tw_g_in (i := 741) (by decide +kernel))) (hw (tw_g_in (i := 742) (by decide +kernel))) (hw (tw_g_in (i := 54) (by decide +kernel))) hK hP hD hS hA rfl (fun j hj => match j, hj with | 0, _ => rfl | 1, _ => rfl | 2, _ => rfl | 3, _ => rfl | 4, _ => rfl | 5, _ => rfl | 6, _ => rfl | 7, _ => rfl | 8, _ => rfl | 9, _ => rfl | 10, _ => rfl | 11, _ => rfl | 12, _ => rfl | 13, _ => rfl | 14, _ => rfl | 15, _ => rfl | 16, _ => rfl | 17, _ => rfl | 18, _ => rfl | 19, _ => rfl | 20, _ => rfl | 21, _ => rfl | 22, _ => rfl | 23, _ => rfl | 24, _ => rfl | n + 25, h => absurd h (by omega)) (Nat.le_of_ble_eq_true rfl) (Nat.le_of_ble_eq_true rfl) dL_8 (fun q1 H hP hD hS => ?_)
  refine W.widen (k := 136) (n := 2367) (Nat.le_of_ble_eq_true rfl) (Nat.le_of_ble_eq_true rfl) ?_
  have hP : va_P D vwCl ([(q1, .inr (6, [.int 0, .long 0, .null, .int 0, .int 0, .int 0, .int 0, .int 0, .int 0, .null, .null, .null, .null, .null, .int 0, .int 0, .int 0, .int 0, .int 0, .int 0, .int 0, .int 0, .null, .null, .null]))] ++ ux_w5 y q0 (ux_q5 v5) (ux_u5 v5)) H := va_P.swap (a := []) hP
  have hD : va_D (fun q : Nat => s.heap.size ≤ q) ([(q1, .inr (6, [.int 0, .long 0, .null, .int 0, .int 0, .int 0, .int 0, .int 0, .int 0, .null, .null, .null, .null, .null, .int 0, .int 0, .int 0, .int 0, .int 0, .int 0, .int 0, .int 0, .null, .null, .null]))] ++ ux_w5 y q0 (ux_q5 v5) (ux_u5 v5)) := va_D.swap (a := []) hD
  have hPc := hP.sub (ws' := [(q1, .inr (6, [.int 0, .long 0, .null, .int 0, .int 0, .int 0, .int 0, .int 0, .int 0, .null, .null, .null, .null, .null, .int 0, .int 0, .int 0, .int 0, .int 0, .int 0, .int 0, .int 0, .null, .null, .null]))]) [0] rfl
  have hDc := hD.sub (ws' := [(q1, .inr (6, [.int 0, .long 0, .null, .int 0, .int 0, .int 0, .int 0, .int 0, .int 0, .null, .null, .null, .null, .null, .int 0, .int 0, .int 0, .int 0, .int 0, .int 0, .int 0, .int 0, .null, .null, .null]))]) [0] (by decide) rfl
  have hFc := va_free (wc := [(q1, .inr (6, [.int 0, .long 0, .null, .int 0, .int 0, .int 0, .int 0, .int 0, .int 0, .null, .null, .null, .null, .null, .int 0, .int 0, .int 0, .int 0, .int 0, .int 0, .int 0, .int 0, .null, .null, .null]))]) hD hS hA [0] rfl
  refine lv_dup hx hb dL_11 rfl ?_
  refine va_callv (va_runI (As := []) (rest := [.ref q1]) ⟨hx, hb, hml, hown, hts⟩ (ux_c6 l y D q1 H.size) ⟨callB_of 0 hts (uz_goodc (tw_g_in (i := 745) (by decide +kernel))) rfl rfl rfl (hw (tw_g_in (i := 54) (by decide +kernel))) (hw (tw_g_in (i := 743) (by decide +kernel))) ⟨by decide, by decide, by decide +kernel⟩ ⟨Nat.le_of_ble_eq_true rfl, Nat.le_of_ble_eq_true rfl⟩, rfl, (hw (tw_g_in (i := 744) (by decide +kernel)))⟩ ⟨ux_blind, fun U hU hW => ⟨rfl, by rw [hU], by rw [hU]; exact hPc, hQ.warm hW, hDc.weaken (fun _ _ _ _ => trivial)⟩⟩ rfl rfl hl.1 rfl (lv_room (Nat.le_of_ble_eq_true rfl)) dL_12 ⟨Nat.le_of_ble_eq_true rfl, Nat.le_of_ble_eq_true rfl⟩) hS (fun q _ h => hFc q h) hFc (fun v6 t H1 locs ht hvm hw1 hB hz1 hk1 hS => ?_)
  obtain ⟨hP1, hD1⟩ := hB
  rw [ht] at hP1
  obtain ⟨hP, hD⟩ := va_joinQ (wr := []) (w1 := ux_w6 y q1 v6) hP hD [0] [] rfl rfl (by decide) (by decide) hk1 hFc hP1 hD1
  refine W.widen (k := 145) (n := 3840) (Nat.le_of_ble_eq_true rfl) (Nat.le_of_ble_eq_true rfl) ?_
  refine lv_astore_n (lv' := [(2, .ref q1), (1, .ref q0), (0, .ref b)]) hx hb dL_15 rfl hl (by decide) rfl (fun ls hl => ?_)
  refine lv_iconst (v := nI 0) hx hb dL_16 (by decide) ?_
  refine lv_istore_n (lv' := [(3, .int (nI 0)), (2, .ref q1), (1, .ref q0), (0, .ref b)]) hx hb dL_17 rfl hl (by decide) rfl (fun ls hl => ?_)
  obtain ⟨gc, hgc⟩ : ∃ gc : tw_E, gc = uz_gc D y aK aV fo q0 (ux_q5 v5) (ux_u5 v5) := ⟨_, rfl⟩
  obtain ⟨gm, hgm⟩ : ∃ gm : tw_E, gm = uz_gm D y aK aV fo q1 v6 := ⟨_, rfl⟩
  have hPm : va_P D vwCl (tw_ws gm uz_m0) H1 := by rw [hgm, uz_gm_ws]; exact uz_Pl hP
  have hPg : va_P D vwCl (tw_ws gc uz_c0) H1 := by rw [hgc]; exact uz_gc_P (uz_Pr hP)
  have hD2 : va_D (fun q : Nat => s.heap.size ≤ q) (tw_ws gm uz_m0 ++ tw_ws gc uz_c0) := by
    refine ux_D_of hD ?_
    rw [hgm, uz_gm_ws, hgc, List.map_append (l₂ := ux_w5 y q0 (ux_q5 v5) (ux_u5 v5)), uz_gc_fst (D := D) (aK := aK) (aV := aV) (fo := fo), List.map_append (l₁ := ux_w6 y q1 v6)]
    rfl
  have hDm := uz_left hD2
  have hDg := uz_right hD2
  have aG : ∀ q, tw_A gc q → s.heap.size ≤ q := fun q hq => by
    obtain ⟨k, e, h⟩ := uz_A (μ := uz_c0) hq
    exact hDg.2 k _ h
  have aM : ∀ q, tw_A gm q → s.heap.size ≤ q := fun q hq => by
    obtain ⟨k, e, h⟩ := uz_A (μ := uz_m0) hq
    exact hDm.2 k _ h
  have dis : ∀ q, tw_A gc q → ¬ tw_A gm q := by
    intro q h1 h2
    obtain ⟨k1, e1, g1⟩ := uz_A (μ := uz_c0) h1
    obtain ⟨k2, e2, g2⟩ := uz_A (μ := uz_m0) h2
    have hlt := (List.getElem?_eq_some_iff.mp g2).1
    have := hD2.1 k2 ((tw_ws gm uz_m0).length + k1) (q, e2) (q, e1) (by rw [List.getElem?_append_left hlt]; exact g2) (by rw [uz_at]; exact g1) rfl
    omega
  have fG : tw_F gc s s.heap := by
    obtain ⟨f1, f2, f3, f4, f5⟩ := hSt (tw_A gc) (fun a h1 h2 => absurd (aG a h2) (Nat.not_le.mpr h1))
    subst hgc
    exact ⟨hK, f1, f2, f3, f4, f5, hQ.2.2.2⟩
  have fM : tw_F gm s s.heap := by
    obtain ⟨f1, f2, f3, f4, f5⟩ := hSt (tw_A gm) (fun a h1 h2 => absurd (aM a h2) (Nat.not_le.mpr h1))
    subst hgm
    exact ⟨hK, f1, f2, f3, f4, f5, hQ.2.2.2⟩
  have C : uz_Cx gc gm p s m c b L xs := by
    refine ⟨hx, hb, hml, hown, hts, hX, hbl, ⟨by rw [hgc]; exact uz_gc_sh, uz_ap hDg, fG, ?_, aG⟩, ⟨by rw [hgm]; exact uz_gm_sh, uz_ap hDm, fM, ?_, aM⟩, dis⟩
    · rw [hgc]; exact List.mem_cons_self
    · rw [hgm]; exact List.mem_cons_self
  have hl2 : uz_Lo gc gm b 0 ls := by
    subst hgc
    subst hgm
    exact hl
  have S : uz_St gc gm s uz_c0 uz_m0 H1 locs := by
    refine ⟨?_, ?_, hS⟩
    · have e : tw_D gc = D := by rw [hgc]; rfl
      rw [e]; exact hPg
    · have e : tw_D gm = D := by rw [hgm]; rfl
      rw [e]; exact hPm
  exact uz_loop hr hlocks C hL ⟨Nat.le_of_ble_eq_true rfl, Nat.le_of_ble_eq_true rfl⟩ (L + 1) 0 (Nat.zero_le L) (by omega) uz_c0 uz_m0 H1 locs ls uz_Rl S hl2
set_option maxHeartbeats 4000000 in
theorem lw_walk (l : Launch) (hflags : l.flags = flags0) (b : Addr) (xs : List Int32) : MetFree l x (headSpec (Jvm.Cond.code x code maxLocals ret :: tables_1) room_1) (lw_P b xs) (fun _ _ _ _ _ => True) lw_Q := by
  refine MetFree.of_bodyS (code := code) (maxLocals := maxLocals) (ret := ret) (by decide) ?_ ?_
  · intro args s m h hn
    obtain ⟨meth, c, h1, h2, h3, h4, h5, h6, -, -⟩ := Cond.code_spec hn (atoms_spec (ws := Jvm.Cond.code x code maxLocals ret :: tables_1) h _ List.mem_cons_self)
    exact ⟨meth, c, h1, h2, h3, h4, h5, h6⟩
  · intro p e s m args below meth c s₁ B hml0 hP _
    obtain ⟨rfl, hx, hbd, hgv⟩ := hP
    obtain ⟨scr, harrAt, hlist, hof, hsmall⟩ := hx
    obtain ⟨hcb, hkn, -, -⟩ := State.arrayAt?_spec harrAt
    have hown : s.vm.findClass R_law = some m.cls := findClass_of_methodNamed B.named
    have hts0 : ∀ c ∈ (Jvm.Cond.code x code maxLocals ret :: tables_1), c.before #[Value.ref b] s = true := atoms_spec (ws := Jvm.Cond.code x code maxLocals ret :: tables_1) B.pre
    have hts : ∀ w ∈ lw_tbl, w.before #[Value.ref b] s = true := k2_hts_sels lw_privs (fun w hw => hts0 w (List.mem_cons_of_mem _ hw)) lw_privs_ok
    have hml : c.maxLocals = 4 := B.maxLocals_eq (hts0 _ List.mem_cons_self)
    have X₀ : Stand p l e room_1 s m #[Value.ref b] below meth c s₁ [] 0 0 := Stand.of_body B
    have hh0 : s₁.heap = s.heap := by rw [B.state]; rfl
    have hsz : scr.slots.size = xs.length := by rw [← Array.length_toList, hlist, List.length_map]
    have hval : ∀ j : Nat, j < xs.length → scr.slots[j]? = some (.int (xs.getD j 0)) := fun j hj => by
      rw [← Array.getElem?_toList, hlist]
      simp [hj]
    have hbl : b < s.heap.size := (Array.getElem?_eq_some_iff.mp hcb).1
    have hX : va_X b xs.length (fun j => xs.getD j 0) s s.heap := ⟨scr, hcb, hof, hkn, hsz, hval⟩
    have K : W p l e room_1 s m #[Value.ref b] below meth c s₁.heap [] 0 0 (lw_Z below #[Value.ref b] s) (entryFrame m ([Value.ref b] : List Value).toArray 4) := by
      rw [hh0]
      exact whole_start l hflags hbd ⟨B.exec, B.bytes, B.returns, hml, hown, hts, hX, hbl, B.notSynchronized, hgv⟩
    obtain ⟨t, a1, o, b1, b2, b3⟩ := K s₁ rfl X₀
    exact ⟨t, o, a1, b1, b2, b3⟩
theorem lw_pre_spec {args : Array Value} {s : State} (h : (Jvm.Cond.and given_1 narrow_1).before args s = true) (hr : rest_1_c.before args s = true) : ∃ (b : Addr) (xs : List Int32), lw_P b xs args s := by
  have hs := flat_of_before _ h
  have hq := flat_of_before _ hr
  have hc : (Cond.count 1).before args s = true := hs _ (by decide +kernel)
  have harr : (Cond.arrayOf (.arg 0) .int).before args s = true := hs _ (by decide +kernel)
  have hle : (Cond.le (.length (.arg 0)) (.int 384)).before args s = true := hs _ (by decide +kernel)
  have hlen : (Cond.isInt (.length (.arg 0))).before args s = true := hq _ (by decide +kernel)
  have hall : (Cond.all (.arg 0) (.isInt (.elem (.arg 0) (.index 0)))).before args s = true := hq _ (by decide +kernel)
  obtain ⟨b, xs, hb, hx⟩ := State.ints_of_pre rfl harr hlen hall
  have hsm : xs.length < 2 ^ 31 := hx.choose_spec.2.2.2
  have hev : (Term.length (.arg 0)).eval args s none [] s = some (.int xs.length.toInt32) := hx.length_eval hb
  have hv := Cond.le_ints hev (show (Term.int 384).eval args s none [] s = some (.int 384) from rfl)
  have hd : xs.length.toInt32 ≤ 384 := by
    simpa [Cond.before, Cond.holds, hv] using hle
  have hN : xs.length ≤ 384 := (Int32.ofNat_le_ofNat hsm (by decide)).mp (show Int32.ofNat xs.length ≤ Int32.ofNat 384 from hd)
  exact ⟨b, xs, Cond.one_arg hc (show args[0]? = some (.ref b) from hb), hx, hN, h⟩
theorem lw_comes (l : Launch) (hflags : l.flags = flags0) : Comes l x (Jvm.Cond.code x code maxLocals ret :: tables_1) room_1 (fun tb e args s => Calls_1 tb e args s ∧ rest_1 tb e args s ∧ Pre_1 tb e args s)
    (fun _ _ args s o t => lw_Q args s o t) := by
  intro p e ha hc hk s m args below hf hfit hheap happ hpre
  obtain ⟨b, xs, hP⟩ := lw_pre_spec hpre.2.2 hpre.2.1
  obtain ⟨k, o, h1, h2, h3, hQ⟩ := lw_walk l hflags b xs p e ha hc hk s m args below hf ((Spec.applies_iff_loose hf).mp happ).1 hP trivial
  exact ⟨k, o, h1, h2, h3, hQ⟩
theorem lw_frame {s t : State} {o : Outcome} {args : Array Value} (h : Framed s o t [] 600000 7302250) :
    Framed s o t (fieldLocs frame_1_writes args s ++ arrayLocs frame_1_arrays args s ++ staticLocs frame_1_statics s) 600000 7302250 := h
theorem lw_limb (L : Cond) (hL : ∀ (args : Array Value) (s t : State), L.after args s (.returned (some (.int 1))) t = true) :
    ArmFor flags0 classFile x code maxLocals ret World_1 tables_1 room_1 Calls_1 rest_1 Pre_1
      (fun tb e a s o t => postC L tb e a s o t ∧ Framed s o t (fieldLocs frame_1_writes a s ++ arrayLocs frame_1_arrays a s ++ staticLocs frame_1_statics s) 600000 7302250) := by
  intro l hflags _ _ p e ha hc hk s m args below hf hfit hheap happ hpre
  obtain ⟨k, o, h1, h2, h3, rfl, hF⟩ := lw_comes l hflags p e ha hc hk s m args below hf hfit hheap happ hpre
  exact ⟨k, _, h1, h2, h3, hL args s _, lw_frame hF⟩
theorem i_vc : Claimed_1_1 ∧ Claimed_1_2 := ⟨lw_limb limb_1_1 (fun args s t => by simp [limb_1_1, Cond.after, Cond.holds, Cond.value]), lw_limb limb_1_2 (fun args s t => Cond.after_iff.mpr (by
  first | (rw [show limb_1_2 = Cond.eq .result (.int 1) from rfl, Cond.eq_ints (x := 1) (y := 1) rfl rfl]; simp; done) | (simp [limb_1_2, Cond.value, Term.eval]; done)))⟩
