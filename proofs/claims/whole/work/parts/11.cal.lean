def tw_Q (g : tw_E) (r : Option tw_V) (μ' : tw_M) : Array Value → State → Outcome → State → Prop := fun _ st o t => o = .returned (r.map (tw_rv g)) ∧ va_P (tw_D g) vwCl (tw_ws g μ') t.heap ∧ va_F (tw_A g) st t ∧ ∀ w, r = some w → tw_vd g w
def tw_Pr (g : tw_E) (as : List tw_V) (μ : tw_M) : Array Value → State → Prop := va_Pc (as.map (tw_rv g)) (fun U => (∀ v, v ∈ as → tw_vd g v) ∧ va_P (tw_D g) vwCl (tw_ws g μ) U.heap ∧ tw_F g U U.heap)
/-- a method's contract: called so, it answers so -/
def tw_Me (g : tw_E) (l : Launch) (i : Nat) (as : List tw_V) (μ : tw_M) (r : Option tw_V) (μ' : tw_M) : Prop := Met l (tw_nm i) (tw_wm i) (tw_rm i) (tw_Pr g as μ) (tw_Q g r μ') 0 0 (tw_A g)
theorem tw_blind {g : tw_E} {as : List tw_V} {μ : tw_M} : FrameBlind (tw_Pr g as μ) := fun a U _ mk h => ⟨h.1, h.2.1, h.2.2.1, tw_F.calling h.2.2.2⟩
theorem tw_good {w : Cond} (h : w ∈ tw_big) : (w.onTables && w.keeps) = true ∨ ∃ ty, w = .arrayClass ty := good_of_word (List.mem_filter.mp h).2
theorem tw_goodIn {i j : Nat} (h : Cond.code (tw_nm j) (tw_by j) (tw_ml j) (tw_re j) ∈ tw_big) : GoodIn (tw_wm i) (tw_wm j) := by
  intro w hw
  rcases List.mem_cons.mp hw with z | z
  · rw [z]; exact ⟨List.mem_cons_of_mem _ h, tw_good h⟩
  · exact ⟨List.mem_cons_of_mem _ z, tw_good z⟩
section
variable {g : tw_E} {p : Program} {l : Launch} {e : Env} {s : State} {m : MethodId} {args : Array Value} {below : List Frame} {meth : Method} {c : Code} {i pc q : Nat} {Qf : State → Prop} {L L' : tw_L} {st st' : List tw_V} {μ μ' : tw_M}
theorem tw_after {R : Room} {H : Heap} {locs : List Loc} {ls : Array Slot} {st0 rest : List Value} {a : Array Value} {r : Option tw_V} (hr : va_Run p l e R s m args below meth c H locs 0 0 0 0 (F0 m pc ls st0) rest (tw_Q g r μ' a) (tw_A g)) (hS : va_S (tw_A g) s.heap H locs)
    (kk : ∀ (H1 : Heap) (locs1 : List Loc), va_P (tw_D g) vwCl (tw_ws g μ') H1 → va_S (tw_A g) s.heap H1 locs1 → (∀ w, r = some w → tw_vd g w) → W p l e R s m args below meth c H1 locs1 0 0 Qf (F0 m (pc + 3) ls ((r.map (tw_rv g)).toList ++ rest))) : W p l e R s m args below meth c H locs 0 0 Qf (F0 m pc ls st0) := by
  intro T hT X
  obtain ⟨v, st₀, t, T', L, h0, X', hL, e1, e2, ⟨hv, hP, ⟨hz, hk⟩, hvd⟩, st⟩ := hr T hT X
  cases hv
  rw [h0] at hz hk
  obtain ⟨t2, a1, b1⟩ := kk T'.heap (locs ++ L) (by rw [e1]; exact hP) ⟨Nat.le_trans hS.1 (by rw [e1]; exact hz), fun q h1 h2 => by rw [e1, hk q (Nat.lt_of_lt_of_le h1 hS.1) h2]; exact hS.2.1 q h1 h2, fun q hq => by
    rcases List.mem_append.mp hq with h | h
    · exact hS.2.2 q h
    · exact hL q h⟩ hvd T' rfl X'
  exact ⟨t2, st t2 a1, b1⟩
theorem tw_toL (g : tw_E) (r : Option tw_V) (st : List tw_V) : (r.map (tw_rv g)).toList ++ st.map (tw_rv g) = (r.toList ++ st).map (tw_rv g) := by
  cases r <;> simp
theorem tw_ok_app {r : Option tw_V} {st : List tw_V} (hv : ∀ w, r = some w → tw_vd g w) (h : tw_ok g L st) : tw_ok g L (r.toList ++ st) := by
  cases r with
  | none => exact h
  | some v => exact tw_ok_cons (hv v rfl) h
theorem tw_ok_drop {n : Nat} (h : tw_ok g L st) : tw_ok g L (st.drop n) := ⟨h.1, fun w hw => h.2 w (List.mem_of_mem_drop hw)⟩
theorem tw_pre {H : Heap} {locs : List Loc} {as : List tw_V} (hv : ∀ v, v ∈ as → tw_vd g v) (hF : tw_F g s s.heap) (hP : va_P (tw_D g) vwCl (tw_ws g μ) H) (hS : va_S (tw_A g) s.heap H locs) : ∀ U : State, U.heap = H → s.WarmedH U.vm → tw_Pr g as μ (as.map (tw_rv g)).toArray U := fun U hU hW => ⟨rfl, hv, by rw [hU]; exact hP, by rw [hU]; exact tw_F.go hF hW hS.2.1⟩
theorem tw_o64 {a j na kd : Nat} {as r : List tw_V} {rv0 : Option tw_V} (hw1 : Cond.methodLink (tw_nm i).cls a (tw_nm j) ∈ tw_big) (hw2 : Cond.instanceMethod (tw_nm j) ∈ tw_big) (hw3 : Cond.selects (tw_nm j).cls (tw_nm j) (tw_nm j) ∈ tw_big) (hw4 : Cond.initialized (tw_nm j).cls ∈ tw_big) (hw5 : Cond.code (tw_nm j) (tw_by j) (tw_ml j) (tw_re j) ∈ tw_big) (hmh : tw_mh (tw_nm j) = true) (hnp : tw_np (tw_nm j) (na - 1) = true) (hrm : tw_rmk i j = true) (hkd : tw_kdk kd (tw_nm j).cls = true)
    (C : tw_Cx g p s m args meth c i) (hd : decode (tw_by i) pc = .ok (.invokevirtual a, 3)) (hx : tw_cv j na kd (pc + 3) st = some (Sum.inr (Sum.inr (j, as, r, q)))) (hM : tw_Me g l j as μ rv0 μ') (k : tw_Kp g p l e s m args below meth c i Qf q L (rv0.toList ++ r) μ') : tw_Kp g p l e s m args below meth c i Qf pc L st μ := by
  obtain ⟨hx1, hb, hml, -, -, hown, hts, hF, hsh, hap⟩ := C
  unfold tw_cv at hx
  split at hx
  · rename_i k0 n as' hrev
    split at hx
    · rename_i hk0
      have hk0 := tw_nb hk0
      subst hk0
      split at hx
      · rename_i hcond
        obtain ⟨hna, h8, hlen⟩ := hcond
        cases hx
        have hst : st = as'.reverse ++ tw_R k0 n :: st.drop na := by
          have h1 : st.take na = (tw_R k0 n :: as').reverse := by rw [← hrev, List.reverse_reverse]
          conv => lhs; rw [← List.take_append_drop na st, h1]
          simp
        intro ok hl H locs ls hP hS hL
        have hvd : tw_vd g (tw_R k0 n) := ok.2 _ (by rw [hst]; simp)
        have hcell : ∃ b : Nat, tw_rv g (tw_R k0 n) = .ref b ∧ ∃ cellB : Cell, H[b]? = some cellB ∧ cellB.vm.isStatics = false ∧ s.vm.findClass (tw_nm j).cls = some cellB.cls := by
          unfold tw_kdk at hkd
          by_cases h7 : k0 < 7
          · rw [if_pos h7] at hkd
            have hcls := of_decide_eq_true hkd
            have hin : (k0, n) ∈ tw_vs g := tw_vd_in hvd (by omega) (by omega) (by omega)
            obtain ⟨ix, -, hix⟩ := tw_ws_at (μ := μ) hin
            rw [tw_ent_o h7] at hix
            refine ⟨_, tw_rv_in hsh hin, ?_⟩
            have := va_recv hF.1 hP (tw_cl_at h7) hix
            rw [← hcls]
            exact this
          · rw [if_neg h7, Bool.and_eq_true] at hkd
            have h88 := of_decide_eq_true hkd.1
            have hcls := of_decide_eq_true hkd.2
            subst h88
            have h6 := tw_vd_8 hsh hvd
            refine ⟨tw_aK g n, rfl, ?_⟩
            rw [hcls]
            exact vk_recv hF.2.1 h6 hS
        obtain ⟨b, hb1, hb2⟩ := hcell
        unfold tw_mh at hmh
        rw [Bool.and_eq_true] at hmh
        unfold tw_rmk at hrm
        rw [Bool.and_eq_true] at hrm
        have hstack : st.map (tw_rv g) = (as'.map (tw_rv g)).reverse ++ .ref b :: (st.drop na).map (tw_rv g) := by
          conv => lhs; rw [hst]
          rw [List.map_append, List.map_cons, hb1, List.map_reverse]
        have hpre : PreV s H (tw_nm j).cls b (tw_Pr g (tw_R k0 n :: as') μ) (as'.map (tw_rv g)) := by
          refine ⟨tw_blind, hb2, fun U hU hW => ?_⟩
          have := tw_pre (as := tw_R k0 n :: as') (fun v hv => ok.2 v (by
            rw [hst]
            rcases List.mem_cons.mp hv with z | z
            · rw [z]; simp
            · simp [z])) hF hP hS U hU hW
          rw [List.map_cons, hb1] at this
          exact this
        have hcw : CallW (tw_rm i) s args (tw_nm i).cls (tw_nm j).cls a (tw_nm j) (tw_by j) (tw_ml j) (tw_re j) (tw_wm j) (tw_rm j) 0 0 (na - 1) :=
          ⟨callB_of (na - 1) hts (tw_goodIn hw5) rfl rfl rfl (tw_hi hts hw4) (tw_hi hts hw1) ⟨of_decide_eq_true hmh.1, of_decide_eq_true hmh.2, of_decide_eq_true hnp⟩ ⟨of_decide_eq_true hrm.1, of_decide_eq_true hrm.2⟩, tw_hi hts hw2, tw_hi hts hw3⟩
        have hrun := va_runV (l := l) (e := e) (below := below) (meth := meth) (locs := locs) (cells := 0) (slots := 0) (g := F0 m pc ls (st.map (tw_rv g))) (rest := (st.drop na).map (tw_rv g)) ⟨hx1, hb, hml, hown, hts⟩ hM hcw hpre rfl (by rw [List.length_map]; omega) (show ls.size = tw_ml i from hL.1.trans hl) hstack (lv_room (by rw [tw_cats hF]; exact h8)) hd ⟨Nat.le_refl 0, Nat.le_refl 0⟩
        refine tw_after hrun hS (fun H1 locs1 hP1 hS1 hv1 => ?_)
        rw [tw_toL]
        exact k (tw_ok_app hv1 (tw_ok_drop ok)) hl H1 locs1 ls hP1 hS1 hL
      · cases hx
    · cases hx
  · cases hx
theorem tw_o65 {a j na : Nat} {as r : List tw_V} {rv0 : Option tw_V} (hw1 : Cond.methodLink (tw_nm i).cls a (tw_nm j) ∈ tw_big) (hw2 : Cond.static (tw_nm j) ∈ tw_big) (hw4 : Cond.initialized (tw_nm j).cls ∈ tw_big) (hw5 : Cond.code (tw_nm j) (tw_by j) (tw_ml j) (tw_re j) ∈ tw_big) (hmh : tw_mh (tw_nm j) = true) (hnp : tw_np (tw_nm j) na = true) (hrm : tw_rmk i j = true)
    (C : tw_Cx g p s m args meth c i) (hd : decode (tw_by i) pc = .ok (.invokestatic a, 3)) (hx : tw_cs j na (pc + 3) st = some (Sum.inr (Sum.inr (j, as, r, q)))) (hM : tw_Me g l j as μ rv0 μ') (k : tw_Kp g p l e s m args below meth c i Qf q L (rv0.toList ++ r) μ') : tw_Kp g p l e s m args below meth c i Qf pc L st μ := by
  obtain ⟨hx1, hb, hml, -, -, hown, hts, hF, hsh, hap⟩ := C
  unfold tw_cs at hx
  split at hx
  · rename_i hcond
    obtain ⟨hna, h8, hlen⟩ := hcond
    cases hx
    intro ok hl H locs ls hP hS hL
    unfold tw_mh at hmh
    rw [Bool.and_eq_true] at hmh
    unfold tw_rmk at hrm
    rw [Bool.and_eq_true] at hrm
    have hstack : st.map (tw_rv g) = ((st.take na).reverse.map (tw_rv g)).reverse ++ (st.drop na).map (tw_rv g) := by
      rw [List.map_reverse, List.reverse_reverse, ← List.map_append, List.take_append_drop]
    have hcw : CallB (tw_rm i) s args (tw_nm i).cls a (tw_nm j) (tw_by j) (tw_ml j) (tw_re j) (tw_wm j) (tw_rm j) 0 0 na ∧ (Cond.static (tw_nm j)).before args s = true :=
      ⟨callB_of na hts (tw_goodIn hw5) rfl rfl rfl (tw_hi hts hw4) (tw_hi hts hw1) ⟨of_decide_eq_true hmh.1, of_decide_eq_true hmh.2, of_decide_eq_true hnp⟩ ⟨of_decide_eq_true hrm.1, of_decide_eq_true hrm.2⟩, tw_hi hts hw2⟩
    have hrun := va_runS (l := l) (e := e) (below := below) (meth := meth) (locs := locs) (cells := 0) (slots := 0) (g := F0 m pc ls (st.map (tw_rv g))) (rest := (st.drop na).map (tw_rv g)) ⟨hx1, hb, hml, hown, hts⟩ hM hcw ⟨tw_blind, tw_pre (fun v hv => ok.2 v (List.mem_of_mem_take (List.mem_reverse.mp hv))) hF hP hS⟩ rfl (by rw [List.length_map, List.length_reverse]; exact hna) (show ls.size = tw_ml i from hL.1.trans hl) hstack (lv_room (by rw [tw_cats hF]; exact h8)) hd ⟨Nat.le_refl 0, Nat.le_refl 0⟩
    refine tw_after hrun hS (fun H1 locs1 hP1 hS1 hv1 => ?_)
    rw [tw_toL]
    exact k (tw_ok_app hv1 (tw_ok_drop ok)) hl H1 locs1 ls hP1 hS1 hL
  · cases hx
theorem tw_o74 {a j na t : Nat} {as r : List tw_V} {rv0 : Option tw_V} (hnest : tw_nest[t]? = some ((tw_nm i).cls, a, tw_nm j)) (hw2 : Cond.static (tw_nm j) ∈ tw_big) (hw4 : Cond.initialized (tw_nm j).cls ∈ tw_big) (hw5 : Cond.code (tw_nm j) (tw_by j) (tw_ml j) (tw_re j) ∈ tw_big) (hmh : tw_mh (tw_nm j) = true) (hnp : tw_np (tw_nm j) na = true) (hrm : tw_rmk i j = true)
    (C : tw_Cx g p s m args meth c i) (hd : decode (tw_by i) pc = .ok (.invokestatic a, 3)) (hx : tw_cs j na (pc + 3) st = some (Sum.inr (Sum.inr (j, as, r, q)))) (hM : tw_Me g l j as μ rv0 μ') (k : tw_Kp g p l e s m args below meth c i Qf q L (rv0.toList ++ r) μ') : tw_Kp g p l e s m args below meth c i Qf pc L st μ := by
  obtain ⟨hx1, hb, hml, -, -, hown, hts, hF, hsh, hap⟩ := C
  unfold tw_cs at hx
  split at hx
  · rename_i hcond
    obtain ⟨hna, h8, hlen⟩ := hcond
    cases hx
    intro ok hl H locs ls hP hS hL
    unfold tw_mh at hmh
    rw [Bool.and_eq_true] at hmh
    unfold tw_rmk at hrm
    rw [Bool.and_eq_true] at hrm
    have hstack : st.map (tw_rv g) = ((st.take na).reverse.map (tw_rv g)).reverse ++ (st.drop na).map (tw_rv g) := by
      rw [List.map_reverse, List.reverse_reverse, ← List.map_append, List.take_append_drop]
    have hnw := hF.2.2.2.2.2.2 _ (List.mem_of_getElem? hnest)
    have hcw : va_CN (tw_rm i) s args (tw_nm i).cls a (tw_nm j) "ThawWords" (tw_by j) (tw_ml j) (tw_re j) (tw_wm j) (tw_rm j) 0 0 na ∧ (Cond.static (tw_nm j)).before args s = true ∧ True :=
      ⟨va_cnB na hts (tw_goodIn hw5) rfl rfl rfl hnw (tw_hi hts hw4) ⟨of_decide_eq_true hmh.1, of_decide_eq_true hmh.2, of_decide_eq_true hnp⟩ ⟨of_decide_eq_true hrm.1, of_decide_eq_true hrm.2⟩, tw_hi hts hw2, trivial⟩
    have hrun := va_runSN (l := l) (e := e) (below := below) (meth := meth) (locs := locs) (cells := 0) (slots := 0) (g := F0 m pc ls (st.map (tw_rv g))) (rest := (st.drop na).map (tw_rv g)) ⟨hx1, hb, hml, hown, hts⟩ hM hcw ⟨tw_blind, tw_pre (fun v hv => ok.2 v (List.mem_of_mem_take (List.mem_reverse.mp hv))) hF hP hS⟩ rfl (by rw [List.length_map, List.length_reverse]; exact hna) (show ls.size = tw_ml i from hL.1.trans hl) hstack (lv_room (by rw [tw_cats hF]; exact h8)) hd ⟨Nat.le_refl 0, Nat.le_refl 0⟩
    refine tw_after hrun hS (fun H1 locs1 hP1 hS1 hv1 => ?_)
    rw [tw_toL]
    exact k (tw_ok_app hv1 (tw_ok_drop ok)) hl H1 locs1 ls hP1 hS1 hL
  · cases hx
theorem tw_o66 {r : Option tw_V} (hre : tw_re i = some .int) (C : tw_Cx g p s m args meth c i) (hd : decode (tw_by i) pc = .ok (.ireturn, 1)) (hx : tw_ri1 st = some (Sum.inr (Sum.inl r))) : tw_Kp g p l e s m args below meth c i (MQ below (tw_Q g r μ) args s 0 0 (tw_A g)) pc L st μ := by
  obtain ⟨hx1, hb, hml, hr, hlk, hown, hts, hF, hsh, hap⟩ := C
  unfold tw_ri1 at hx
  split at hx
  · rename_i x
    cases hx
    intro ok hl H locs ls hP hS hL
    exact W.iret (v := x) hx1 hb (hr.trans hre) (fun t ht hW => ⟨rfl, by rw [ht]; exact hP, hS.F ht, fun w hw => by cases hw; exact True.intro⟩) hS.2.2 hd (hlocks := hlk)
  · cases hx
theorem tw_o75 {ty : FieldType} {r : Option tw_V} (hre : tw_re i = some ty) (hty : ty = .boolean ∨ ty = .char ∨ ty = .byte ∨ ty = .int) (C : tw_Cx g p s m args meth c i) (hd : decode (tw_by i) pc = .ok (.ireturn, 1)) (hx : tw_rn ty st = some (Sum.inr (Sum.inl r))) : tw_Kp g p l e s m args below meth c i (MQ below (tw_Q g r μ) args s 0 0 (tw_A g)) pc L st μ := by
  obtain ⟨hx1, hb, hml, hr, hlk, hown, hts, hF, hsh, hap⟩ := C
  unfold tw_rn at hx
  split at hx
  · rename_i x
    unfold tw_rt at hx
    split at hx
    · rename_i hn
      cases hx
      have hn2 : narrow ty (.int x) = .int x := by
        rcases hty with z | z | z | z <;> subst z <;> exact congrArg Value.int hn
      intro ok hl H locs ls hP hS hL
      exact W.zret (v := x) hx1 hb (hr.trans hre) hn2 (fun t ht hW => ⟨rfl, by rw [ht]; exact hP, hS.F ht, fun w hw => by cases hw; exact True.intro⟩) hS.2.2 hd (hlocks := hlk)
    · cases hx
  · cases hx
theorem tw_o67 {r : Option tw_V} (hre : tw_re i = some .long) (C : tw_Cx g p s m args meth c i) (hd : decode (tw_by i) pc = .ok (.lreturn, 1)) (hx : tw_rl st = some (Sum.inr (Sum.inl r))) : tw_Kp g p l e s m args below meth c i (MQ below (tw_Q g r μ) args s 0 0 (tw_A g)) pc L st μ := by
  obtain ⟨hx1, hb, hml, hr, hlk, hown, hts, hF, hsh, hap⟩ := C
  unfold tw_rl at hx
  split at hx
  · rename_i x
    cases hx
    intro ok hl H locs ls hP hS hL
    exact W.lret (v := x) hx1 hb (hr.trans hre) (fun t ht hW => ⟨rfl, by rw [ht]; exact hP, hS.F ht, fun w hw => by cases hw; exact True.intro⟩) hS.2.2 hd (hlocks := hlk)
  · cases hx
theorem tw_o68 {rt : FieldType} {r : Option tw_V} (hre : tw_re i = some rt) (hrt : (∃ n, rt = .object n) ∨ ∃ t, rt = .array t) (C : tw_Cx g p s m args meth c i) (hd : decode (tw_by i) pc = .ok (.areturn, 1)) (hx : tw_rr st = some (Sum.inr (Sum.inl r))) : tw_Kp g p l e s m args below meth c i (MQ below (tw_Q g r μ) args s 0 0 (tw_A g)) pc L st μ := by
  obtain ⟨hx1, hb, hml, hr, hlk, hown, hts, hF, hsh, hap⟩ := C
  unfold tw_rr at hx
  split at hx
  · rename_i x
    cases hx
    intro ok hl H locs ls hP hS hL
    exact W.aret (v := tw_rv g (Sum.inr (Sum.inr x))) hx1 hb (hr.trans hre) hrt (tw_rv_ref hF x) (fun t ht hW => ⟨rfl, by rw [ht]; exact hP, hS.F ht, fun w hw => by cases hw; exact tw_ok_hd ok⟩) hS.2.2 hd (hlocks := hlk)
  · cases hx
theorem tw_o69 {r : Option tw_V} (hre : tw_re i = none) (C : tw_Cx g p s m args meth c i) (hd : decode (tw_by i) pc = .ok (.return_, 1)) (hx : tw_rv0 st = some (Sum.inr (Sum.inl r))) : tw_Kp g p l e s m args below meth c i (MQ below (tw_Q g r μ) args s 0 0 (tw_A g)) pc L st μ := by
  obtain ⟨hx1, hb, hml, hr, hlk, hown, hts, hF, hsh, hap⟩ := C
  unfold tw_rv0 at hx
  split at hx
  · cases hx
    intro ok hl H locs ls hP hS hL
    exact W.vret hx1 hb (hr.trans hre) (fun t ht hW => ⟨rfl, by rw [ht]; exact hP, hS.F ht, fun w hw => by cases hw⟩) hS.2.2 hd (hlocks := hlk)
  · cases hx
end
