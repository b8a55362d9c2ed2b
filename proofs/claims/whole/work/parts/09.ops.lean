def tw_wm (i : Nat) : List Cond := Cond.code (tw_nm i) (tw_by i) (tw_ml i) (tw_re i) :: tw_big
def tw_rm (i : Nat) : Room := { frames := tw_fr i, cells := 0, slots := 0, locals := tw_lo i }
def tw_Cx (g : tw_E) (p : Program) (s : State) (m : MethodId) (args : Array Value) (meth : Method) (c : Code) (i : Nat) : Prop :=
  p.tables.exec = Jvm.exec ∧ c.code = tw_by i ∧ c.maxLocals = tw_ml i ∧ meth.sig.returnType = tw_re i ∧ meth.locks = false ∧ s.vm.findClass (tw_nm i).cls = some m.cls ∧ (∀ w ∈ tw_wm i, w.before args s = true) ∧ tw_F g s s.heap ∧ tw_sh g ∧ tw_ap g
def tw_ok (g : tw_E) (L : tw_L) (st : List tw_V) : Prop := (∀ (j : Nat) (v : tw_V), L[j]? = some (some v) → tw_vd g v) ∧ ∀ v, v ∈ st → tw_vd g v
def tw_Kp (g : tw_E) (p : Program) (l : Launch) (e : Env) (s : State) (m : MethodId) (args : Array Value) (below : List Frame) (meth : Method) (c : Code) (i : Nat) (Qf : State → Prop) (pc : Nat) (L : tw_L) (st : List tw_V) (μ : tw_M) : Prop :=
  tw_ok g L st → L.length = tw_ml i → ∀ (H : Heap) (locs : List Loc) (ls : Array Slot), va_P (tw_D g) vwCl (tw_ws g μ) H → va_S (tw_A g) s.heap H locs → tw_LR g L ls → W p l e (tw_rm i) s m args below meth c H locs 0 0 Qf (F0 m pc ls (st.map (tw_rv g)))
theorem tw_hi {s : State} {args : Array Value} {i : Nat} (h : ∀ w ∈ tw_wm i, w.before args s = true) {w : Cond} (hw : w ∈ tw_big) : w.before args s = true := h w (List.mem_cons_of_mem _ hw)
section
variable {g : tw_E} {p : Program} {l : Launch} {e : Env} {s : State} {m : MethodId} {args : Array Value} {below : List Frame} {meth : Method} {c : Code} {i pc q : Nat} {Qf : State → Prop} {L L' : tw_L} {st st' : List tw_V} {μ μ' : tw_M}
theorem tw_pure (hok : tw_ok g L st → tw_ok g L' st') (hlen : L'.length = L.length) (hstep : ∀ H locs ls, L.length = tw_ml i → va_S (tw_A g) s.heap H locs → tw_LR g L ls → (∀ ls', tw_LR g L' ls' → W p l e (tw_rm i) s m args below meth c H locs 0 0 Qf (F0 m q ls' (st'.map (tw_rv g)))) → W p l e (tw_rm i) s m args below meth c H locs 0 0 Qf (F0 m pc ls (st.map (tw_rv g))))
    (k : tw_Kp g p l e s m args below meth c i Qf q L' st' μ) : tw_Kp g p l e s m args below meth c i Qf pc L st μ := fun ok hl H locs ls hP hS hL => hstep H locs ls hl hS hL (fun ls' h => k (hok ok) (hlen.trans hl) H locs ls' hP hS h)
theorem tw_ok_tl {v : tw_V} {r : List tw_V} (h : tw_ok g L (v :: r)) : tw_ok g L r := ⟨h.1, fun w hw => h.2 w (List.mem_cons_of_mem _ hw)⟩
theorem tw_ok_hd {v : tw_V} {r : List tw_V} (h : tw_ok g L (v :: r)) : tw_vd g v := h.2 v List.mem_cons_self
theorem tw_ok_cons {v : tw_V} {r : List tw_V} (hv : tw_vd g v) (h : tw_ok g L r) : tw_ok g L (v :: r) := ⟨h.1, fun w hw => by
  rcases List.mem_cons.mp hw with z | z
  · rw [z]; exact hv
  · exact h.2 w z⟩
theorem tw_ok_cI {x : Int32} {r : List tw_V} (h : tw_ok g L r) : tw_ok g L (tw_I x :: r) := tw_ok_cons (v := tw_I x) True.intro h
theorem tw_ok_cJ {x : Int64} {r : List tw_V} (h : tw_ok g L r) : tw_ok g L (tw_J x :: r) := tw_ok_cons (v := tw_J x) True.intro h
theorem tw_ok_cN {r : List tw_V} (h : tw_ok g L r) : tw_ok g L (tw_N :: r) := tw_ok_cons (v := tw_N) True.intro h
theorem tw_ok_s1 {v : tw_V} {a : Nat} {r : List tw_V} (hv : tw_vd g v) (h : tw_ok g L r) : tw_ok g (tw_s1 L a v) r := ⟨fun j w hj => by
  rcases tw_s1_at hj with ⟨-, z⟩ | ⟨-, z, -⟩
  · rw [z]; exact hv
  · exact h.1 j w z, h.2⟩
theorem tw_ok_s2 {v : tw_V} {a : Nat} {r : List tw_V} (hv : tw_vd g v) (h : tw_ok g L r) : tw_ok g (tw_s2 L a v) r := ⟨fun j w hj => by
  rcases tw_s2_at hj with ⟨-, z⟩ | ⟨-, -, z, -⟩
  · rw [z]; exact hv
  · exact h.1 j w z, h.2⟩

theorem tw_o0 {b : Int} {cv : Int32} (hv : Int32.ofInt b = cv) (C : tw_Cx g p s m args meth c i) (hd : decode (tw_by i) pc = .ok (.iconst b, 1)) (hx : tw_nx (pc + 1) L (tw_I cv :: st) μ = some (Sum.inl (q, L', st', μ'))) (k : tw_Kp g p l e s m args below meth c i Qf q L' st' μ') : tw_Kp g p l e s m args below meth c i Qf pc L st μ := by
  obtain ⟨hx1, hb, -, -, -, hown, hts, hF, hsh, hap⟩ := C
  cases hx
  refine tw_pure (L' := L) (fun ok => tw_ok_cI ok) rfl (fun H locs ls hl hS hL kk => ?_) k
  exact lv_iconst hx1 hb hd hv (kk ls hL)

theorem tw_o1 {b : Int} {cv : Int32} (hv : (Int8.ofInt b).toInt32 = cv) (C : tw_Cx g p s m args meth c i) (hd : decode (tw_by i) pc = .ok (.bipush b, 2)) (hx : tw_nx (pc + 2) L (tw_I cv :: st) μ = some (Sum.inl (q, L', st', μ'))) (k : tw_Kp g p l e s m args below meth c i Qf q L' st' μ') : tw_Kp g p l e s m args below meth c i Qf pc L st μ := by
  obtain ⟨hx1, hb, -, -, -, hown, hts, hF, hsh, hap⟩ := C
  cases hx
  refine tw_pure (L' := L) (fun ok => tw_ok_cI ok) rfl (fun H locs ls hl hS hL kk => ?_) k
  exact lv_bipush hx1 hb hd hv (kk ls hL)

theorem tw_o2 {b : Int} {cv : Int32} (hv : (Int16.ofInt b).toInt32 = cv) (C : tw_Cx g p s m args meth c i) (hd : decode (tw_by i) pc = .ok (.sipush b, 3)) (hx : tw_nx (pc + 3) L (tw_I cv :: st) μ = some (Sum.inl (q, L', st', μ'))) (k : tw_Kp g p l e s m args below meth c i Qf q L' st' μ') : tw_Kp g p l e s m args below meth c i Qf pc L st μ := by
  obtain ⟨hx1, hb, -, -, -, hown, hts, hF, hsh, hap⟩ := C
  cases hx
  refine tw_pure (L' := L) (fun ok => tw_ok_cI ok) rfl (fun H locs ls hl hS hL kk => ?_) k
  exact lv_sipush hx1 hb hd hv (kk ls hL)

theorem tw_o3 {a : Nat} {cv : Int32} (hv : Cond.constant (tw_nm i).cls a cv ∈ tw_big) (C : tw_Cx g p s m args meth c i) (hd : decode (tw_by i) pc = .ok (.ldc a, 2)) (hx : tw_nx (pc + 2) L (tw_I cv :: st) μ = some (Sum.inl (q, L', st', μ'))) (k : tw_Kp g p l e s m args below meth c i Qf q L' st' μ') : tw_Kp g p l e s m args below meth c i Qf pc L st μ := by
  obtain ⟨hx1, hb, -, -, -, hown, hts, hF, hsh, hap⟩ := C
  cases hx
  refine tw_pure (L' := L) (fun ok => tw_ok_cI ok) rfl (fun H locs ls hl hS hL kk => ?_) k
  exact lv_ldc hx1 hb hown (tw_hi hts hv) hd (kk ls hL)

theorem tw_o4 {a : Nat} {d : Int64} (ha : a < 2) (hv : Int64.ofNat a = d) (C : tw_Cx g p s m args meth c i) (hd : decode (tw_by i) pc = .ok (.lconst (Fin.ofNat 2 a), 1)) (hx : tw_nx (pc + 1) L (tw_J d :: st) μ = some (Sum.inl (q, L', st', μ'))) (k : tw_Kp g p l e s m args below meth c i Qf q L' st' μ') : tw_Kp g p l e s m args below meth c i Qf pc L st μ := by
  obtain ⟨hx1, hb, -, -, -, hown, hts, hF, hsh, hap⟩ := C
  cases hx
  refine tw_pure (L' := L) (fun ok => tw_ok_cJ ok) rfl (fun H locs ls hl hS hL kk => ?_) k
  exact lv_lconst hx1 hb hd (by rw [show ((Fin.ofNat 2 a : Fin 2) : Nat) = a from Nat.mod_eq_of_lt ha]; exact hv) (kk ls hL)

theorem tw_o5 {a : Nat} {d : Int64} (hv : Cond.constantLong (tw_nm i).cls a d ∈ tw_big) (C : tw_Cx g p s m args meth c i) (hd : decode (tw_by i) pc = .ok (.ldc2_w a, 3)) (hx : tw_nx (pc + 3) L (tw_J d :: st) μ = some (Sum.inl (q, L', st', μ'))) (k : tw_Kp g p l e s m args below meth c i Qf q L' st' μ') : tw_Kp g p l e s m args below meth c i Qf pc L st μ := by
  obtain ⟨hx1, hb, -, -, -, hown, hts, hF, hsh, hap⟩ := C
  cases hx
  refine tw_pure (L' := L) (fun ok => tw_ok_cJ ok) rfl (fun H locs ls hl hS hL kk => ?_) k
  exact lv_ldc2 hx1 hb hown (tw_hi hts hv) hd (kk ls hL)

theorem tw_o6 (C : tw_Cx g p s m args meth c i) (hd : decode (tw_by i) pc = .ok (.aconst_null, 1)) (hx : tw_nx (pc + 1) L (tw_N :: st) μ = some (Sum.inl (q, L', st', μ'))) (k : tw_Kp g p l e s m args below meth c i Qf q L' st' μ') : tw_Kp g p l e s m args below meth c i Qf pc L st μ := by
  obtain ⟨hx1, hb, -, -, -, hown, hts, hF, hsh, hap⟩ := C
  cases hx
  refine tw_pure (L' := L) (fun ok => tw_ok_cN ok) rfl (fun H locs ls hl hS hL kk => ?_) k
  exact lv_null hx1 hb hd (kk ls hL)

theorem tw_o7 {a : Nat} (ha : a < 4) (C : tw_Cx g p s m args meth c i) (hd : decode (tw_by i) pc = .ok (.iload_n (Fin.ofNat 4 a), 1)) (hx : tw_qi a (pc + 1) L st μ = some (Sum.inl (q, L', st', μ'))) (k : tw_Kp g p l e s m args below meth c i Qf q L' st' μ') : tw_Kp g p l e s m args below meth c i Qf pc L st μ := by
  obtain ⟨hx1, hb, -, -, -, hown, hts, hF, hsh, hap⟩ := C
  unfold tw_qi at hx
  split at hx
  · rename_i x hLa
    cases hx
    refine tw_pure (L' := L) (fun ok => tw_ok_cI ok) rfl (fun H locs ls hl hS hL kk => ?_) k
    exact lv_iload_n hx1 hb hd (Nat.mod_eq_of_lt ha) (hL.2.2 a _ hLa) (kk ls hL)
  · cases hx

theorem tw_o8 {a : Nat} (C : tw_Cx g p s m args meth c i) (hd : decode (tw_by i) pc = .ok (.iload a, 2)) (hx : tw_qi a (pc + 2) L st μ = some (Sum.inl (q, L', st', μ'))) (k : tw_Kp g p l e s m args below meth c i Qf q L' st' μ') : tw_Kp g p l e s m args below meth c i Qf pc L st μ := by
  obtain ⟨hx1, hb, -, -, -, hown, hts, hF, hsh, hap⟩ := C
  unfold tw_qi at hx
  split at hx
  · rename_i x hLa
    cases hx
    refine tw_pure (L' := L) (fun ok => tw_ok_cI ok) rfl (fun H locs ls hl hS hL kk => ?_) k
    exact lv_iload hx1 hb hd (hL.2.2 a _ hLa) (kk ls hL)
  · cases hx

theorem tw_o9 {a : Nat} (ha : a < 4) (C : tw_Cx g p s m args meth c i) (hd : decode (tw_by i) pc = .ok (.lload_n (Fin.ofNat 4 a), 1)) (hx : tw_qj a (pc + 1) L st μ = some (Sum.inl (q, L', st', μ'))) (k : tw_Kp g p l e s m args below meth c i Qf q L' st' μ') : tw_Kp g p l e s m args below meth c i Qf pc L st μ := by
  obtain ⟨hx1, hb, -, -, -, hown, hts, hF, hsh, hap⟩ := C
  unfold tw_qj at hx
  split at hx
  · rename_i x hLa
    cases hx
    refine tw_pure (L' := L) (fun ok => tw_ok_cJ ok) rfl (fun H locs ls hl hS hL kk => ?_) k
    exact lv_lload_n hx1 hb hd (Nat.mod_eq_of_lt ha) (hL.2.2 a _ hLa) (kk ls hL)
  · cases hx

theorem tw_o10 {a : Nat} (C : tw_Cx g p s m args meth c i) (hd : decode (tw_by i) pc = .ok (.lload a, 2)) (hx : tw_qj a (pc + 2) L st μ = some (Sum.inl (q, L', st', μ'))) (k : tw_Kp g p l e s m args below meth c i Qf q L' st' μ') : tw_Kp g p l e s m args below meth c i Qf pc L st μ := by
  obtain ⟨hx1, hb, -, -, -, hown, hts, hF, hsh, hap⟩ := C
  unfold tw_qj at hx
  split at hx
  · rename_i x hLa
    cases hx
    refine tw_pure (L' := L) (fun ok => tw_ok_cJ ok) rfl (fun H locs ls hl hS hL kk => ?_) k
    exact lv_lload hx1 hb hd (hL.2.2 a _ hLa) (kk ls hL)
  · cases hx

theorem tw_rv_ref {s : State} {H : Heap} (hF : tw_F g s H) (x : Option (Nat × Nat)) : tw_rv g (Sum.inr (Sum.inr x)) = .null ∨ ∃ t, tw_rv g (Sum.inr (Sum.inr x)) = .ref t := by
  rcases x with _ | ⟨k, n⟩
  · exact Or.inl rfl
  · unfold tw_rv
    dsimp only
    split
    · exact Or.inr ⟨_, rfl⟩
    · split
      · exact Or.inr ⟨_, rfl⟩
      · split
        · exact hF.2.2.2.2.1
        · exact Or.inr ⟨_, rfl⟩

theorem tw_o11 {a : Nat} (ha : a < 4) (C : tw_Cx g p s m args meth c i) (hd : decode (tw_by i) pc = .ok (.aload_n (Fin.ofNat 4 a), 1)) (hx : tw_qa a (pc + 1) L st μ = some (Sum.inl (q, L', st', μ'))) (k : tw_Kp g p l e s m args below meth c i Qf q L' st' μ') : tw_Kp g p l e s m args below meth c i Qf pc L st μ := by
  obtain ⟨hx1, hb, -, -, -, hown, hts, hF, hsh, hap⟩ := C
  unfold tw_qa at hx
  split at hx
  · rename_i x hLa
    cases hx
    refine tw_pure (L' := L) (fun ok => tw_ok_cons (ok.1 a _ hLa) ok) rfl (fun H locs ls hl hS hL kk => ?_) k
    have h1 := hL.2.2 a _ hLa
    have k2 := kk ls hL
    rw [List.map_cons] at k2
    rcases tw_rv_ref hF x with z | ⟨t, z⟩
    · rw [z] at h1 k2
      exact lv_aload_nN hx1 hb hd (Nat.mod_eq_of_lt ha) h1 k2
    · rw [z] at h1 k2
      exact lv_aload_n hx1 hb hd (Nat.mod_eq_of_lt ha) h1 k2
  · cases hx

theorem tw_o12 {a : Nat} (C : tw_Cx g p s m args meth c i) (hd : decode (tw_by i) pc = .ok (.aload a, 2)) (hx : tw_qa a (pc + 2) L st μ = some (Sum.inl (q, L', st', μ'))) (k : tw_Kp g p l e s m args below meth c i Qf q L' st' μ') : tw_Kp g p l e s m args below meth c i Qf pc L st μ := by
  obtain ⟨hx1, hb, -, -, -, hown, hts, hF, hsh, hap⟩ := C
  unfold tw_qa at hx
  split at hx
  · rename_i x hLa
    cases hx
    refine tw_pure (L' := L) (fun ok => tw_ok_cons (ok.1 a _ hLa) ok) rfl (fun H locs ls hl hS hL kk => ?_) k
    have h1 := hL.2.2 a _ hLa
    have k2 := kk ls hL
    rw [List.map_cons] at k2
    rcases tw_rv_ref hF x with z | ⟨t, z⟩
    · rw [z] at h1 k2
      exact lv_aloadN hx1 hb hd h1 k2
    · rw [z] at h1 k2
      exact lv_aload hx1 hb hd h1 k2
  · cases hx

theorem tw_o13 {a : Nat} (ha : a < 4) (C : tw_Cx g p s m args meth c i) (hd : decode (tw_by i) pc = .ok (.istore_n (Fin.ofNat 4 a), 1)) (hx : tw_ri a (pc + 1) L st μ = some (Sum.inl (q, L', st', μ'))) (k : tw_Kp g p l e s m args below meth c i Qf q L' st' μ') : tw_Kp g p l e s m args below meth c i Qf pc L st μ := by
  obtain ⟨hx1, hb, -, -, -, hown, hts, hF, hsh, hap⟩ := C
  unfold tw_ri at hx
  split at hx
  · rename_i x r
    split at hx
    · rename_i hlt
      cases hx
      refine tw_pure (L' := tw_s1 L a (tw_I x)) (fun ok => tw_ok_s1 (tw_ok_hd ok) (tw_ok_tl ok)) (tw_s1_len _ _ _) (fun H locs ls hl hS hL kk => ?_) k
      exact lv_istore_n hx1 hb hd (Nat.mod_eq_of_lt ha) (tw_LR_has hL) hlt rfl (fun ls' h => kk ls' (tw_LR_s1 (v := (tw_I x)) hF h))
    · cases hx
  · cases hx

theorem tw_o14 {a : Nat} (C : tw_Cx g p s m args meth c i) (hd : decode (tw_by i) pc = .ok (.istore a, 2)) (hx : tw_ri a (pc + 2) L st μ = some (Sum.inl (q, L', st', μ'))) (k : tw_Kp g p l e s m args below meth c i Qf q L' st' μ') : tw_Kp g p l e s m args below meth c i Qf pc L st μ := by
  obtain ⟨hx1, hb, -, -, -, hown, hts, hF, hsh, hap⟩ := C
  unfold tw_ri at hx
  split at hx
  · rename_i x r
    split at hx
    · rename_i hlt
      cases hx
      refine tw_pure (L' := tw_s1 L a (tw_I x)) (fun ok => tw_ok_s1 (tw_ok_hd ok) (tw_ok_tl ok)) (tw_s1_len _ _ _) (fun H locs ls hl hS hL kk => ?_) k
      exact lv_istore hx1 hb hd (tw_LR_has hL) hlt rfl (fun ls' h => kk ls' (tw_LR_s1 (v := (tw_I x)) hF h))
    · cases hx
  · cases hx

theorem tw_o15 {a : Nat} (ha : a < 4) (C : tw_Cx g p s m args meth c i) (hd : decode (tw_by i) pc = .ok (.lstore_n (Fin.ofNat 4 a), 1)) (hx : tw_rj a (pc + 1) L st μ = some (Sum.inl (q, L', st', μ'))) (k : tw_Kp g p l e s m args below meth c i Qf q L' st' μ') : tw_Kp g p l e s m args below meth c i Qf pc L st μ := by
  obtain ⟨hx1, hb, -, -, -, hown, hts, hF, hsh, hap⟩ := C
  unfold tw_rj at hx
  split at hx
  · rename_i x r
    split at hx
    · rename_i hlt
      cases hx
      refine tw_pure (L' := tw_s2 L a (tw_J x)) (fun ok => tw_ok_s2 (tw_ok_hd ok) (tw_ok_tl ok)) (tw_s2_len _ _ _) (fun H locs ls hl hS hL kk => ?_) k
      exact lv_lstore_n hx1 hb hd (Nat.mod_eq_of_lt ha) (tw_LR_has hL) hlt rfl (fun ls' h => kk ls' (tw_LR_s2 (v := (tw_J x)) hF h))
    · cases hx
  · cases hx

theorem tw_o16 {a : Nat} (C : tw_Cx g p s m args meth c i) (hd : decode (tw_by i) pc = .ok (.lstore a, 2)) (hx : tw_rj a (pc + 2) L st μ = some (Sum.inl (q, L', st', μ'))) (k : tw_Kp g p l e s m args below meth c i Qf q L' st' μ') : tw_Kp g p l e s m args below meth c i Qf pc L st μ := by
  obtain ⟨hx1, hb, -, -, -, hown, hts, hF, hsh, hap⟩ := C
  unfold tw_rj at hx
  split at hx
  · rename_i x r
    split at hx
    · rename_i hlt
      cases hx
      refine tw_pure (L' := tw_s2 L a (tw_J x)) (fun ok => tw_ok_s2 (tw_ok_hd ok) (tw_ok_tl ok)) (tw_s2_len _ _ _) (fun H locs ls hl hS hL kk => ?_) k
      exact lv_lstore hx1 hb hd (tw_LR_has hL) hlt rfl (fun ls' h => kk ls' (tw_LR_s2 (v := (tw_J x)) hF h))
    · cases hx
  · cases hx

theorem tw_o17 {a : Nat} (ha : a < 4) (C : tw_Cx g p s m args meth c i) (hd : decode (tw_by i) pc = .ok (.astore_n (Fin.ofNat 4 a), 1)) (hx : tw_ra a (pc + 1) L st μ = some (Sum.inl (q, L', st', μ'))) (k : tw_Kp g p l e s m args below meth c i Qf q L' st' μ') : tw_Kp g p l e s m args below meth c i Qf pc L st μ := by
  obtain ⟨hx1, hb, -, -, -, hown, hts, hF, hsh, hap⟩ := C
  unfold tw_ra at hx
  split at hx
  · rename_i x r
    split at hx
    · rename_i hlt
      cases hx
      refine tw_pure (L' := tw_s1 L a (Sum.inr (Sum.inr x))) (fun ok => tw_ok_s1 (tw_ok_hd ok) (tw_ok_tl ok)) (tw_s1_len _ _ _) (fun H locs ls hl hS hL kk => ?_) k
      rw [List.map_cons]
      have kk2 : ∀ ls' : Array Slot, lv_has ls' L.length ((a, tw_rv g (Sum.inr (Sum.inr x))) :: (tw_as g L).filter (fun q => !(q.1 == a) && !(q.1 + 1 == a && q.2.category == 2))) → _ := fun ls' h => kk ls' (tw_LR_s1 hF h)
      rcases tw_rv_ref hF x with z | ⟨t, z⟩
      · rw [z] at kk2 ⊢
        exact lv_astore_nN hx1 hb hd (Nat.mod_eq_of_lt ha) (tw_LR_has hL) hlt rfl kk2
      · rw [z] at kk2 ⊢
        exact lv_astore_n hx1 hb hd (Nat.mod_eq_of_lt ha) (tw_LR_has hL) hlt rfl kk2
    · cases hx
  · cases hx

theorem tw_o18 {a : Nat} (C : tw_Cx g p s m args meth c i) (hd : decode (tw_by i) pc = .ok (.astore a, 2)) (hx : tw_ra a (pc + 2) L st μ = some (Sum.inl (q, L', st', μ'))) (k : tw_Kp g p l e s m args below meth c i Qf q L' st' μ') : tw_Kp g p l e s m args below meth c i Qf pc L st μ := by
  obtain ⟨hx1, hb, -, -, -, hown, hts, hF, hsh, hap⟩ := C
  unfold tw_ra at hx
  split at hx
  · rename_i x r
    split at hx
    · rename_i hlt
      cases hx
      refine tw_pure (L' := tw_s1 L a (Sum.inr (Sum.inr x))) (fun ok => tw_ok_s1 (tw_ok_hd ok) (tw_ok_tl ok)) (tw_s1_len _ _ _) (fun H locs ls hl hS hL kk => ?_) k
      rw [List.map_cons]
      have kk2 : ∀ ls' : Array Slot, lv_has ls' L.length ((a, tw_rv g (Sum.inr (Sum.inr x))) :: (tw_as g L).filter (fun q => !(q.1 == a) && !(q.1 + 1 == a && q.2.category == 2))) → _ := fun ls' h => kk ls' (tw_LR_s1 hF h)
      rcases tw_rv_ref hF x with z | ⟨t, z⟩
      · rw [z] at kk2 ⊢
        exact lv_astoreN hx1 hb hd (tw_LR_has hL) hlt rfl kk2
      · rw [z] at kk2 ⊢
        exact lv_astore hx1 hb hd (tw_LR_has hL) hlt rfl kk2
    · cases hx
  · cases hx

theorem tw_o19 {a : Nat} {b : Int} {cv : Int32} (hv : Int32.ofInt b = cv) (C : tw_Cx g p s m args meth c i) (hd : decode (tw_by i) pc = .ok (.iinc a b, 3)) (hx : tw_ic a cv (pc + 3) L st μ = some (Sum.inl (q, L', st', μ'))) (k : tw_Kp g p l e s m args below meth c i Qf q L' st' μ') : tw_Kp g p l e s m args below meth c i Qf pc L st μ := by
  obtain ⟨hx1, hb, -, -, -, hown, hts, hF, hsh, hap⟩ := C
  unfold tw_ic at hx
  split at hx
  · rename_i x hLa
    split at hx
    · rename_i hlt
      cases hx
      refine tw_pure (L' := tw_s1 L a (tw_I (x + cv))) (fun ok => tw_ok_s1 (v := tw_I (x + cv)) True.intro ok) (tw_s1_len _ _ _) (fun H locs ls hl hS hL kk => ?_) k
      obtain ⟨j, hj⟩ := List.getElem?_of_mem (tw_as_in.mpr ⟨tw_I x, hLa, rfl⟩ : (a, tw_rv g (tw_I x)) ∈ tw_as g L)
      exact lv_iinc hx1 hb hd (tw_LR_has hL) hj (by rw [hv]) hlt rfl (fun ls' h => kk ls' (tw_LR_s1 (v := tw_I (x + cv)) hF h))
    · cases hx
  · cases hx

theorem tw_o20 (C : tw_Cx g p s m args meth c i) (hd : decode (tw_by i) pc = .ok (.iadd, 1)) (hx : tw_q2 (fun x y => x + y) (pc + 1) L st μ = some (Sum.inl (q, L', st', μ'))) (k : tw_Kp g p l e s m args below meth c i Qf q L' st' μ') : tw_Kp g p l e s m args below meth c i Qf pc L st μ := by
  obtain ⟨hx1, hb, -, -, -, hown, hts, hF, hsh, hap⟩ := C
  unfold tw_q2 at hx
  split at hx
  · rename_i y x r
    cases hx
    refine tw_pure (L' := L) (fun ok => tw_ok_cI (tw_ok_tl (tw_ok_tl ok))) rfl (fun H locs ls hl hS hL kk => ?_) k
    exact lv_iadd hx1 hb hd (kk ls hL)
  · cases hx

theorem tw_o21 (C : tw_Cx g p s m args meth c i) (hd : decode (tw_by i) pc = .ok (.isub, 1)) (hx : tw_q2 (fun x y => x - y) (pc + 1) L st μ = some (Sum.inl (q, L', st', μ'))) (k : tw_Kp g p l e s m args below meth c i Qf q L' st' μ') : tw_Kp g p l e s m args below meth c i Qf pc L st μ := by
  obtain ⟨hx1, hb, -, -, -, hown, hts, hF, hsh, hap⟩ := C
  unfold tw_q2 at hx
  split at hx
  · rename_i y x r
    cases hx
    refine tw_pure (L' := L) (fun ok => tw_ok_cI (tw_ok_tl (tw_ok_tl ok))) rfl (fun H locs ls hl hS hL kk => ?_) k
    exact lv_isub hx1 hb hd (kk ls hL)
  · cases hx

theorem tw_o22 (C : tw_Cx g p s m args meth c i) (hd : decode (tw_by i) pc = .ok (.imul, 1)) (hx : tw_q2 (fun x y => x * y) (pc + 1) L st μ = some (Sum.inl (q, L', st', μ'))) (k : tw_Kp g p l e s m args below meth c i Qf q L' st' μ') : tw_Kp g p l e s m args below meth c i Qf pc L st μ := by
  obtain ⟨hx1, hb, -, -, -, hown, hts, hF, hsh, hap⟩ := C
  unfold tw_q2 at hx
  split at hx
  · rename_i y x r
    cases hx
    refine tw_pure (L' := L) (fun ok => tw_ok_cI (tw_ok_tl (tw_ok_tl ok))) rfl (fun H locs ls hl hS hL kk => ?_) k
    exact lv_imul hx1 hb hd (kk ls hL)
  · cases hx

theorem tw_o25 (C : tw_Cx g p s m args meth c i) (hd : decode (tw_by i) pc = .ok (.iand, 1)) (hx : tw_q2 (fun x y => x &&& y) (pc + 1) L st μ = some (Sum.inl (q, L', st', μ'))) (k : tw_Kp g p l e s m args below meth c i Qf q L' st' μ') : tw_Kp g p l e s m args below meth c i Qf pc L st μ := by
  obtain ⟨hx1, hb, -, -, -, hown, hts, hF, hsh, hap⟩ := C
  unfold tw_q2 at hx
  split at hx
  · rename_i y x r
    cases hx
    refine tw_pure (L' := L) (fun ok => tw_ok_cI (tw_ok_tl (tw_ok_tl ok))) rfl (fun H locs ls hl hS hL kk => ?_) k
    exact lv_iand hx1 hb hd (kk ls hL)
  · cases hx

theorem tw_o26 (C : tw_Cx g p s m args meth c i) (hd : decode (tw_by i) pc = .ok (.ior, 1)) (hx : tw_q2 (fun x y => x ||| y) (pc + 1) L st μ = some (Sum.inl (q, L', st', μ'))) (k : tw_Kp g p l e s m args below meth c i Qf q L' st' μ') : tw_Kp g p l e s m args below meth c i Qf pc L st μ := by
  obtain ⟨hx1, hb, -, -, -, hown, hts, hF, hsh, hap⟩ := C
  unfold tw_q2 at hx
  split at hx
  · rename_i y x r
    cases hx
    refine tw_pure (L' := L) (fun ok => tw_ok_cI (tw_ok_tl (tw_ok_tl ok))) rfl (fun H locs ls hl hS hL kk => ?_) k
    exact lv_ior hx1 hb hd (kk ls hL)
  · cases hx

theorem tw_o28 (C : tw_Cx g p s m args meth c i) (hd : decode (tw_by i) pc = .ok (.ishl, 1)) (hx : tw_q2 (fun x y => x <<< (y &&& 31)) (pc + 1) L st μ = some (Sum.inl (q, L', st', μ'))) (k : tw_Kp g p l e s m args below meth c i Qf q L' st' μ') : tw_Kp g p l e s m args below meth c i Qf pc L st μ := by
  obtain ⟨hx1, hb, -, -, -, hown, hts, hF, hsh, hap⟩ := C
  unfold tw_q2 at hx
  split at hx
  · rename_i y x r
    cases hx
    refine tw_pure (L' := L) (fun ok => tw_ok_cI (tw_ok_tl (tw_ok_tl ok))) rfl (fun H locs ls hl hS hL kk => ?_) k
    exact lv_ishl hx1 hb hd (kk ls hL)
  · cases hx

theorem tw_o29 (C : tw_Cx g p s m args meth c i) (hd : decode (tw_by i) pc = .ok (.ishr, 1)) (hx : tw_q2 (fun x y => x >>> (y &&& 31)) (pc + 1) L st μ = some (Sum.inl (q, L', st', μ'))) (k : tw_Kp g p l e s m args below meth c i Qf q L' st' μ') : tw_Kp g p l e s m args below meth c i Qf pc L st μ := by
  obtain ⟨hx1, hb, -, -, -, hown, hts, hF, hsh, hap⟩ := C
  unfold tw_q2 at hx
  split at hx
  · rename_i y x r
    cases hx
    refine tw_pure (L' := L) (fun ok => tw_ok_cI (tw_ok_tl (tw_ok_tl ok))) rfl (fun H locs ls hl hS hL kk => ?_) k
    exact lv_ishr hx1 hb hd (kk ls hL)
  · cases hx

theorem tw_o31 (C : tw_Cx g p s m args meth c i) (hd : decode (tw_by i) pc = .ok (.ladd, 1)) (hx : tw_q3 (fun x y => x + y) (pc + 1) L st μ = some (Sum.inl (q, L', st', μ'))) (k : tw_Kp g p l e s m args below meth c i Qf q L' st' μ') : tw_Kp g p l e s m args below meth c i Qf pc L st μ := by
  obtain ⟨hx1, hb, -, -, -, hown, hts, hF, hsh, hap⟩ := C
  unfold tw_q3 at hx
  split at hx
  · rename_i y x r
    cases hx
    refine tw_pure (L' := L) (fun ok => tw_ok_cJ (tw_ok_tl (tw_ok_tl ok))) rfl (fun H locs ls hl hS hL kk => ?_) k
    exact lv_ladd hx1 hb hd (kk ls hL)
  · cases hx

theorem tw_o32 (C : tw_Cx g p s m args meth c i) (hd : decode (tw_by i) pc = .ok (.lsub, 1)) (hx : tw_q3 (fun x y => x - y) (pc + 1) L st μ = some (Sum.inl (q, L', st', μ'))) (k : tw_Kp g p l e s m args below meth c i Qf q L' st' μ') : tw_Kp g p l e s m args below meth c i Qf pc L st μ := by
  obtain ⟨hx1, hb, -, -, -, hown, hts, hF, hsh, hap⟩ := C
  unfold tw_q3 at hx
  split at hx
  · rename_i y x r
    cases hx
    refine tw_pure (L' := L) (fun ok => tw_ok_cJ (tw_ok_tl (tw_ok_tl ok))) rfl (fun H locs ls hl hS hL kk => ?_) k
    exact lv_lsub hx1 hb hd (kk ls hL)
  · cases hx

theorem tw_o33 (C : tw_Cx g p s m args meth c i) (hd : decode (tw_by i) pc = .ok (.lmul, 1)) (hx : tw_q3 (fun x y => x * y) (pc + 1) L st μ = some (Sum.inl (q, L', st', μ'))) (k : tw_Kp g p l e s m args below meth c i Qf q L' st' μ') : tw_Kp g p l e s m args below meth c i Qf pc L st μ := by
  obtain ⟨hx1, hb, -, -, -, hown, hts, hF, hsh, hap⟩ := C
  unfold tw_q3 at hx
  split at hx
  · rename_i y x r
    cases hx
    refine tw_pure (L' := L) (fun ok => tw_ok_cJ (tw_ok_tl (tw_ok_tl ok))) rfl (fun H locs ls hl hS hL kk => ?_) k
    exact lv_lmul hx1 hb hd (kk ls hL)
  · cases hx

theorem tw_o36 (C : tw_Cx g p s m args meth c i) (hd : decode (tw_by i) pc = .ok (.land, 1)) (hx : tw_q3 (fun x y => x &&& y) (pc + 1) L st μ = some (Sum.inl (q, L', st', μ'))) (k : tw_Kp g p l e s m args below meth c i Qf q L' st' μ') : tw_Kp g p l e s m args below meth c i Qf pc L st μ := by
  obtain ⟨hx1, hb, -, -, -, hown, hts, hF, hsh, hap⟩ := C
  unfold tw_q3 at hx
  split at hx
  · rename_i y x r
    cases hx
    refine tw_pure (L' := L) (fun ok => tw_ok_cJ (tw_ok_tl (tw_ok_tl ok))) rfl (fun H locs ls hl hS hL kk => ?_) k
    exact lv_land hx1 hb hd (kk ls hL)
  · cases hx

theorem tw_o37 (C : tw_Cx g p s m args meth c i) (hd : decode (tw_by i) pc = .ok (.lor, 1)) (hx : tw_q3 (fun x y => x ||| y) (pc + 1) L st μ = some (Sum.inl (q, L', st', μ'))) (k : tw_Kp g p l e s m args below meth c i Qf q L' st' μ') : tw_Kp g p l e s m args below meth c i Qf pc L st μ := by
  obtain ⟨hx1, hb, -, -, -, hown, hts, hF, hsh, hap⟩ := C
  unfold tw_q3 at hx
  split at hx
  · rename_i y x r
    cases hx
    refine tw_pure (L' := L) (fun ok => tw_ok_cJ (tw_ok_tl (tw_ok_tl ok))) rfl (fun H locs ls hl hS hL kk => ?_) k
    exact lv_lor hx1 hb hd (kk ls hL)
  · cases hx

theorem tw_o23 (C : tw_Cx g p s m args meth c i) (hd : decode (tw_by i) pc = .ok (.idiv, 1)) (hx : tw_qd (fun x y => x / y) (pc + 1) L st μ = some (Sum.inl (q, L', st', μ'))) (k : tw_Kp g p l e s m args below meth c i Qf q L' st' μ') : tw_Kp g p l e s m args below meth c i Qf pc L st μ := by
  obtain ⟨hx1, hb, -, -, -, hown, hts, hF, hsh, hap⟩ := C
  unfold tw_qd at hx
  split at hx
  · rename_i y x r
    split at hx
    · cases hx
    · rename_i hne
      cases hx
      refine tw_pure (L' := L) (fun ok => tw_ok_cI (tw_ok_tl (tw_ok_tl ok))) rfl (fun H locs ls hl hS hL kk => ?_) k
      exact lv_idiv hx1 hb hd hne (kk ls hL)
  · cases hx

theorem tw_o24 (C : tw_Cx g p s m args meth c i) (hd : decode (tw_by i) pc = .ok (.irem, 1)) (hx : tw_qd (fun x y => x - x / y * y) (pc + 1) L st μ = some (Sum.inl (q, L', st', μ'))) (k : tw_Kp g p l e s m args below meth c i Qf q L' st' μ') : tw_Kp g p l e s m args below meth c i Qf pc L st μ := by
  obtain ⟨hx1, hb, -, -, -, hown, hts, hF, hsh, hap⟩ := C
  unfold tw_qd at hx
  split at hx
  · rename_i y x r
    split at hx
    · cases hx
    · rename_i hne
      cases hx
      refine tw_pure (L' := L) (fun ok => tw_ok_cI (tw_ok_tl (tw_ok_tl ok))) rfl (fun H locs ls hl hS hL kk => ?_) k
      exact lv_irem hx1 hb hd hne (kk ls hL)
  · cases hx

theorem tw_o34 (C : tw_Cx g p s m args meth c i) (hd : decode (tw_by i) pc = .ok (.ldiv, 1)) (hx : tw_ql (fun x y => x / y) (pc + 1) L st μ = some (Sum.inl (q, L', st', μ'))) (k : tw_Kp g p l e s m args below meth c i Qf q L' st' μ') : tw_Kp g p l e s m args below meth c i Qf pc L st μ := by
  obtain ⟨hx1, hb, -, -, -, hown, hts, hF, hsh, hap⟩ := C
  unfold tw_ql at hx
  split at hx
  · rename_i y x r
    split at hx
    · cases hx
    · rename_i hne
      cases hx
      refine tw_pure (L' := L) (fun ok => tw_ok_cJ (tw_ok_tl (tw_ok_tl ok))) rfl (fun H locs ls hl hS hL kk => ?_) k
      exact lv_ldiv hx1 hb hd hne (kk ls hL)
  · cases hx

theorem tw_o35 (C : tw_Cx g p s m args meth c i) (hd : decode (tw_by i) pc = .ok (.lrem, 1)) (hx : tw_ql (fun x y => x - x / y * y) (pc + 1) L st μ = some (Sum.inl (q, L', st', μ'))) (k : tw_Kp g p l e s m args below meth c i Qf q L' st' μ') : tw_Kp g p l e s m args below meth c i Qf pc L st μ := by
  obtain ⟨hx1, hb, -, -, -, hown, hts, hF, hsh, hap⟩ := C
  unfold tw_ql at hx
  split at hx
  · rename_i y x r
    split at hx
    · cases hx
    · rename_i hne
      cases hx
      refine tw_pure (L' := L) (fun ok => tw_ok_cJ (tw_ok_tl (tw_ok_tl ok))) rfl (fun H locs ls hl hS hL kk => ?_) k
      exact lv_lrem hx1 hb hd hne (kk ls hL)
  · cases hx

theorem tw_o38 (C : tw_Cx g p s m args meth c i) (hd : decode (tw_by i) pc = .ok (.lshl, 1)) (hx : tw_q4 (fun x y => x <<< (y.toInt64 &&& 63)) (pc + 1) L st μ = some (Sum.inl (q, L', st', μ'))) (k : tw_Kp g p l e s m args below meth c i Qf q L' st' μ') : tw_Kp g p l e s m args below meth c i Qf pc L st μ := by
  obtain ⟨hx1, hb, -, -, -, hown, hts, hF, hsh, hap⟩ := C
  unfold tw_q4 at hx
  split at hx
  · rename_i y x r
    cases hx
    refine tw_pure (L' := L) (fun ok => tw_ok_cJ (tw_ok_tl (tw_ok_tl ok))) rfl (fun H locs ls hl hS hL kk => ?_) k
    exact lv_lshl hx1 hb hd rfl (kk ls hL)
  · cases hx

theorem tw_o39 (C : tw_Cx g p s m args meth c i) (hd : decode (tw_by i) pc = .ok (.lshr, 1)) (hx : tw_q4 (fun x y => x >>> (y.toInt64 &&& 63)) (pc + 1) L st μ = some (Sum.inl (q, L', st', μ'))) (k : tw_Kp g p l e s m args below meth c i Qf q L' st' μ') : tw_Kp g p l e s m args below meth c i Qf pc L st μ := by
  obtain ⟨hx1, hb, -, -, -, hown, hts, hF, hsh, hap⟩ := C
  unfold tw_q4 at hx
  split at hx
  · rename_i y x r
    cases hx
    refine tw_pure (L' := L) (fun ok => tw_ok_cJ (tw_ok_tl (tw_ok_tl ok))) rfl (fun H locs ls hl hS hL kk => ?_) k
    exact lv_lshr hx1 hb hd rfl (kk ls hL)
  · cases hx

theorem tw_o30 (C : tw_Cx g p s m args meth c i) (hd : decode (tw_by i) pc = .ok (.ineg, 1)) (hx : tw_q1 (fun x => some (-x)) (pc + 1) L st μ = some (Sum.inl (q, L', st', μ'))) (k : tw_Kp g p l e s m args below meth c i Qf q L' st' μ') : tw_Kp g p l e s m args below meth c i Qf pc L st μ := by
  obtain ⟨hx1, hb, -, -, -, hown, hts, hF, hsh, hap⟩ := C
  unfold tw_q1 at hx
  split at hx
  · rename_i x r
    cases hx
    refine tw_pure (L' := L) (fun ok => tw_ok_cI (tw_ok_tl ok)) rfl (fun H locs ls hl hS hL kk => ?_) k
    exact lv_ineg hx1 hb hd (kk ls hL)
  · cases hx

theorem tw_o43 (C : tw_Cx g p s m args meth c i) (hd : decode (tw_by i) pc = .ok (.i2c, 1)) (hx : tw_q1 (fun x => some ((x.toUInt32 % 65536).toInt32)) (pc + 1) L st μ = some (Sum.inl (q, L', st', μ'))) (k : tw_Kp g p l e s m args below meth c i Qf q L' st' μ') : tw_Kp g p l e s m args below meth c i Qf pc L st μ := by
  obtain ⟨hx1, hb, -, -, -, hown, hts, hF, hsh, hap⟩ := C
  unfold tw_q1 at hx
  split at hx
  · rename_i x r
    cases hx
    refine tw_pure (L' := L) (fun ok => tw_ok_cI (tw_ok_tl ok)) rfl (fun H locs ls hl hS hL kk => ?_) k
    exact lv_i2c hx1 hb hd rfl (kk ls hL)
  · cases hx

theorem tw_o40 (C : tw_Cx g p s m args meth c i) (hd : decode (tw_by i) pc = .ok (.lcmp, 1)) (hx : (match st with | Sum.inr (Sum.inl y) :: Sum.inr (Sum.inl x) :: r => tw_nx (pc + 1) L (tw_I (lg_cmp x y) :: r) μ | _ => none) = some (Sum.inl (q, L', st', μ'))) (k : tw_Kp g p l e s m args below meth c i Qf q L' st' μ') : tw_Kp g p l e s m args below meth c i Qf pc L st μ := by
  obtain ⟨hx1, hb, -, -, -, hown, hts, hF, hsh, hap⟩ := C
  split at hx
  · rename_i y x r
    cases hx
    refine tw_pure (L' := L) (fun ok => tw_ok_cI (tw_ok_tl (tw_ok_tl ok))) rfl (fun H locs ls hl hS hL kk => ?_) k
    exact W.lcmp hx1 hb hd (kk ls hL)
  · cases hx

theorem tw_o41 (C : tw_Cx g p s m args meth c i) (hd : decode (tw_by i) pc = .ok (.i2l, 1)) (hx : (match st with | Sum.inl x :: r => tw_nx (pc + 1) L (tw_J x.toInt64 :: r) μ | _ => none) = some (Sum.inl (q, L', st', μ'))) (k : tw_Kp g p l e s m args below meth c i Qf q L' st' μ') : tw_Kp g p l e s m args below meth c i Qf pc L st μ := by
  obtain ⟨hx1, hb, -, -, -, hown, hts, hF, hsh, hap⟩ := C
  split at hx
  · rename_i x r
    cases hx
    refine tw_pure (L' := L) (fun ok => tw_ok_cJ (tw_ok_tl ok)) rfl (fun H locs ls hl hS hL kk => ?_) k
    exact lv_i2l hx1 hb hd rfl (kk ls hL)
  · cases hx

theorem tw_o42 (C : tw_Cx g p s m args meth c i) (hd : decode (tw_by i) pc = .ok (.l2i, 1)) (hx : (match st with | Sum.inr (Sum.inl x) :: r => tw_nx (pc + 1) L (tw_I x.toInt32 :: r) μ | _ => none) = some (Sum.inl (q, L', st', μ'))) (k : tw_Kp g p l e s m args below meth c i Qf q L' st' μ') : tw_Kp g p l e s m args below meth c i Qf pc L st μ := by
  obtain ⟨hx1, hb, -, -, -, hown, hts, hF, hsh, hap⟩ := C
  split at hx
  · rename_i x r
    cases hx
    refine tw_pure (L' := L) (fun ok => tw_ok_cI (tw_ok_tl ok)) rfl (fun H locs ls hl hS hL kk => ?_) k
    exact lv_l2i hx1 hb hd rfl (kk ls hL)
  · cases hx

theorem tw_o44 (C : tw_Cx g p s m args meth c i) (hd : decode (tw_by i) pc = .ok (.dup, 1)) (hx : tw_du (pc + 1) L st μ = some (Sum.inl (q, L', st', μ'))) (k : tw_Kp g p l e s m args below meth c i Qf q L' st' μ') : tw_Kp g p l e s m args below meth c i Qf pc L st μ := by
  obtain ⟨hx1, hb, -, -, -, hown, hts, hF, hsh, hap⟩ := C
  unfold tw_du at hx
  split at hx
  · rename_i v r
    split at hx
    · rename_i hc1
      cases hx
      refine tw_pure (L' := L) (fun ok => tw_ok_cons (tw_ok_hd ok) ok) rfl (fun H locs ls hl hS hL kk => ?_) k
      exact lv_dup hx1 hb hd (by rw [tw_rv_cat hF]; exact hc1) (kk ls hL)
    · cases hx
  · cases hx

theorem tw_o45 (C : tw_Cx g p s m args meth c i) (hd : decode (tw_by i) pc = .ok (.dup2, 1)) (hx : tw_d2 (pc + 1) L st μ = some (Sum.inl (q, L', st', μ'))) (k : tw_Kp g p l e s m args below meth c i Qf q L' st' μ') : tw_Kp g p l e s m args below meth c i Qf pc L st μ := by
  obtain ⟨hx1, hb, -, -, -, hown, hts, hF, hsh, hap⟩ := C
  unfold tw_d2 at hx
  split at hx
  · rename_i v w r
    split at hx
    · rename_i hc1
      cases hx
      refine tw_pure (L' := L) (fun ok => tw_ok_cons (tw_ok_hd ok) (tw_ok_cons (tw_ok_hd (tw_ok_tl ok)) ok)) rfl (fun H locs ls hl hS hL kk => ?_) k
      exact lv_dup2_11 hx1 hb hd (by rw [tw_rv_cat hF]; exact hc1.1) (by rw [tw_rv_cat hF]; exact hc1.2) (kk ls hL)
    · cases hx
  · cases hx

theorem tw_o46 (C : tw_Cx g p s m args meth c i) (hd : decode (tw_by i) pc = .ok (.pop, 1)) (hx : tw_po (pc + 1) L st μ = some (Sum.inl (q, L', st', μ'))) (k : tw_Kp g p l e s m args below meth c i Qf q L' st' μ') : tw_Kp g p l e s m args below meth c i Qf pc L st μ := by
  obtain ⟨hx1, hb, -, -, -, hown, hts, hF, hsh, hap⟩ := C
  unfold tw_po at hx
  split at hx
  · rename_i v r
    split at hx
    · rename_i hc1
      cases hx
      refine tw_pure (L' := L) (fun ok => tw_ok_tl ok) rfl (fun H locs ls hl hS hL kk => ?_) k
      exact lv_pop hx1 hb hd (by rw [tw_rv_cat hF]; exact hc1) (kk ls hL)
    · cases hx
  · cases hx

end
