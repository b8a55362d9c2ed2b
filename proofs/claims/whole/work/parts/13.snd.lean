theorem tw_en_len {n : Nat} {as : List tw_V} (h : (tw_el as).length ≤ n) : (tw_en n as).length = n := by
  unfold tw_en
  simp
  omega
theorem tw_el_mem : ∀ (as : List tw_V) (v : tw_V), some v ∈ tw_el as → v ∈ as
  | [], v, h => by cases h
  | Sum.inl x :: as, v, h => by
    rw [tw_el] at h
    · rcases List.mem_cons.mp h with z | z
      · cases z; exact List.mem_cons_self
      · exact List.mem_cons_of_mem _ (tw_el_mem as v z)
    · intro y hy; cases hy
  | Sum.inr (Sum.inl x) :: as, v, h => by
    rw [tw_el] at h
    rcases List.mem_cons.mp h with z | z
    · cases z; exact List.mem_cons_self
    · rcases List.mem_cons.mp z with z | z
      · cases z
      · exact List.mem_cons_of_mem _ (tw_el_mem as v z)
  | Sum.inr (Sum.inr x) :: as, v, h => by
    rw [tw_el] at h
    · rcases List.mem_cons.mp h with z | z
      · cases z; exact List.mem_cons_self
      · exact List.mem_cons_of_mem _ (tw_el_mem as v z)
    · intro y hy; cases hy
theorem tw_en_ok {g : tw_E} {as : List tw_V} {n : Nat} (h : ∀ v, v ∈ as → tw_vd g v) : tw_ok g (tw_en n as) [] := by
  refine ⟨fun j v hj => ?_, fun v hv => by cases hv⟩
  have hm := List.mem_of_getElem? hj
  unfold tw_en at hm
  rcases List.mem_append.mp hm with z | z
  · exact h v (tw_el_mem as v z)
  · have := List.eq_of_mem_replicate z
    cases this
theorem tw_all_ok {i pc : Nat} {o : tw_Op} (hi : i < tw_tab.length) (h : tw_op (tw_cd i) pc = some o) : tw_opk i pc o = true := by
  have h1 := tw_mk_all i (by rw [tw_tab_len] at hi; exact hi)
  unfold tw_mk at h1
  rw [Bool.and_eq_true] at h1
  exact List.all_eq_true.mp h1.1 (pc, o) (tw_op_in h)
theorem tw_plain {i : Nat} (hi : i < tw_tab.length) : plainName (tw_nm i).cls = true := by
  have h1 := tw_mk_all i (by rw [tw_tab_len] at hi; exact hi)
  unfold tw_mk at h1
  rw [Bool.and_eq_true] at h1
  exact h1.2
/-- WHAT THE SMALL MACHINE ANSWERS, THE REAL ONE ANSWERS -/
theorem tw_sound (g : tw_E) (l : Launch) (hsh : tw_sh g) (hap : tw_ap g) : ∀ (n i pc : Nat) (L : tw_L) (st : List tw_V) (μ : tw_M) (r : Option tw_V) (μ' : tw_M), i < tw_tab.length → tw_ev n i pc L st μ = some (r, μ') →
    ∀ (p : Program) (e : Env) (s : State) (m : MethodId) (args : Array Value) (below : List Frame) (meth : Method) (c : Code), tw_Cx g p s m args meth c i → tw_Kp g p l e s m args below meth c i (MQ below (tw_Q g r μ') args s 0 0 (tw_A g)) pc L st μ := by
  intro n
  induction n with
  | zero => intro i pc L st μ r μ' hi h; cases h
  | succ n ih =>
    intro i pc L st μ r μ' hi h p e s m args below meth c C
    have hmet : ∀ (j : Nat) (as : List tw_V) (ν : tw_M) (r : Option tw_V) (ν' : tw_M), j < tw_tab.length → (tw_el as).length ≤ tw_ml j → tw_ev n j 0 (tw_en (tw_ml j) as) [] ν = some (r, ν') → tw_Me g l j as ν r ν' := by
      intro j as ν r ν' hj hle hev
      refine Met.ofW (cc := tw_by j) (maxL := tw_ml j) (ret := tw_re j) (tw_plain hj) rfl ?_
      intro p e s m args below meth c s₁ B hml hv
      obtain ⟨rfl, hvd, hP, hF⟩ := hv
      have hts := atoms_spec (ws := tw_wm j) B.pre
      have hown : s.vm.findClass (tw_nm j).cls = some m.cls := findClass_of_methodNamed B.named
      have K := ih j 0 (tw_en (tw_ml j) as) [] ν r ν' hj hev p e s m (as.map (tw_rv g)).toArray below meth c ⟨B.exec, B.bytes, hml, B.returns, B.notSynchronized, hown, hts, hF, hsh, hap⟩
      rw [lg_entry_eq]
      exact K (tw_en_ok hvd) (tw_en_len hle) s.heap [] _ hP va_S.rf (tw_LR_en hF hle)
    rw [tw_ev] at h
    unfold tw_st at h
    cases ho : tw_op (tw_cd i) pc with
    | none => rw [ho] at h; cases h
    | some o =>
      rw [ho] at h
      dsimp only at h
      cases hx : tw_ex o pc L st μ with
      | none => rw [hx] at h; cases h
      | some out =>
        rw [hx] at h
        refine tw_step (tw_all_ok hi ho) C hx ?_ ?_ ?_
        · intro q L' st' μ1 e1
          subst e1
          exact ih i q L' st' μ1 r μ' hi h p e s m args below meth c C
        · intro r1 e1
          subst e1
          cases h
          rfl
        · intro j as r1 q hj hle e1
          subst e1
          dsimp only at h
          cases hc : tw_ev n j 0 (tw_en (tw_ml j) as) [] μ with
          | none => rw [hc] at h; cases h
          | some y =>
            rw [hc] at h
            obtain ⟨v, μ1⟩ := y
            exact ⟨v, μ1, hmet j as μ v μ1 hj hle hc, ih i q L (v.toList ++ r1) μ1 r μ' hi h p e s m args below meth c C⟩
theorem tw_met {g : tw_E} {l : Launch} (hsh : tw_sh g) (hap : tw_ap g) {j : Nat} {as : List tw_V} {ν : tw_M} {r : Option tw_V} {ν' : tw_M} (hj : j < tw_tab.length) (hle : (tw_el as).length ≤ tw_ml j) (h : tw_call j as ν = some (r, ν')) : tw_Me g l j as ν r ν' := by
  obtain ⟨n, hev⟩ := tw_run_iff.mp h
  refine Met.ofW (cc := tw_by j) (maxL := tw_ml j) (ret := tw_re j) (tw_plain hj) rfl ?_
  intro p e s m args below meth c s₁ B hml hv
  obtain ⟨rfl, hvd, hP, hF⟩ := hv
  have hts := atoms_spec (ws := tw_wm j) B.pre
  have hown : s.vm.findClass (tw_nm j).cls = some m.cls := findClass_of_methodNamed B.named
  have K := tw_sound g l hsh hap n j 0 (tw_en (tw_ml j) as) [] ν r ν' hj hev p e s m (as.map (tw_rv g)).toArray below meth c ⟨B.exec, B.bytes, hml, B.returns, B.notSynchronized, hown, hts, hF, hsh, hap⟩
  rw [lg_entry_eq]
  exact K (tw_en_ok hvd) (tw_en_len hle) s.heap [] _ hP va_S.rf (tw_LR_en hF hle)
