/-- so many plain steps -/
def tw_go (cd : List (Nat × tw_Op)) : Nat → Nat → tw_L → List tw_V → tw_M → tw_O
  | 0, pc, L, st, μ => some (Sum.inl (pc, L, st, μ))
  | k + 1, pc, L, st, μ => match tw_op cd pc with
    | none => none
    | some o => match tw_ex o pc L st μ with
      | some (Sum.inl (q, L', st', μ')) => tw_go cd k q L' st' μ'
      | _ => none
def tw_bo (ty : FieldType) (x : Int32) (μ : tw_M) : Option (Option tw_V × tw_M) := if vp_nar ty x = x then some (some (tw_I x), μ) else none
section
variable {i pc q k : Nat} {cd : List (Nat × tw_Op)} {L L' : tw_L} {st st' : List tw_V} {μ μ' : tw_M} {o : tw_Op}
theorem tw_b_nx (hc : tw_cd i = cd) (ho : tw_op cd pc = some o) (hx : tw_ex o pc L st μ = some (Sum.inl (q, L', st', μ'))) : tw_run i pc L st μ = tw_run i q L' st' μ' :=
  tw_r_nx (by unfold tw_st; rw [hc, ho]; exact hx)
theorem tw_b (hc : tw_cd i = cd) (h : tw_go cd k pc L st μ = some (Sum.inl (q, L', st', μ'))) : tw_run i pc L st μ = tw_run i q L' st' μ' := by
  induction k generalizing pc L st μ with
  | zero => cases h; rfl
  | succ k ih =>
    rw [tw_go] at h
    split at h
    · cases h
    · rename_i o ho
      split at h
      · rename_i q1 L1 st1 μ1 hx
        rw [tw_b_nx hc ho hx]
        exact ih h
      · cases h
theorem tw_b_if {c : Prop} {d : Decidable c} {x y : Nat} (hc : tw_cd i = cd) (ho : tw_op cd pc = some o) (hx : tw_ex o pc L st μ = some (Sum.inl (@ite Nat c d x y, L', st', μ'))) : tw_run i pc L st μ = @ite _ c d (tw_run i x L' st' μ') (tw_run i y L' st' μ') := by
  rw [tw_b_nx hc ho hx]
  exact tw_ite
theorem tw_b_ck {c : Prop} {d : Decidable c} (hc : tw_cd i = cd) (ho : tw_op cd pc = some o) (hx : tw_ex o pc L st μ = @ite tw_O c d (some (Sum.inl (q, L', st', μ'))) none) : tw_run i pc L st μ = @ite _ c d (tw_run i q L' st' μ') none := by
  by_cases h : c
  · rw [if_pos h] at hx ⊢
    exact tw_b_nx hc ho hx
  · rw [if_neg h] at hx ⊢
    exact tw_r_no (by unfold tw_st; rw [hc, ho]; exact hx)
theorem tw_b_ck2 {c : Prop} {d : Decidable c} (hc : tw_cd i = cd) (ho : tw_op cd pc = some o) (hx : tw_ex o pc L st μ = @ite tw_O c d none (some (Sum.inl (q, L', st', μ')))) : tw_run i pc L st μ = @ite _ c d none (tw_run i q L' st' μ') := by
  by_cases h : c
  · rw [if_pos h] at hx ⊢
    exact tw_r_no (by unfold tw_st; rw [hc, ho]; exact hx)
  · rw [if_neg h] at hx ⊢
    exact tw_b_nx hc ho hx
theorem tw_b_cl {j : Nat} {as r : List tw_V} (hc : tw_cd i = cd) (ho : tw_op cd pc = some o) (hx : tw_ex o pc L st μ = some (Sum.inr (Sum.inr (j, as, r, q)))) : tw_run i pc L st μ = (tw_call j as μ).bind (fun x => tw_run i q L (x.1.toList ++ r) x.2) :=
  tw_r_cl (by unfold tw_st; rw [hc, ho]; exact hx)
theorem tw_b_rt {r : Option tw_V} (hc : tw_cd i = cd) (ho : tw_op cd pc = some o) (hx : tw_ex o pc L st μ = some (Sum.inr (Sum.inl r))) : tw_run i pc L st μ = some (r, μ) :=
  tw_r_rt (by unfold tw_st; rw [hc, ho]; exact hx)
theorem tw_b_br {ty : FieldType} {x : Int32} (hc : tw_cd i = cd) (ho : tw_op cd pc = some o) (hx : tw_ex o pc L st μ = tw_rt ty x) : tw_run i pc L st μ = tw_bo ty x μ := by
  unfold tw_rt at hx
  unfold tw_bo
  split at hx
  · rename_i h
    rw [if_pos h]
    exact tw_r_rt (by unfold tw_st; rw [hc, ho]; exact hx)
  · rename_i h
    rw [if_neg h]
    exact tw_r_no (by unfold tw_st; rw [hc, ho]; exact hx)
end
