/-! what a method answers has the kind that its name says -/
section
variable {r : Option tw_V}
theorem uz_nx (pc : Nat) (L : tw_L) (st : List tw_V) (μ : tw_M) (h : tw_nx pc L st μ = some (Sum.inr (Sum.inl r))) : False := by
  cases h
theorem uz_q1 (f : Int32 → Option Int32) (q : Nat) (L : tw_L) (st : List tw_V) (μ : tw_M) (h : tw_q1 f q L st μ = some (Sum.inr (Sum.inl r))) : False := by
  unfold tw_q1 at h
  first | (exact uz_nx _ _ _ _ h) | (repeat (any_goals (split at h))) <;> first | (cases h; done) | (exact uz_nx _ _ _ _ h)
theorem uz_q2 (f : Int32 → Int32 → Int32) (q : Nat) (L : tw_L) (st : List tw_V) (μ : tw_M) (h : tw_q2 f q L st μ = some (Sum.inr (Sum.inl r))) : False := by
  unfold tw_q2 at h
  first | (exact uz_nx _ _ _ _ h) | (repeat (any_goals (split at h))) <;> first | (cases h; done) | (exact uz_nx _ _ _ _ h)
theorem uz_q3 (f : Int64 → Int64 → Int64) (q : Nat) (L : tw_L) (st : List tw_V) (μ : tw_M) (h : tw_q3 f q L st μ = some (Sum.inr (Sum.inl r))) : False := by
  unfold tw_q3 at h
  first | (exact uz_nx _ _ _ _ h) | (repeat (any_goals (split at h))) <;> first | (cases h; done) | (exact uz_nx _ _ _ _ h)
theorem uz_q4 (f : Int64 → Int32 → Int64) (q : Nat) (L : tw_L) (st : List tw_V) (μ : tw_M) (h : tw_q4 f q L st μ = some (Sum.inr (Sum.inl r))) : False := by
  unfold tw_q4 at h
  first | (exact uz_nx _ _ _ _ h) | (repeat (any_goals (split at h))) <;> first | (cases h; done) | (exact uz_nx _ _ _ _ h)
theorem uz_qd (f : Int32 → Int32 → Int32) (q : Nat) (L : tw_L) (st : List tw_V) (μ : tw_M) (h : tw_qd f q L st μ = some (Sum.inr (Sum.inl r))) : False := by
  unfold tw_qd at h
  first | (exact uz_nx _ _ _ _ h) | (repeat (any_goals (split at h))) <;> first | (cases h; done) | (exact uz_nx _ _ _ _ h)
theorem uz_ql (f : Int64 → Int64 → Int64) (q : Nat) (L : tw_L) (st : List tw_V) (μ : tw_M) (h : tw_ql f q L st μ = some (Sum.inr (Sum.inl r))) : False := by
  unfold tw_ql at h
  first | (exact uz_nx _ _ _ _ h) | (repeat (any_goals (split at h))) <;> first | (cases h; done) | (exact uz_nx _ _ _ _ h)
theorem uz_qi (a q : Nat) (L : tw_L) (st : List tw_V) (μ : tw_M) (h : tw_qi a q L st μ = some (Sum.inr (Sum.inl r))) : False := by
  unfold tw_qi at h
  first | (exact uz_nx _ _ _ _ h) | (repeat (any_goals (split at h))) <;> first | (cases h; done) | (exact uz_nx _ _ _ _ h)
theorem uz_qj (a q : Nat) (L : tw_L) (st : List tw_V) (μ : tw_M) (h : tw_qj a q L st μ = some (Sum.inr (Sum.inl r))) : False := by
  unfold tw_qj at h
  first | (exact uz_nx _ _ _ _ h) | (repeat (any_goals (split at h))) <;> first | (cases h; done) | (exact uz_nx _ _ _ _ h)
theorem uz_qa (a q : Nat) (L : tw_L) (st : List tw_V) (μ : tw_M) (h : tw_qa a q L st μ = some (Sum.inr (Sum.inl r))) : False := by
  unfold tw_qa at h
  first | (exact uz_nx _ _ _ _ h) | (repeat (any_goals (split at h))) <;> first | (cases h; done) | (exact uz_nx _ _ _ _ h)
theorem uz_ri (a q : Nat) (L : tw_L) (st : List tw_V) (μ : tw_M) (h : tw_ri a q L st μ = some (Sum.inr (Sum.inl r))) : False := by
  unfold tw_ri at h
  first | (exact uz_nx _ _ _ _ h) | (repeat (any_goals (split at h))) <;> first | (cases h; done) | (exact uz_nx _ _ _ _ h)
theorem uz_rj (a q : Nat) (L : tw_L) (st : List tw_V) (μ : tw_M) (h : tw_rj a q L st μ = some (Sum.inr (Sum.inl r))) : False := by
  unfold tw_rj at h
  first | (exact uz_nx _ _ _ _ h) | (repeat (any_goals (split at h))) <;> first | (cases h; done) | (exact uz_nx _ _ _ _ h)
theorem uz_ra (a q : Nat) (L : tw_L) (st : List tw_V) (μ : tw_M) (h : tw_ra a q L st μ = some (Sum.inr (Sum.inl r))) : False := by
  unfold tw_ra at h
  first | (exact uz_nx _ _ _ _ h) | (repeat (any_goals (split at h))) <;> first | (cases h; done) | (exact uz_nx _ _ _ _ h)
theorem uz_ic (a : Nat) (c : Int32) (q : Nat) (L : tw_L) (st : List tw_V) (μ : tw_M) (h : tw_ic a c q L st μ = some (Sum.inr (Sum.inl r))) : False := by
  unfold tw_ic at h
  first | (exact uz_nx _ _ _ _ h) | (repeat (any_goals (split at h))) <;> first | (cases h; done) | (exact uz_nx _ _ _ _ h)
theorem uz_du (q : Nat) (L : tw_L) (st : List tw_V) (μ : tw_M) (h : tw_du q L st μ = some (Sum.inr (Sum.inl r))) : False := by
  unfold tw_du at h
  first | (exact uz_nx _ _ _ _ h) | (repeat (any_goals (split at h))) <;> first | (cases h; done) | (exact uz_nx _ _ _ _ h)
theorem uz_d2 (q : Nat) (L : tw_L) (st : List tw_V) (μ : tw_M) (h : tw_d2 q L st μ = some (Sum.inr (Sum.inl r))) : False := by
  unfold tw_d2 at h
  first | (exact uz_nx _ _ _ _ h) | (repeat (any_goals (split at h))) <;> first | (cases h; done) | (exact uz_nx _ _ _ _ h)
theorem uz_po (q : Nat) (L : tw_L) (st : List tw_V) (μ : tw_M) (h : tw_po q L st μ = some (Sum.inr (Sum.inl r))) : False := by
  unfold tw_po at h
  first | (exact uz_nx _ _ _ _ h) | (repeat (any_goals (split at h))) <;> first | (cases h; done) | (exact uz_nx _ _ _ _ h)
theorem uz_bz (a x y : Nat) (L : tw_L) (st : List tw_V) (μ : tw_M) (h : tw_bz a x y L st μ = some (Sum.inr (Sum.inl r))) : False := by
  unfold tw_bz at h
  first | (exact uz_nx _ _ _ _ h) | (repeat (any_goals (split at h))) <;> first | (cases h; done) | (exact uz_nx _ _ _ _ h)
theorem uz_bi (a x y : Nat) (L : tw_L) (st : List tw_V) (μ : tw_M) (h : tw_bi a x y L st μ = some (Sum.inr (Sum.inl r))) : False := by
  unfold tw_bi at h
  first | (exact uz_nx _ _ _ _ h) | (repeat (any_goals (split at h))) <;> first | (cases h; done) | (exact uz_nx _ _ _ _ h)
theorem uz_bn (x y : Nat) (L : tw_L) (st : List tw_V) (μ : tw_M) (h : tw_bn x y L st μ = some (Sum.inr (Sum.inl r))) : False := by
  unfold tw_bn at h
  first | (exact uz_nx _ _ _ _ h) | (repeat (any_goals (split at h))) <;> first | (cases h; done) | (exact uz_nx _ _ _ _ h)
theorem uz_bs (sw : List (Int32 × Nat)) (d : Nat) (L : tw_L) (st : List tw_V) (μ : tw_M) (h : tw_bs sw d L st μ = some (Sum.inr (Sum.inl r))) : False := by
  unfold tw_bs at h
  first | (exact uz_nx _ _ _ _ h) | (repeat (any_goals (split at h))) <;> first | (cases h; done) | (exact uz_nx _ _ _ _ h)
theorem uz_gf (c j q : Nat) (L : tw_L) (st : List tw_V) (μ : tw_M) (h : tw_gf c j q L st μ = some (Sum.inr (Sum.inl r))) : False := by
  unfold tw_gf at h
  first | (exact uz_nx _ _ _ _ h) | (repeat (any_goals (split at h))) <;> first | (cases h; done) | (exact uz_nx _ _ _ _ h)
theorem uz_pf (c j q : Nat) (L : tw_L) (st : List tw_V) (μ : tw_M) (h : tw_pf c j q L st μ = some (Sum.inr (Sum.inl r))) : False := by
  unfold tw_pf at h
  first | (exact uz_nx _ _ _ _ h) | (repeat (any_goals (split at h))) <;> first | (cases h; done) | (exact uz_nx _ _ _ _ h)
theorem uz_il (q : Nat) (L : tw_L) (st : List tw_V) (μ : tw_M) (h : tw_il q L st μ = some (Sum.inr (Sum.inl r))) : False := by
  unfold tw_il at h
  first | (exact uz_nx _ _ _ _ h) | (repeat (any_goals (split at h))) <;> first | (cases h; done) | (exact uz_nx _ _ _ _ h)
theorem uz_is (q : Nat) (L : tw_L) (st : List tw_V) (μ : tw_M) (h : tw_is q L st μ = some (Sum.inr (Sum.inl r))) : False := by
  unfold tw_is at h
  first | (exact uz_nx _ _ _ _ h) | (repeat (any_goals (split at h))) <;> first | (cases h; done) | (exact uz_nx _ _ _ _ h)
theorem uz_zl (q : Nat) (L : tw_L) (st : List tw_V) (μ : tw_M) (h : tw_zl q L st μ = some (Sum.inr (Sum.inl r))) : False := by
  unfold tw_zl at h
  first | (exact uz_nx _ _ _ _ h) | (repeat (any_goals (split at h))) <;> first | (cases h; done) | (exact uz_nx _ _ _ _ h)
theorem uz_zs (q : Nat) (L : tw_L) (st : List tw_V) (μ : tw_M) (h : tw_zs q L st μ = some (Sum.inr (Sum.inl r))) : False := by
  unfold tw_zs at h
  first | (exact uz_nx _ _ _ _ h) | (repeat (any_goals (split at h))) <;> first | (cases h; done) | (exact uz_nx _ _ _ _ h)
theorem uz_ql2 (q : Nat) (L : tw_L) (st : List tw_V) (μ : tw_M) (h : tw_ql2 q L st μ = some (Sum.inr (Sum.inl r))) : False := by
  unfold tw_ql2 at h
  first | (exact uz_nx _ _ _ _ h) | (repeat (any_goals (split at h))) <;> first | (cases h; done) | (exact uz_nx _ _ _ _ h)
theorem uz_an (q : Nat) (L : tw_L) (st : List tw_V) (μ : tw_M) (h : tw_an q L st μ = some (Sum.inr (Sum.inl r))) : False := by
  unfold tw_an at h
  first | (exact uz_nx _ _ _ _ h) | (repeat (any_goals (split at h))) <;> first | (cases h; done) | (exact uz_nx _ _ _ _ h)
theorem uz_gs (i q : Nat) (L : tw_L) (st : List tw_V) (μ : tw_M) (h : tw_gs i q L st μ = some (Sum.inr (Sum.inl r))) : False := by
  unfold tw_gs at h
  first | (exact uz_nx _ _ _ _ h) | (repeat (any_goals (split at h))) <;> first | (cases h; done) | (exact uz_nx _ _ _ _ h)
theorem uz_cv (j na kd q : Nat) (st : List tw_V) (h : tw_cv j na kd q st = some (Sum.inr (Sum.inl r))) : False := by
  unfold tw_cv at h
  first | (exact uz_nx _ _ _ _ h) | (repeat (any_goals (split at h))) <;> first | (cases h; done) | (exact uz_nx _ _ _ _ h)
theorem uz_cs (j na q : Nat) (st : List tw_V) (h : tw_cs j na q st = some (Sum.inr (Sum.inl r))) : False := by
  unfold tw_cs at h
  first | (exact uz_nx _ _ _ _ h) | (repeat (any_goals (split at h))) <;> first | (cases h; done) | (exact uz_nx _ _ _ _ h)
theorem uz_sv (q : Nat) (L : tw_L) (st : List tw_V) (μ : tw_M) (h : tw_sv q L st μ = some (Sum.inr (Sum.inl r))) : False := by
  unfold tw_sv at h
  first | (exact uz_nx _ _ _ _ h) | (repeat (any_goals (split at h))) <;> first | (cases h; done) | (exact uz_nx _ _ _ _ h)
theorem uz_sc (q : Nat) (L : tw_L) (st : List tw_V) (μ : tw_M) (h : tw_sc q L st μ = some (Sum.inr (Sum.inl r))) : False := by
  unfold tw_sc at h
  first | (exact uz_nx _ _ _ _ h) | (repeat (any_goals (split at h))) <;> first | (cases h; done) | (exact uz_nx _ _ _ _ h)
theorem uz_bl (q : Nat) (L : tw_L) (st : List tw_V) (μ : tw_M) (h : tw_bl q L st μ = some (Sum.inr (Sum.inl r))) : False := by
  unfold tw_bl at h
  first | (exact uz_nx _ _ _ _ h) | (repeat (any_goals (split at h))) <;> first | (cases h; done) | (exact uz_nx _ _ _ _ h)
theorem uz_bn2 (q : Nat) (L : tw_L) (st : List tw_V) (μ : tw_M) (h : tw_bn2 q L st μ = some (Sum.inr (Sum.inl r))) : False := by
  unfold tw_bn2 at h
  first | (exact uz_nx _ _ _ _ h) | (repeat (any_goals (split at h))) <;> first | (cases h; done) | (exact uz_nx _ _ _ _ h)
theorem uz_mx (f : Int32 → Int32 → Int32) (q : Nat) (L : tw_L) (st : List tw_V) (μ : tw_M) (h : tw_mx f q L st μ = some (Sum.inr (Sum.inl r))) : False := by
  unfold tw_mx at h
  first | (exact uz_nx _ _ _ _ h) | (repeat (any_goals (split at h))) <;> first | (cases h; done) | (exact uz_nx _ _ _ _ h)
theorem uz_ma (q : Nat) (L : tw_L) (st : List tw_V) (μ : tw_M) (h : tw_ma q L st μ = some (Sum.inr (Sum.inl r))) : False := by
  unfold tw_ma at h
  first | (exact uz_nx _ _ _ _ h) | (repeat (any_goals (split at h))) <;> first | (cases h; done) | (exact uz_nx _ _ _ _ h)
end
theorem uz_ret {o : tw_Op} {pc : Nat} {L : tw_L} {st : List tw_V} {μ : tw_M} {r : Option tw_V} (h : tw_ex o pc L st μ = some (Sum.inr (Sum.inl r))) : ((o.1 = 66 ∨ o.1 = 75) ∧ ∃ x, r = some (tw_I x)) ∨ (o.1 = 67 ∧ ∃ x, r = some (tw_J x)) ∨ o.1 = 68 ∨ o.1 = 69 := by
  obtain ⟨n, w, a, b, c, d, t, sw⟩ := o
  unfold tw_ex at h
  dsimp only at h
  split at h
  all_goals first
    | exact (uz_nx _ _ _ _ h).elim
    | exact (uz_q1 _ _ _ _ _ h).elim
    | exact (uz_q2 _ _ _ _ _ h).elim
    | exact (uz_q3 _ _ _ _ _ h).elim
    | exact (uz_q4 _ _ _ _ _ h).elim
    | exact (uz_qd _ _ _ _ _ h).elim
    | exact (uz_ql _ _ _ _ _ h).elim
    | exact (uz_qi _ _ _ _ _ h).elim
    | exact (uz_qj _ _ _ _ _ h).elim
    | exact (uz_qa _ _ _ _ _ h).elim
    | exact (uz_ri _ _ _ _ _ h).elim
    | exact (uz_rj _ _ _ _ _ h).elim
    | exact (uz_ra _ _ _ _ _ h).elim
    | exact (uz_ic _ _ _ _ _ _ h).elim
    | exact (uz_du _ _ _ _ h).elim
    | exact (uz_d2 _ _ _ _ h).elim
    | exact (uz_po _ _ _ _ h).elim
    | exact (uz_bz _ _ _ _ _ _ h).elim
    | exact (uz_bi _ _ _ _ _ _ h).elim
    | exact (uz_bn _ _ _ _ _ h).elim
    | exact (uz_bs _ _ _ _ _ h).elim
    | exact (uz_gf _ _ _ _ _ _ h).elim
    | exact (uz_pf _ _ _ _ _ _ h).elim
    | exact (uz_il _ _ _ _ h).elim
    | exact (uz_is _ _ _ _ h).elim
    | exact (uz_zl _ _ _ _ h).elim
    | exact (uz_zs _ _ _ _ h).elim
    | exact (uz_ql2 _ _ _ _ h).elim
    | exact (uz_an _ _ _ _ h).elim
    | exact (uz_gs _ _ _ _ _ h).elim
    | exact (uz_cv _ _ _ _ _ h).elim
    | exact (uz_cs _ _ _ _ h).elim
    | exact (uz_sv _ _ _ _ h).elim
    | exact (uz_sc _ _ _ _ h).elim
    | exact (uz_bl _ _ _ _ h).elim
    | exact (uz_bn2 _ _ _ _ h).elim
    | exact (uz_mx _ _ _ _ _ h).elim
    | exact (uz_ma _ _ _ _ h).elim
    | (split at h <;> first | (cases h; done) | exact (uz_nx _ _ _ _ h).elim)
    | exact Or.inr (Or.inr (Or.inl rfl))
    | exact Or.inr (Or.inr (Or.inr rfl))
    | (refine Or.inl ⟨Or.inl rfl, ?_⟩; unfold tw_ri1 at h; split at h <;> first | (cases h; exact ⟨_, rfl⟩) | (cases h; done))
    | (refine Or.inl ⟨Or.inr rfl, ?_⟩; unfold tw_rn tw_rt at h; split at h <;> first | (split at h <;> first | (cases h; exact ⟨_, rfl⟩) | (cases h; done)) | (cases h; done))
    | (refine Or.inr (Or.inl ⟨rfl, ?_⟩); unfold tw_rl at h; split at h <;> first | (cases h; exact ⟨_, rfl⟩) | (cases h; done))
    | (cases h; done)
