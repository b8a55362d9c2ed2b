theorem tw_op_in : ∀ {cd : List (Nat × tw_Op)} {pc : Nat} {o : tw_Op}, tw_op cd pc = some o → (pc, o) ∈ cd
  | [], pc, o, h => by cases h
  | (q, x) :: cd, pc, o, h => by
    rw [tw_op] at h
    split at h
    · rename_i hq
      have hq := tw_nb hq
      cases h
      rw [hq]
      exact List.mem_cons_self
    · exact List.mem_cons_of_mem _ (tw_op_in h)
theorem tw_ex_big {n w a : Nat} {b : Int} {cv : Int32} {d : Int64} {t : List Nat} {sw : List (Int32 × Nat)} {pc : Nat} {L : tw_L} {st : List tw_V} {μ : tw_M} (h : 79 ≤ n) : tw_ex (n, w, a, b, cv, d, t, sw) pc L st μ = none := by
  unfold tw_ex
  dsimp only
  split <;> first | rfl | (exfalso; omega)
def tw_isI (o : tw_O) : Prop := ∀ x, o ≠ some (Sum.inr x)
def tw_isR (o : tw_O) : Prop := ∀ x, o ≠ some (Sum.inl x)

theorem tw_qi_I {a q r : Nat} {cv : Int32} {f1 : Int32 → Option Int32} {f2 : Int32 → Int32 → Int32} {f3 : Int64 → Int64 → Int64} {f4 : Int64 → Int32 → Int64} {sw : List (Int32 × Nat)} {L : tw_L} {st : List tw_V} {μ : tw_M} : tw_isI (tw_qi a q L st μ) := by
  intro x h
  simp only [tw_qi, tw_nx] at h
  repeat' (split at h)
  all_goals (first | (cases h; done) | (exact Sum.noConfusion (Option.some.inj h)) | (simp at h; done))
theorem tw_qj_I {a q r : Nat} {cv : Int32} {f1 : Int32 → Option Int32} {f2 : Int32 → Int32 → Int32} {f3 : Int64 → Int64 → Int64} {f4 : Int64 → Int32 → Int64} {sw : List (Int32 × Nat)} {L : tw_L} {st : List tw_V} {μ : tw_M} : tw_isI (tw_qj a q L st μ) := by
  intro x h
  simp only [tw_qj, tw_nx] at h
  repeat' (split at h)
  all_goals (first | (cases h; done) | (exact Sum.noConfusion (Option.some.inj h)) | (simp at h; done))
theorem tw_qa_I {a q r : Nat} {cv : Int32} {f1 : Int32 → Option Int32} {f2 : Int32 → Int32 → Int32} {f3 : Int64 → Int64 → Int64} {f4 : Int64 → Int32 → Int64} {sw : List (Int32 × Nat)} {L : tw_L} {st : List tw_V} {μ : tw_M} : tw_isI (tw_qa a q L st μ) := by
  intro x h
  simp only [tw_qa, tw_nx] at h
  repeat' (split at h)
  all_goals (first | (cases h; done) | (exact Sum.noConfusion (Option.some.inj h)) | (simp at h; done))
theorem tw_ri_I {a q r : Nat} {cv : Int32} {f1 : Int32 → Option Int32} {f2 : Int32 → Int32 → Int32} {f3 : Int64 → Int64 → Int64} {f4 : Int64 → Int32 → Int64} {sw : List (Int32 × Nat)} {L : tw_L} {st : List tw_V} {μ : tw_M} : tw_isI (tw_ri a q L st μ) := by
  intro x h
  simp only [tw_ri, tw_nx] at h
  repeat' (split at h)
  all_goals (first | (cases h; done) | (exact Sum.noConfusion (Option.some.inj h)) | (simp at h; done))
theorem tw_rj_I {a q r : Nat} {cv : Int32} {f1 : Int32 → Option Int32} {f2 : Int32 → Int32 → Int32} {f3 : Int64 → Int64 → Int64} {f4 : Int64 → Int32 → Int64} {sw : List (Int32 × Nat)} {L : tw_L} {st : List tw_V} {μ : tw_M} : tw_isI (tw_rj a q L st μ) := by
  intro x h
  simp only [tw_rj, tw_nx] at h
  repeat' (split at h)
  all_goals (first | (cases h; done) | (exact Sum.noConfusion (Option.some.inj h)) | (simp at h; done))
theorem tw_ra_I {a q r : Nat} {cv : Int32} {f1 : Int32 → Option Int32} {f2 : Int32 → Int32 → Int32} {f3 : Int64 → Int64 → Int64} {f4 : Int64 → Int32 → Int64} {sw : List (Int32 × Nat)} {L : tw_L} {st : List tw_V} {μ : tw_M} : tw_isI (tw_ra a q L st μ) := by
  intro x h
  simp only [tw_ra, tw_nx] at h
  repeat' (split at h)
  all_goals (first | (cases h; done) | (exact Sum.noConfusion (Option.some.inj h)) | (simp at h; done))
theorem tw_ic_I {a q r : Nat} {cv : Int32} {f1 : Int32 → Option Int32} {f2 : Int32 → Int32 → Int32} {f3 : Int64 → Int64 → Int64} {f4 : Int64 → Int32 → Int64} {sw : List (Int32 × Nat)} {L : tw_L} {st : List tw_V} {μ : tw_M} : tw_isI (tw_ic a cv q L st μ) := by
  intro x h
  simp only [tw_ic, tw_nx] at h
  repeat' (split at h)
  all_goals (first | (cases h; done) | (exact Sum.noConfusion (Option.some.inj h)) | (simp at h; done))
theorem tw_q1_I {a q r : Nat} {cv : Int32} {f1 : Int32 → Option Int32} {f2 : Int32 → Int32 → Int32} {f3 : Int64 → Int64 → Int64} {f4 : Int64 → Int32 → Int64} {sw : List (Int32 × Nat)} {L : tw_L} {st : List tw_V} {μ : tw_M} : tw_isI (tw_q1 f1 q L st μ) := by
  intro x h
  simp only [tw_q1, tw_nx] at h
  repeat' (split at h)
  all_goals (first | (cases h; done) | (exact Sum.noConfusion (Option.some.inj h)) | (simp at h; done))
theorem tw_q2_I {a q r : Nat} {cv : Int32} {f1 : Int32 → Option Int32} {f2 : Int32 → Int32 → Int32} {f3 : Int64 → Int64 → Int64} {f4 : Int64 → Int32 → Int64} {sw : List (Int32 × Nat)} {L : tw_L} {st : List tw_V} {μ : tw_M} : tw_isI (tw_q2 f2 q L st μ) := by
  intro x h
  simp only [tw_q2, tw_nx] at h
  repeat' (split at h)
  all_goals (first | (cases h; done) | (exact Sum.noConfusion (Option.some.inj h)) | (simp at h; done))
theorem tw_q3_I {a q r : Nat} {cv : Int32} {f1 : Int32 → Option Int32} {f2 : Int32 → Int32 → Int32} {f3 : Int64 → Int64 → Int64} {f4 : Int64 → Int32 → Int64} {sw : List (Int32 × Nat)} {L : tw_L} {st : List tw_V} {μ : tw_M} : tw_isI (tw_q3 f3 q L st μ) := by
  intro x h
  simp only [tw_q3, tw_nx] at h
  repeat' (split at h)
  all_goals (first | (cases h; done) | (exact Sum.noConfusion (Option.some.inj h)) | (simp at h; done))
theorem tw_q4_I {a q r : Nat} {cv : Int32} {f1 : Int32 → Option Int32} {f2 : Int32 → Int32 → Int32} {f3 : Int64 → Int64 → Int64} {f4 : Int64 → Int32 → Int64} {sw : List (Int32 × Nat)} {L : tw_L} {st : List tw_V} {μ : tw_M} : tw_isI (tw_q4 f4 q L st μ) := by
  intro x h
  simp only [tw_q4, tw_nx] at h
  repeat' (split at h)
  all_goals (first | (cases h; done) | (exact Sum.noConfusion (Option.some.inj h)) | (simp at h; done))
theorem tw_qd_I {a q r : Nat} {cv : Int32} {f1 : Int32 → Option Int32} {f2 : Int32 → Int32 → Int32} {f3 : Int64 → Int64 → Int64} {f4 : Int64 → Int32 → Int64} {sw : List (Int32 × Nat)} {L : tw_L} {st : List tw_V} {μ : tw_M} : tw_isI (tw_qd f2 q L st μ) := by
  intro x h
  simp only [tw_qd, tw_nx] at h
  repeat' (split at h)
  all_goals (first | (cases h; done) | (exact Sum.noConfusion (Option.some.inj h)) | (simp at h; done))
theorem tw_ql_I {a q r : Nat} {cv : Int32} {f1 : Int32 → Option Int32} {f2 : Int32 → Int32 → Int32} {f3 : Int64 → Int64 → Int64} {f4 : Int64 → Int32 → Int64} {sw : List (Int32 × Nat)} {L : tw_L} {st : List tw_V} {μ : tw_M} : tw_isI (tw_ql f3 q L st μ) := by
  intro x h
  simp only [tw_ql, tw_nx] at h
  repeat' (split at h)
  all_goals (first | (cases h; done) | (exact Sum.noConfusion (Option.some.inj h)) | (simp at h; done))
theorem tw_du_I {a q r : Nat} {cv : Int32} {f1 : Int32 → Option Int32} {f2 : Int32 → Int32 → Int32} {f3 : Int64 → Int64 → Int64} {f4 : Int64 → Int32 → Int64} {sw : List (Int32 × Nat)} {L : tw_L} {st : List tw_V} {μ : tw_M} : tw_isI (tw_du q L st μ) := by
  intro x h
  simp only [tw_du, tw_nx] at h
  repeat' (split at h)
  all_goals (first | (cases h; done) | (exact Sum.noConfusion (Option.some.inj h)) | (simp at h; done))
theorem tw_d2_I {a q r : Nat} {cv : Int32} {f1 : Int32 → Option Int32} {f2 : Int32 → Int32 → Int32} {f3 : Int64 → Int64 → Int64} {f4 : Int64 → Int32 → Int64} {sw : List (Int32 × Nat)} {L : tw_L} {st : List tw_V} {μ : tw_M} : tw_isI (tw_d2 q L st μ) := by
  intro x h
  simp only [tw_d2, tw_nx] at h
  repeat' (split at h)
  all_goals (first | (cases h; done) | (exact Sum.noConfusion (Option.some.inj h)) | (simp at h; done))
theorem tw_po_I {a q r : Nat} {cv : Int32} {f1 : Int32 → Option Int32} {f2 : Int32 → Int32 → Int32} {f3 : Int64 → Int64 → Int64} {f4 : Int64 → Int32 → Int64} {sw : List (Int32 × Nat)} {L : tw_L} {st : List tw_V} {μ : tw_M} : tw_isI (tw_po q L st μ) := by
  intro x h
  simp only [tw_po, tw_nx] at h
  repeat' (split at h)
  all_goals (first | (cases h; done) | (exact Sum.noConfusion (Option.some.inj h)) | (simp at h; done))
theorem tw_bz_I {a q r : Nat} {cv : Int32} {f1 : Int32 → Option Int32} {f2 : Int32 → Int32 → Int32} {f3 : Int64 → Int64 → Int64} {f4 : Int64 → Int32 → Int64} {sw : List (Int32 × Nat)} {L : tw_L} {st : List tw_V} {μ : tw_M} : tw_isI (tw_bz a q r L st μ) := by
  intro x h
  simp only [tw_bz, tw_nx] at h
  repeat' (split at h)
  all_goals (first | (cases h; done) | (exact Sum.noConfusion (Option.some.inj h)) | (simp at h; done))
theorem tw_bi_I {a q r : Nat} {cv : Int32} {f1 : Int32 → Option Int32} {f2 : Int32 → Int32 → Int32} {f3 : Int64 → Int64 → Int64} {f4 : Int64 → Int32 → Int64} {sw : List (Int32 × Nat)} {L : tw_L} {st : List tw_V} {μ : tw_M} : tw_isI (tw_bi a q r L st μ) := by
  intro x h
  simp only [tw_bi, tw_nx] at h
  repeat' (split at h)
  all_goals (first | (cases h; done) | (exact Sum.noConfusion (Option.some.inj h)) | (simp at h; done))
theorem tw_bn_I {a q r : Nat} {cv : Int32} {f1 : Int32 → Option Int32} {f2 : Int32 → Int32 → Int32} {f3 : Int64 → Int64 → Int64} {f4 : Int64 → Int32 → Int64} {sw : List (Int32 × Nat)} {L : tw_L} {st : List tw_V} {μ : tw_M} : tw_isI (tw_bn q r L st μ) := by
  intro x h
  simp only [tw_bn, tw_nx] at h
  repeat' (split at h)
  all_goals (first | (cases h; done) | (exact Sum.noConfusion (Option.some.inj h)) | (simp at h; done))
theorem tw_bs_I {a q r : Nat} {cv : Int32} {f1 : Int32 → Option Int32} {f2 : Int32 → Int32 → Int32} {f3 : Int64 → Int64 → Int64} {f4 : Int64 → Int32 → Int64} {sw : List (Int32 × Nat)} {L : tw_L} {st : List tw_V} {μ : tw_M} : tw_isI (tw_bs sw q L st μ) := by
  intro x h
  simp only [tw_bs, tw_nx] at h
  repeat' (split at h)
  all_goals (first | (cases h; done) | (exact Sum.noConfusion (Option.some.inj h)) | (simp at h; done))
theorem tw_gf_I {a q r : Nat} {cv : Int32} {f1 : Int32 → Option Int32} {f2 : Int32 → Int32 → Int32} {f3 : Int64 → Int64 → Int64} {f4 : Int64 → Int32 → Int64} {sw : List (Int32 × Nat)} {L : tw_L} {st : List tw_V} {μ : tw_M} : tw_isI (tw_gf a r q L st μ) := by
  intro x h
  simp only [tw_gf, tw_nx] at h
  repeat' (split at h)
  all_goals (first | (cases h; done) | (exact Sum.noConfusion (Option.some.inj h)) | (simp at h; done))
theorem tw_pf_I {a q r : Nat} {cv : Int32} {f1 : Int32 → Option Int32} {f2 : Int32 → Int32 → Int32} {f3 : Int64 → Int64 → Int64} {f4 : Int64 → Int32 → Int64} {sw : List (Int32 × Nat)} {L : tw_L} {st : List tw_V} {μ : tw_M} : tw_isI (tw_pf a r q L st μ) := by
  intro x h
  simp only [tw_pf, tw_nx] at h
  repeat' (split at h)
  all_goals (first | (cases h; done) | (exact Sum.noConfusion (Option.some.inj h)) | (simp at h; done))
theorem tw_il_I {a q r : Nat} {cv : Int32} {f1 : Int32 → Option Int32} {f2 : Int32 → Int32 → Int32} {f3 : Int64 → Int64 → Int64} {f4 : Int64 → Int32 → Int64} {sw : List (Int32 × Nat)} {L : tw_L} {st : List tw_V} {μ : tw_M} : tw_isI (tw_il q L st μ) := by
  intro x h
  simp only [tw_il, tw_nx] at h
  repeat' (split at h)
  all_goals (first | (cases h; done) | (exact Sum.noConfusion (Option.some.inj h)) | (simp at h; done))
theorem tw_is_I {a q r : Nat} {cv : Int32} {f1 : Int32 → Option Int32} {f2 : Int32 → Int32 → Int32} {f3 : Int64 → Int64 → Int64} {f4 : Int64 → Int32 → Int64} {sw : List (Int32 × Nat)} {L : tw_L} {st : List tw_V} {μ : tw_M} : tw_isI (tw_is q L st μ) := by
  intro x h
  simp only [tw_is, tw_nx] at h
  repeat' (split at h)
  all_goals (first | (cases h; done) | (exact Sum.noConfusion (Option.some.inj h)) | (simp at h; done))
theorem tw_zl_I {a q r : Nat} {cv : Int32} {f1 : Int32 → Option Int32} {f2 : Int32 → Int32 → Int32} {f3 : Int64 → Int64 → Int64} {f4 : Int64 → Int32 → Int64} {sw : List (Int32 × Nat)} {L : tw_L} {st : List tw_V} {μ : tw_M} : tw_isI (tw_zl q L st μ) := by
  intro x h
  simp only [tw_zl, tw_nx] at h
  repeat' (split at h)
  all_goals (first | (cases h; done) | (exact Sum.noConfusion (Option.some.inj h)) | (simp at h; done))
theorem tw_zs_I {a q r : Nat} {cv : Int32} {f1 : Int32 → Option Int32} {f2 : Int32 → Int32 → Int32} {f3 : Int64 → Int64 → Int64} {f4 : Int64 → Int32 → Int64} {sw : List (Int32 × Nat)} {L : tw_L} {st : List tw_V} {μ : tw_M} : tw_isI (tw_zs q L st μ) := by
  intro x h
  simp only [tw_zs, tw_nx] at h
  repeat' (split at h)
  all_goals (first | (cases h; done) | (exact Sum.noConfusion (Option.some.inj h)) | (simp at h; done))
theorem tw_ql2_I {a q r : Nat} {cv : Int32} {f1 : Int32 → Option Int32} {f2 : Int32 → Int32 → Int32} {f3 : Int64 → Int64 → Int64} {f4 : Int64 → Int32 → Int64} {sw : List (Int32 × Nat)} {L : tw_L} {st : List tw_V} {μ : tw_M} : tw_isI (tw_ql2 q L st μ) := by
  intro x h
  simp only [tw_ql2, tw_nx] at h
  repeat' (split at h)
  all_goals (first | (cases h; done) | (exact Sum.noConfusion (Option.some.inj h)) | (simp at h; done))
theorem tw_an_I {a q r : Nat} {cv : Int32} {f1 : Int32 → Option Int32} {f2 : Int32 → Int32 → Int32} {f3 : Int64 → Int64 → Int64} {f4 : Int64 → Int32 → Int64} {sw : List (Int32 × Nat)} {L : tw_L} {st : List tw_V} {μ : tw_M} : tw_isI (tw_an q L st μ) := by
  intro x h
  simp only [tw_an, tw_nx] at h
  repeat' (split at h)
  all_goals (first | (cases h; done) | (exact Sum.noConfusion (Option.some.inj h)) | (simp at h; done))
theorem tw_bl_I {a q r : Nat} {cv : Int32} {f1 : Int32 → Option Int32} {f2 : Int32 → Int32 → Int32} {f3 : Int64 → Int64 → Int64} {f4 : Int64 → Int32 → Int64} {sw : List (Int32 × Nat)} {L : tw_L} {st : List tw_V} {μ : tw_M} : tw_isI (tw_bl q L st μ) := by
  intro x h
  simp only [tw_bl, tw_nx] at h
  repeat' (split at h)
  all_goals (first | (cases h; done) | (exact Sum.noConfusion (Option.some.inj h)) | (simp at h; done))
theorem tw_bn2_I {a q r : Nat} {cv : Int32} {f1 : Int32 → Option Int32} {f2 : Int32 → Int32 → Int32} {f3 : Int64 → Int64 → Int64} {f4 : Int64 → Int32 → Int64} {sw : List (Int32 × Nat)} {L : tw_L} {st : List tw_V} {μ : tw_M} : tw_isI (tw_bn2 q L st μ) := by
  intro x h
  simp only [tw_bn2, tw_nx] at h
  repeat' (split at h)
  all_goals (first | (cases h; done) | (exact Sum.noConfusion (Option.some.inj h)) | (simp at h; done))
theorem tw_sv_I {a q r : Nat} {cv : Int32} {f1 : Int32 → Option Int32} {f2 : Int32 → Int32 → Int32} {f3 : Int64 → Int64 → Int64} {f4 : Int64 → Int32 → Int64} {sw : List (Int32 × Nat)} {L : tw_L} {st : List tw_V} {μ : tw_M} : tw_isI (tw_sv q L st μ) := by
  intro x h
  simp only [tw_sv, tw_nx] at h
  repeat' (split at h)
  all_goals (first | (cases h; done) | (exact Sum.noConfusion (Option.some.inj h)) | (simp at h; done))
theorem tw_sc_I {a q r : Nat} {cv : Int32} {f1 : Int32 → Option Int32} {f2 : Int32 → Int32 → Int32} {f3 : Int64 → Int64 → Int64} {f4 : Int64 → Int32 → Int64} {sw : List (Int32 × Nat)} {L : tw_L} {st : List tw_V} {μ : tw_M} : tw_isI (tw_sc q L st μ) := by
  intro x h
  simp only [tw_sc, tw_nx] at h
  repeat' (split at h)
  all_goals (first | (cases h; done) | (exact Sum.noConfusion (Option.some.inj h)) | (simp at h; done))
theorem tw_gs_I {a q r : Nat} {cv : Int32} {f1 : Int32 → Option Int32} {f2 : Int32 → Int32 → Int32} {f3 : Int64 → Int64 → Int64} {f4 : Int64 → Int32 → Int64} {sw : List (Int32 × Nat)} {L : tw_L} {st : List tw_V} {μ : tw_M} : tw_isI (tw_gs a q L st μ) := by
  intro x h
  simp only [tw_gs, tw_nx] at h
  repeat' (split at h)
  all_goals (first | (cases h; done) | (exact Sum.noConfusion (Option.some.inj h)) | (simp at h; done))
theorem tw_mx_I {a q r : Nat} {cv : Int32} {f1 : Int32 → Option Int32} {f2 : Int32 → Int32 → Int32} {f3 : Int64 → Int64 → Int64} {f4 : Int64 → Int32 → Int64} {sw : List (Int32 × Nat)} {L : tw_L} {st : List tw_V} {μ : tw_M} : tw_isI (tw_mx f2 q L st μ) := by
  intro x h
  simp only [tw_mx, tw_nx] at h
  repeat' (split at h)
  all_goals (first | (cases h; done) | (exact Sum.noConfusion (Option.some.inj h)) | (simp at h; done))
theorem tw_ma_I {a q r : Nat} {cv : Int32} {f1 : Int32 → Option Int32} {f2 : Int32 → Int32 → Int32} {f3 : Int64 → Int64 → Int64} {f4 : Int64 → Int32 → Int64} {sw : List (Int32 × Nat)} {L : tw_L} {st : List tw_V} {μ : tw_M} : tw_isI (tw_ma q L st μ) := by
  intro x h
  simp only [tw_ma, tw_nx] at h
  repeat' (split at h)
  all_goals (first | (cases h; done) | (exact Sum.noConfusion (Option.some.inj h)) | (simp at h; done))
theorem tw_nx_I {a q r : Nat} {cv : Int32} {f1 : Int32 → Option Int32} {f2 : Int32 → Int32 → Int32} {f3 : Int64 → Int64 → Int64} {f4 : Int64 → Int32 → Int64} {sw : List (Int32 × Nat)} {L : tw_L} {st : List tw_V} {μ : tw_M} : tw_isI (tw_nx q L st μ) := by
  intro x h
  simp only [tw_nx, tw_nx] at h
  repeat' (split at h)
  all_goals (first | (cases h; done) | (exact Sum.noConfusion (Option.some.inj h)) | (simp at h; done))
theorem tw_cv_R {a q r w : Nat} {ty : FieldType} {st : List tw_V} : tw_isR (tw_cv a q r w st) := by
  intro x h
  simp only [tw_cv, tw_rt] at h
  repeat' (split at h)
  all_goals (first | (cases h; done) | (exact Sum.noConfusion (Option.some.inj h)) | (simp at h; done))
theorem tw_cs_R {a q r w : Nat} {ty : FieldType} {st : List tw_V} : tw_isR (tw_cs a q r st) := by
  intro x h
  simp only [tw_cs, tw_rt] at h
  repeat' (split at h)
  all_goals (first | (cases h; done) | (exact Sum.noConfusion (Option.some.inj h)) | (simp at h; done))
theorem tw_ri1_R {a q r w : Nat} {ty : FieldType} {st : List tw_V} : tw_isR (tw_ri1 st) := by
  intro x h
  simp only [tw_ri1, tw_rt] at h
  repeat' (split at h)
  all_goals (first | (cases h; done) | (exact Sum.noConfusion (Option.some.inj h)) | (simp at h; done))
theorem tw_rn_R {a q r w : Nat} {ty : FieldType} {st : List tw_V} : tw_isR (tw_rn ty st) := by
  intro x h
  simp only [tw_rn, tw_rt] at h
  repeat' (split at h)
  all_goals (first | (cases h; done) | (exact Sum.noConfusion (Option.some.inj h)) | (simp at h; done))
theorem tw_rl_R {a q r w : Nat} {ty : FieldType} {st : List tw_V} : tw_isR (tw_rl st) := by
  intro x h
  simp only [tw_rl, tw_rt] at h
  repeat' (split at h)
  all_goals (first | (cases h; done) | (exact Sum.noConfusion (Option.some.inj h)) | (simp at h; done))
theorem tw_rr_R {a q r w : Nat} {ty : FieldType} {st : List tw_V} : tw_isR (tw_rr st) := by
  intro x h
  simp only [tw_rr, tw_rt] at h
  repeat' (split at h)
  all_goals (first | (cases h; done) | (exact Sum.noConfusion (Option.some.inj h)) | (simp at h; done))
theorem tw_rv0_R {a q r w : Nat} {ty : FieldType} {st : List tw_V} : tw_isR (tw_rv0 st) := by
  intro x h
  simp only [tw_rv0, tw_rt] at h
  repeat' (split at h)
  all_goals (first | (cases h; done) | (exact Sum.noConfusion (Option.some.inj h)) | (simp at h; done))
section
variable {g : tw_E} {p : Program} {l : Launch} {e : Env} {s : State} {m : MethodId} {args : Array Value} {below : List Frame} {meth : Method} {c : Code} {i pc q : Nat} {Qf : State → Prop} {L L' : tw_L} {st st' : List tw_V} {μ μ' : tw_M}
theorem tw_cv_j {j na kd q : Nat} {st : List tw_V} {j' : Nat} {as r : List tw_V} {q' : Nat} (h : tw_cv j na kd q st = some (Sum.inr (Sum.inr (j', as, r, q')))) : j' = j := by
  unfold tw_cv at h
  repeat' (split at h)
  all_goals first | (cases h; rfl) | cases h
theorem tw_cv_l {j na kd q : Nat} {st : List tw_V} {j' : Nat} {as r : List tw_V} {q' : Nat} (h : tw_cv j na kd q st = some (Sum.inr (Sum.inr (j', as, r, q')))) : (tw_el as).length ≤ tw_ml j' := by
  unfold tw_cv at h
  split at h
  · split at h
    · split at h
      · rename_i hc
        cases h
        exact hc.2.2
      · cases h
    · cases h
  · cases h
theorem tw_cs_l {j na q : Nat} {st : List tw_V} {j' : Nat} {as r : List tw_V} {q' : Nat} (h : tw_cs j na q st = some (Sum.inr (Sum.inr (j', as, r, q')))) : (tw_el as).length ≤ tw_ml j' := by
  unfold tw_cs at h
  split at h
  · rename_i hc
    cases h
    exact hc.2.2
  · cases h
theorem tw_cs_j {j na q : Nat} {st : List tw_V} {j' : Nat} {as r : List tw_V} {q' : Nat} (h : tw_cs j na q st = some (Sum.inr (Sum.inr (j', as, r, q')))) : j' = j := by
  unfold tw_cs at h
  repeat' (split at h)
  all_goals first | (cases h; rfl) | cases h

set_option maxHeartbeats 4000000 in
theorem tw_step {o : tw_Op} {out : (Nat × tw_L × List tw_V × tw_M) ⊕ (Option tw_V ⊕ (Nat × List tw_V × List tw_V × Nat))} (hk : tw_opk i pc o = true) (C : tw_Cx g p s m args meth c i) (hx : tw_ex o pc L st μ = some out)
    (hnx : ∀ q L' st' μ', out = Sum.inl (q, L', st', μ') → tw_Kp g p l e s m args below meth c i Qf q L' st' μ') (hrt : ∀ r, out = Sum.inr (Sum.inl r) → Qf = MQ below (tw_Q g r μ) args s 0 0 (tw_A g)) (hcl : ∀ j as r q, j < tw_tab.length → (tw_el as).length ≤ tw_ml j → out = Sum.inr (Sum.inr (j, as, r, q)) → ∃ rv0 μ', tw_Me g l j as μ rv0 μ' ∧ tw_Kp g p l e s m args below meth c i Qf q L (rv0.toList ++ r) μ') : tw_Kp g p l e s m args below meth c i Qf pc L st μ := by
  obtain ⟨n, w, a, b, cv, d, t, sw⟩ := o
  by_cases hn : n < 79
  · match n, hn, hk, hx with
    | 0, _, hk, hx =>
      have hk2 : (decide (w = 1) && decide (Int32.ofInt b = cv) && decide (decode (tw_by i) pc = .ok (.iconst b, w))) = true := hk
      simp only [Bool.and_eq_true, decide_eq_true_eq] at hk2
      obtain ⟨⟨hw, h1⟩, hd⟩ := hk2
      subst hw
      rcases out with ⟨q, L', st', μ'⟩ | x
      · exact tw_o0 h1 C hd hx (hnx _ _ _ _ rfl)
      · cases hx
    | 1, _, hk, hx =>
      have hk2 : (decide (w = 2) && decide ((Int8.ofInt b).toInt32 = cv) && decide (decode (tw_by i) pc = .ok (.bipush b, w))) = true := hk
      simp only [Bool.and_eq_true, decide_eq_true_eq] at hk2
      obtain ⟨⟨hw, h1⟩, hd⟩ := hk2
      subst hw
      rcases out with ⟨q, L', st', μ'⟩ | x
      · exact tw_o1 h1 C hd hx (hnx _ _ _ _ rfl)
      · cases hx
    | 2, _, hk, hx =>
      have hk2 : (decide (w = 3) && decide ((Int16.ofInt b).toInt32 = cv) && decide (decode (tw_by i) pc = .ok (.sipush b, w))) = true := hk
      simp only [Bool.and_eq_true, decide_eq_true_eq] at hk2
      obtain ⟨⟨hw, h1⟩, hd⟩ := hk2
      subst hw
      rcases out with ⟨q, L', st', μ'⟩ | x
      · exact tw_o2 h1 C hd hx (hnx _ _ _ _ rfl)
      · cases hx
    | 3, _, hk, hx =>
      have hk2 : (decide (w = 2) && tw_g (tw_t t 0) (.constant (tw_nm i).cls a cv) && decide (decode (tw_by i) pc = .ok (.ldc a, w))) = true := hk
      simp only [Bool.and_eq_true, decide_eq_true_eq] at hk2
      obtain ⟨⟨hw, h1⟩, hd⟩ := hk2
      subst hw
      rcases out with ⟨q, L', st', μ'⟩ | x
      · exact tw_o3 (tw_g_in h1) C hd hx (hnx _ _ _ _ rfl)
      · cases hx
    | 4, _, hk, hx =>
      have hk2 : (decide (w = 1) && (decide (a < 2) && decide (Int64.ofNat a = d)) && decide (decode (tw_by i) pc = .ok (.lconst (Fin.ofNat 2 a), w))) = true := hk
      simp only [Bool.and_eq_true, decide_eq_true_eq] at hk2
      obtain ⟨⟨hw, ⟨h1, h2⟩⟩, hd⟩ := hk2
      subst hw
      rcases out with ⟨q, L', st', μ'⟩ | x
      · exact tw_o4 h1 h2 C hd hx (hnx _ _ _ _ rfl)
      · cases hx
    | 5, _, hk, hx =>
      have hk2 : (decide (w = 3) && tw_g (tw_t t 0) (.constantLong (tw_nm i).cls a d) && decide (decode (tw_by i) pc = .ok (.ldc2_w a, w))) = true := hk
      simp only [Bool.and_eq_true, decide_eq_true_eq] at hk2
      obtain ⟨⟨hw, h1⟩, hd⟩ := hk2
      subst hw
      rcases out with ⟨q, L', st', μ'⟩ | x
      · exact tw_o5 (tw_g_in h1) C hd hx (hnx _ _ _ _ rfl)
      · cases hx
    | 6, _, hk, hx =>
      have hk2 : (decide (w = 1) && true && decide (decode (tw_by i) pc = .ok (.aconst_null, w))) = true := hk
      simp only [Bool.and_eq_true, decide_eq_true_eq] at hk2
      obtain ⟨⟨hw, -⟩, hd⟩ := hk2
      subst hw
      rcases out with ⟨q, L', st', μ'⟩ | x
      · exact tw_o6 C hd hx (hnx _ _ _ _ rfl)
      · cases hx
    | 7, _, hk, hx =>
      have hk2 : (decide (w = 1) && decide (a < 4) && decide (decode (tw_by i) pc = .ok (.iload_n (Fin.ofNat 4 a), w))) = true := hk
      simp only [Bool.and_eq_true, decide_eq_true_eq] at hk2
      obtain ⟨⟨hw, h1⟩, hd⟩ := hk2
      subst hw
      rcases out with ⟨q, L', st', μ'⟩ | x
      · exact tw_o7 h1 C hd hx (hnx _ _ _ _ rfl)
      · exact absurd hx (tw_qi_I (a := _) (q := _) (r := 0) (cv := 0) (f1 := fun _ => none) (f2 := fun x _ => x) (f3 := fun x _ => x) (f4 := fun x _ => x) (sw := []) x)
    | 8, _, hk, hx =>
      have hk2 : (decide (w = 2) && true && decide (decode (tw_by i) pc = .ok (.iload a, w))) = true := hk
      simp only [Bool.and_eq_true, decide_eq_true_eq] at hk2
      obtain ⟨⟨hw, -⟩, hd⟩ := hk2
      subst hw
      rcases out with ⟨q, L', st', μ'⟩ | x
      · exact tw_o8 C hd hx (hnx _ _ _ _ rfl)
      · exact absurd hx (tw_qi_I (a := _) (q := _) (r := 0) (cv := 0) (f1 := fun _ => none) (f2 := fun x _ => x) (f3 := fun x _ => x) (f4 := fun x _ => x) (sw := []) x)
    | 9, _, hk, hx =>
      have hk2 : (decide (w = 1) && decide (a < 4) && decide (decode (tw_by i) pc = .ok (.lload_n (Fin.ofNat 4 a), w))) = true := hk
      simp only [Bool.and_eq_true, decide_eq_true_eq] at hk2
      obtain ⟨⟨hw, h1⟩, hd⟩ := hk2
      subst hw
      rcases out with ⟨q, L', st', μ'⟩ | x
      · exact tw_o9 h1 C hd hx (hnx _ _ _ _ rfl)
      · exact absurd hx (tw_qj_I (a := _) (q := _) (r := 0) (cv := 0) (f1 := fun _ => none) (f2 := fun x _ => x) (f3 := fun x _ => x) (f4 := fun x _ => x) (sw := []) x)
    | 10, _, hk, hx =>
      have hk2 : (decide (w = 2) && true && decide (decode (tw_by i) pc = .ok (.lload a, w))) = true := hk
      simp only [Bool.and_eq_true, decide_eq_true_eq] at hk2
      obtain ⟨⟨hw, -⟩, hd⟩ := hk2
      subst hw
      rcases out with ⟨q, L', st', μ'⟩ | x
      · exact tw_o10 C hd hx (hnx _ _ _ _ rfl)
      · exact absurd hx (tw_qj_I (a := _) (q := _) (r := 0) (cv := 0) (f1 := fun _ => none) (f2 := fun x _ => x) (f3 := fun x _ => x) (f4 := fun x _ => x) (sw := []) x)
    | 11, _, hk, hx =>
      have hk2 : (decide (w = 1) && decide (a < 4) && decide (decode (tw_by i) pc = .ok (.aload_n (Fin.ofNat 4 a), w))) = true := hk
      simp only [Bool.and_eq_true, decide_eq_true_eq] at hk2
      obtain ⟨⟨hw, h1⟩, hd⟩ := hk2
      subst hw
      rcases out with ⟨q, L', st', μ'⟩ | x
      · exact tw_o11 h1 C hd hx (hnx _ _ _ _ rfl)
      · exact absurd hx (tw_qa_I (a := _) (q := _) (r := 0) (cv := 0) (f1 := fun _ => none) (f2 := fun x _ => x) (f3 := fun x _ => x) (f4 := fun x _ => x) (sw := []) x)
    | 12, _, hk, hx =>
      have hk2 : (decide (w = 2) && true && decide (decode (tw_by i) pc = .ok (.aload a, w))) = true := hk
      simp only [Bool.and_eq_true, decide_eq_true_eq] at hk2
      obtain ⟨⟨hw, -⟩, hd⟩ := hk2
      subst hw
      rcases out with ⟨q, L', st', μ'⟩ | x
      · exact tw_o12 C hd hx (hnx _ _ _ _ rfl)
      · exact absurd hx (tw_qa_I (a := _) (q := _) (r := 0) (cv := 0) (f1 := fun _ => none) (f2 := fun x _ => x) (f3 := fun x _ => x) (f4 := fun x _ => x) (sw := []) x)
    | 13, _, hk, hx =>
      have hk2 : (decide (w = 1) && decide (a < 4) && decide (decode (tw_by i) pc = .ok (.istore_n (Fin.ofNat 4 a), w))) = true := hk
      simp only [Bool.and_eq_true, decide_eq_true_eq] at hk2
      obtain ⟨⟨hw, h1⟩, hd⟩ := hk2
      subst hw
      rcases out with ⟨q, L', st', μ'⟩ | x
      · exact tw_o13 h1 C hd hx (hnx _ _ _ _ rfl)
      · exact absurd hx (tw_ri_I (a := _) (q := _) (r := 0) (cv := 0) (f1 := fun _ => none) (f2 := fun x _ => x) (f3 := fun x _ => x) (f4 := fun x _ => x) (sw := []) x)
    | 14, _, hk, hx =>
      have hk2 : (decide (w = 2) && true && decide (decode (tw_by i) pc = .ok (.istore a, w))) = true := hk
      simp only [Bool.and_eq_true, decide_eq_true_eq] at hk2
      obtain ⟨⟨hw, -⟩, hd⟩ := hk2
      subst hw
      rcases out with ⟨q, L', st', μ'⟩ | x
      · exact tw_o14 C hd hx (hnx _ _ _ _ rfl)
      · exact absurd hx (tw_ri_I (a := _) (q := _) (r := 0) (cv := 0) (f1 := fun _ => none) (f2 := fun x _ => x) (f3 := fun x _ => x) (f4 := fun x _ => x) (sw := []) x)
    | 15, _, hk, hx =>
      have hk2 : (decide (w = 1) && decide (a < 4) && decide (decode (tw_by i) pc = .ok (.lstore_n (Fin.ofNat 4 a), w))) = true := hk
      simp only [Bool.and_eq_true, decide_eq_true_eq] at hk2
      obtain ⟨⟨hw, h1⟩, hd⟩ := hk2
      subst hw
      rcases out with ⟨q, L', st', μ'⟩ | x
      · exact tw_o15 h1 C hd hx (hnx _ _ _ _ rfl)
      · exact absurd hx (tw_rj_I (a := _) (q := _) (r := 0) (cv := 0) (f1 := fun _ => none) (f2 := fun x _ => x) (f3 := fun x _ => x) (f4 := fun x _ => x) (sw := []) x)
    | 16, _, hk, hx =>
      have hk2 : (decide (w = 2) && true && decide (decode (tw_by i) pc = .ok (.lstore a, w))) = true := hk
      simp only [Bool.and_eq_true, decide_eq_true_eq] at hk2
      obtain ⟨⟨hw, -⟩, hd⟩ := hk2
      subst hw
      rcases out with ⟨q, L', st', μ'⟩ | x
      · exact tw_o16 C hd hx (hnx _ _ _ _ rfl)
      · exact absurd hx (tw_rj_I (a := _) (q := _) (r := 0) (cv := 0) (f1 := fun _ => none) (f2 := fun x _ => x) (f3 := fun x _ => x) (f4 := fun x _ => x) (sw := []) x)
    | 17, _, hk, hx =>
      have hk2 : (decide (w = 1) && decide (a < 4) && decide (decode (tw_by i) pc = .ok (.astore_n (Fin.ofNat 4 a), w))) = true := hk
      simp only [Bool.and_eq_true, decide_eq_true_eq] at hk2
      obtain ⟨⟨hw, h1⟩, hd⟩ := hk2
      subst hw
      rcases out with ⟨q, L', st', μ'⟩ | x
      · exact tw_o17 h1 C hd hx (hnx _ _ _ _ rfl)
      · exact absurd hx (tw_ra_I (a := _) (q := _) (r := 0) (cv := 0) (f1 := fun _ => none) (f2 := fun x _ => x) (f3 := fun x _ => x) (f4 := fun x _ => x) (sw := []) x)
    | 18, _, hk, hx =>
      have hk2 : (decide (w = 2) && true && decide (decode (tw_by i) pc = .ok (.astore a, w))) = true := hk
      simp only [Bool.and_eq_true, decide_eq_true_eq] at hk2
      obtain ⟨⟨hw, -⟩, hd⟩ := hk2
      subst hw
      rcases out with ⟨q, L', st', μ'⟩ | x
      · exact tw_o18 C hd hx (hnx _ _ _ _ rfl)
      · exact absurd hx (tw_ra_I (a := _) (q := _) (r := 0) (cv := 0) (f1 := fun _ => none) (f2 := fun x _ => x) (f3 := fun x _ => x) (f4 := fun x _ => x) (sw := []) x)
    | 19, _, hk, hx =>
      have hk2 : (decide (w = 3) && decide (Int32.ofInt b = cv) && decide (decode (tw_by i) pc = .ok (.iinc a b, w))) = true := hk
      simp only [Bool.and_eq_true, decide_eq_true_eq] at hk2
      obtain ⟨⟨hw, h1⟩, hd⟩ := hk2
      subst hw
      rcases out with ⟨q, L', st', μ'⟩ | x
      · exact tw_o19 h1 C hd hx (hnx _ _ _ _ rfl)
      · exact absurd hx (tw_ic_I (a := _) (q := _) (r := 0) (cv := _) (f1 := fun _ => none) (f2 := fun x _ => x) (f3 := fun x _ => x) (f4 := fun x _ => x) (sw := []) x)
    | 20, _, hk, hx =>
      have hk2 : (decide (w = 1) && true && decide (decode (tw_by i) pc = .ok (.iadd, w))) = true := hk
      simp only [Bool.and_eq_true, decide_eq_true_eq] at hk2
      obtain ⟨⟨hw, -⟩, hd⟩ := hk2
      subst hw
      rcases out with ⟨q, L', st', μ'⟩ | x
      · exact tw_o20 C hd hx (hnx _ _ _ _ rfl)
      · exact absurd hx (tw_q2_I (a := 0) (q := _) (r := 0) (cv := 0) (f1 := fun _ => none) (f2 := _) (f3 := fun x _ => x) (f4 := fun x _ => x) (sw := []) x)
    | 21, _, hk, hx =>
      have hk2 : (decide (w = 1) && true && decide (decode (tw_by i) pc = .ok (.isub, w))) = true := hk
      simp only [Bool.and_eq_true, decide_eq_true_eq] at hk2
      obtain ⟨⟨hw, -⟩, hd⟩ := hk2
      subst hw
      rcases out with ⟨q, L', st', μ'⟩ | x
      · exact tw_o21 C hd hx (hnx _ _ _ _ rfl)
      · exact absurd hx (tw_q2_I (a := 0) (q := _) (r := 0) (cv := 0) (f1 := fun _ => none) (f2 := _) (f3 := fun x _ => x) (f4 := fun x _ => x) (sw := []) x)
    | 22, _, hk, hx =>
      have hk2 : (decide (w = 1) && true && decide (decode (tw_by i) pc = .ok (.imul, w))) = true := hk
      simp only [Bool.and_eq_true, decide_eq_true_eq] at hk2
      obtain ⟨⟨hw, -⟩, hd⟩ := hk2
      subst hw
      rcases out with ⟨q, L', st', μ'⟩ | x
      · exact tw_o22 C hd hx (hnx _ _ _ _ rfl)
      · exact absurd hx (tw_q2_I (a := 0) (q := _) (r := 0) (cv := 0) (f1 := fun _ => none) (f2 := _) (f3 := fun x _ => x) (f4 := fun x _ => x) (sw := []) x)
    | 23, _, hk, hx =>
      have hk2 : (decide (w = 1) && true && decide (decode (tw_by i) pc = .ok (.idiv, w))) = true := hk
      simp only [Bool.and_eq_true, decide_eq_true_eq] at hk2
      obtain ⟨⟨hw, -⟩, hd⟩ := hk2
      subst hw
      rcases out with ⟨q, L', st', μ'⟩ | x
      · exact tw_o23 C hd hx (hnx _ _ _ _ rfl)
      · exact absurd hx (tw_qd_I (a := 0) (q := _) (r := 0) (cv := 0) (f1 := fun _ => none) (f2 := _) (f3 := fun x _ => x) (f4 := fun x _ => x) (sw := []) x)
    | 24, _, hk, hx =>
      have hk2 : (decide (w = 1) && true && decide (decode (tw_by i) pc = .ok (.irem, w))) = true := hk
      simp only [Bool.and_eq_true, decide_eq_true_eq] at hk2
      obtain ⟨⟨hw, -⟩, hd⟩ := hk2
      subst hw
      rcases out with ⟨q, L', st', μ'⟩ | x
      · exact tw_o24 C hd hx (hnx _ _ _ _ rfl)
      · exact absurd hx (tw_qd_I (a := 0) (q := _) (r := 0) (cv := 0) (f1 := fun _ => none) (f2 := _) (f3 := fun x _ => x) (f4 := fun x _ => x) (sw := []) x)
    | 25, _, hk, hx =>
      have hk2 : (decide (w = 1) && true && decide (decode (tw_by i) pc = .ok (.iand, w))) = true := hk
      simp only [Bool.and_eq_true, decide_eq_true_eq] at hk2
      obtain ⟨⟨hw, -⟩, hd⟩ := hk2
      subst hw
      rcases out with ⟨q, L', st', μ'⟩ | x
      · exact tw_o25 C hd hx (hnx _ _ _ _ rfl)
      · exact absurd hx (tw_q2_I (a := 0) (q := _) (r := 0) (cv := 0) (f1 := fun _ => none) (f2 := _) (f3 := fun x _ => x) (f4 := fun x _ => x) (sw := []) x)
    | 26, _, hk, hx =>
      have hk2 : (decide (w = 1) && true && decide (decode (tw_by i) pc = .ok (.ior, w))) = true := hk
      simp only [Bool.and_eq_true, decide_eq_true_eq] at hk2
      obtain ⟨⟨hw, -⟩, hd⟩ := hk2
      subst hw
      rcases out with ⟨q, L', st', μ'⟩ | x
      · exact tw_o26 C hd hx (hnx _ _ _ _ rfl)
      · exact absurd hx (tw_q2_I (a := 0) (q := _) (r := 0) (cv := 0) (f1 := fun _ => none) (f2 := _) (f3 := fun x _ => x) (f4 := fun x _ => x) (sw := []) x)
    | 27, _, hk, hx =>
      cases hx
    | 28, _, hk, hx =>
      have hk2 : (decide (w = 1) && true && decide (decode (tw_by i) pc = .ok (.ishl, w))) = true := hk
      simp only [Bool.and_eq_true, decide_eq_true_eq] at hk2
      obtain ⟨⟨hw, -⟩, hd⟩ := hk2
      subst hw
      rcases out with ⟨q, L', st', μ'⟩ | x
      · exact tw_o28 C hd hx (hnx _ _ _ _ rfl)
      · exact absurd hx (tw_q2_I (a := 0) (q := _) (r := 0) (cv := 0) (f1 := fun _ => none) (f2 := _) (f3 := fun x _ => x) (f4 := fun x _ => x) (sw := []) x)
    | 29, _, hk, hx =>
      have hk2 : (decide (w = 1) && true && decide (decode (tw_by i) pc = .ok (.ishr, w))) = true := hk
      simp only [Bool.and_eq_true, decide_eq_true_eq] at hk2
      obtain ⟨⟨hw, -⟩, hd⟩ := hk2
      subst hw
      rcases out with ⟨q, L', st', μ'⟩ | x
      · exact tw_o29 C hd hx (hnx _ _ _ _ rfl)
      · exact absurd hx (tw_q2_I (a := 0) (q := _) (r := 0) (cv := 0) (f1 := fun _ => none) (f2 := _) (f3 := fun x _ => x) (f4 := fun x _ => x) (sw := []) x)
    | 30, _, hk, hx =>
      have hk2 : (decide (w = 1) && true && decide (decode (tw_by i) pc = .ok (.ineg, w))) = true := hk
      simp only [Bool.and_eq_true, decide_eq_true_eq] at hk2
      obtain ⟨⟨hw, -⟩, hd⟩ := hk2
      subst hw
      rcases out with ⟨q, L', st', μ'⟩ | x
      · exact tw_o30 C hd hx (hnx _ _ _ _ rfl)
      · exact absurd hx (tw_q1_I (a := 0) (q := _) (r := 0) (cv := 0) (f1 := fun x => some (-x)) (f2 := fun x _ => x) (f3 := fun x _ => x) (f4 := fun x _ => x) (sw := []) x)
    | 31, _, hk, hx =>
      have hk2 : (decide (w = 1) && true && decide (decode (tw_by i) pc = .ok (.ladd, w))) = true := hk
      simp only [Bool.and_eq_true, decide_eq_true_eq] at hk2
      obtain ⟨⟨hw, -⟩, hd⟩ := hk2
      subst hw
      rcases out with ⟨q, L', st', μ'⟩ | x
      · exact tw_o31 C hd hx (hnx _ _ _ _ rfl)
      · exact absurd hx (tw_q3_I (a := 0) (q := _) (r := 0) (cv := 0) (f1 := fun _ => none) (f2 := fun x _ => x) (f3 := _) (f4 := fun x _ => x) (sw := []) x)
    | 32, _, hk, hx =>
      have hk2 : (decide (w = 1) && true && decide (decode (tw_by i) pc = .ok (.lsub, w))) = true := hk
      simp only [Bool.and_eq_true, decide_eq_true_eq] at hk2
      obtain ⟨⟨hw, -⟩, hd⟩ := hk2
      subst hw
      rcases out with ⟨q, L', st', μ'⟩ | x
      · exact tw_o32 C hd hx (hnx _ _ _ _ rfl)
      · exact absurd hx (tw_q3_I (a := 0) (q := _) (r := 0) (cv := 0) (f1 := fun _ => none) (f2 := fun x _ => x) (f3 := _) (f4 := fun x _ => x) (sw := []) x)
    | 33, _, hk, hx =>
      have hk2 : (decide (w = 1) && true && decide (decode (tw_by i) pc = .ok (.lmul, w))) = true := hk
      simp only [Bool.and_eq_true, decide_eq_true_eq] at hk2
      obtain ⟨⟨hw, -⟩, hd⟩ := hk2
      subst hw
      rcases out with ⟨q, L', st', μ'⟩ | x
      · exact tw_o33 C hd hx (hnx _ _ _ _ rfl)
      · exact absurd hx (tw_q3_I (a := 0) (q := _) (r := 0) (cv := 0) (f1 := fun _ => none) (f2 := fun x _ => x) (f3 := _) (f4 := fun x _ => x) (sw := []) x)
    | 34, _, hk, hx =>
      have hk2 : (decide (w = 1) && true && decide (decode (tw_by i) pc = .ok (.ldiv, w))) = true := hk
      simp only [Bool.and_eq_true, decide_eq_true_eq] at hk2
      obtain ⟨⟨hw, -⟩, hd⟩ := hk2
      subst hw
      rcases out with ⟨q, L', st', μ'⟩ | x
      · exact tw_o34 C hd hx (hnx _ _ _ _ rfl)
      · exact absurd hx (tw_ql_I (a := 0) (q := _) (r := 0) (cv := 0) (f1 := fun _ => none) (f2 := fun x _ => x) (f3 := _) (f4 := fun x _ => x) (sw := []) x)
    | 35, _, hk, hx =>
      have hk2 : (decide (w = 1) && true && decide (decode (tw_by i) pc = .ok (.lrem, w))) = true := hk
      simp only [Bool.and_eq_true, decide_eq_true_eq] at hk2
      obtain ⟨⟨hw, -⟩, hd⟩ := hk2
      subst hw
      rcases out with ⟨q, L', st', μ'⟩ | x
      · exact tw_o35 C hd hx (hnx _ _ _ _ rfl)
      · exact absurd hx (tw_ql_I (a := 0) (q := _) (r := 0) (cv := 0) (f1 := fun _ => none) (f2 := fun x _ => x) (f3 := _) (f4 := fun x _ => x) (sw := []) x)
    | 36, _, hk, hx =>
      have hk2 : (decide (w = 1) && true && decide (decode (tw_by i) pc = .ok (.land, w))) = true := hk
      simp only [Bool.and_eq_true, decide_eq_true_eq] at hk2
      obtain ⟨⟨hw, -⟩, hd⟩ := hk2
      subst hw
      rcases out with ⟨q, L', st', μ'⟩ | x
      · exact tw_o36 C hd hx (hnx _ _ _ _ rfl)
      · exact absurd hx (tw_q3_I (a := 0) (q := _) (r := 0) (cv := 0) (f1 := fun _ => none) (f2 := fun x _ => x) (f3 := _) (f4 := fun x _ => x) (sw := []) x)
    | 37, _, hk, hx =>
      have hk2 : (decide (w = 1) && true && decide (decode (tw_by i) pc = .ok (.lor, w))) = true := hk
      simp only [Bool.and_eq_true, decide_eq_true_eq] at hk2
      obtain ⟨⟨hw, -⟩, hd⟩ := hk2
      subst hw
      rcases out with ⟨q, L', st', μ'⟩ | x
      · exact tw_o37 C hd hx (hnx _ _ _ _ rfl)
      · exact absurd hx (tw_q3_I (a := 0) (q := _) (r := 0) (cv := 0) (f1 := fun _ => none) (f2 := fun x _ => x) (f3 := _) (f4 := fun x _ => x) (sw := []) x)
    | 38, _, hk, hx =>
      have hk2 : (decide (w = 1) && true && decide (decode (tw_by i) pc = .ok (.lshl, w))) = true := hk
      simp only [Bool.and_eq_true, decide_eq_true_eq] at hk2
      obtain ⟨⟨hw, -⟩, hd⟩ := hk2
      subst hw
      rcases out with ⟨q, L', st', μ'⟩ | x
      · exact tw_o38 C hd hx (hnx _ _ _ _ rfl)
      · exact absurd hx (tw_q4_I (a := 0) (q := _) (r := 0) (cv := 0) (f1 := fun _ => none) (f2 := fun x _ => x) (f3 := fun x _ => x) (f4 := _) (sw := []) x)
    | 39, _, hk, hx =>
      have hk2 : (decide (w = 1) && true && decide (decode (tw_by i) pc = .ok (.lshr, w))) = true := hk
      simp only [Bool.and_eq_true, decide_eq_true_eq] at hk2
      obtain ⟨⟨hw, -⟩, hd⟩ := hk2
      subst hw
      rcases out with ⟨q, L', st', μ'⟩ | x
      · exact tw_o39 C hd hx (hnx _ _ _ _ rfl)
      · exact absurd hx (tw_q4_I (a := 0) (q := _) (r := 0) (cv := 0) (f1 := fun _ => none) (f2 := fun x _ => x) (f3 := fun x _ => x) (f4 := _) (sw := []) x)
    | 40, _, hk, hx =>
      have hk2 : (decide (w = 1) && true && decide (decode (tw_by i) pc = .ok (.lcmp, w))) = true := hk
      simp only [Bool.and_eq_true, decide_eq_true_eq] at hk2
      obtain ⟨⟨hw, -⟩, hd⟩ := hk2
      subst hw
      rcases out with ⟨q, L', st', μ'⟩ | x
      · exact tw_o40 C hd hx (hnx _ _ _ _ rfl)
      · simp only [tw_ex, tw_nx] at hx
        split at hx <;> cases hx
    | 41, _, hk, hx =>
      have hk2 : (decide (w = 1) && true && decide (decode (tw_by i) pc = .ok (.i2l, w))) = true := hk
      simp only [Bool.and_eq_true, decide_eq_true_eq] at hk2
      obtain ⟨⟨hw, -⟩, hd⟩ := hk2
      subst hw
      rcases out with ⟨q, L', st', μ'⟩ | x
      · exact tw_o41 C hd hx (hnx _ _ _ _ rfl)
      · simp only [tw_ex, tw_nx] at hx
        split at hx <;> cases hx
    | 42, _, hk, hx =>
      have hk2 : (decide (w = 1) && true && decide (decode (tw_by i) pc = .ok (.l2i, w))) = true := hk
      simp only [Bool.and_eq_true, decide_eq_true_eq] at hk2
      obtain ⟨⟨hw, -⟩, hd⟩ := hk2
      subst hw
      rcases out with ⟨q, L', st', μ'⟩ | x
      · exact tw_o42 C hd hx (hnx _ _ _ _ rfl)
      · simp only [tw_ex, tw_nx] at hx
        split at hx <;> cases hx
    | 43, _, hk, hx =>
      have hk2 : (decide (w = 1) && true && decide (decode (tw_by i) pc = .ok (.i2c, w))) = true := hk
      simp only [Bool.and_eq_true, decide_eq_true_eq] at hk2
      obtain ⟨⟨hw, -⟩, hd⟩ := hk2
      subst hw
      rcases out with ⟨q, L', st', μ'⟩ | x
      · exact tw_o43 C hd hx (hnx _ _ _ _ rfl)
      · exact absurd hx (tw_q1_I (a := 0) (q := _) (r := 0) (cv := 0) (f1 := fun x => some ((x.toUInt32 % 65536).toInt32)) (f2 := fun x _ => x) (f3 := fun x _ => x) (f4 := fun x _ => x) (sw := []) x)
    | 44, _, hk, hx =>
      have hk2 : (decide (w = 1) && true && decide (decode (tw_by i) pc = .ok (.dup, w))) = true := hk
      simp only [Bool.and_eq_true, decide_eq_true_eq] at hk2
      obtain ⟨⟨hw, -⟩, hd⟩ := hk2
      subst hw
      rcases out with ⟨q, L', st', μ'⟩ | x
      · exact tw_o44 C hd hx (hnx _ _ _ _ rfl)
      · exact absurd hx (tw_du_I (a := 0) (q := _) (r := 0) (cv := 0) (f1 := fun _ => none) (f2 := fun x _ => x) (f3 := fun x _ => x) (f4 := fun x _ => x) (sw := []) x)
    | 45, _, hk, hx =>
      have hk2 : (decide (w = 1) && true && decide (decode (tw_by i) pc = .ok (.dup2, w))) = true := hk
      simp only [Bool.and_eq_true, decide_eq_true_eq] at hk2
      obtain ⟨⟨hw, -⟩, hd⟩ := hk2
      subst hw
      rcases out with ⟨q, L', st', μ'⟩ | x
      · exact tw_o45 C hd hx (hnx _ _ _ _ rfl)
      · exact absurd hx (tw_d2_I (a := 0) (q := _) (r := 0) (cv := 0) (f1 := fun _ => none) (f2 := fun x _ => x) (f3 := fun x _ => x) (f4 := fun x _ => x) (sw := []) x)
    | 46, _, hk, hx =>
      have hk2 : (decide (w = 1) && true && decide (decode (tw_by i) pc = .ok (.pop, w))) = true := hk
      simp only [Bool.and_eq_true, decide_eq_true_eq] at hk2
      obtain ⟨⟨hw, -⟩, hd⟩ := hk2
      subst hw
      rcases out with ⟨q, L', st', μ'⟩ | x
      · exact tw_o46 C hd hx (hnx _ _ _ _ rfl)
      · exact absurd hx (tw_po_I (a := 0) (q := _) (r := 0) (cv := 0) (f1 := fun _ => none) (f2 := fun x _ => x) (f3 := fun x _ => x) (f4 := fun x _ => x) (sw := []) x)
    | 47, _, hk, hx =>
      have hk2 : (decide (w = 3) && decide (a < 6) && decide (decode (tw_by i) pc = .ok (.ifCond (tw_co a) ((tw_t t 0 : Int) - pc), w))) = true := hk
      simp only [Bool.and_eq_true, decide_eq_true_eq] at hk2
      obtain ⟨⟨hw, h1⟩, hd⟩ := hk2
      subst hw
      rcases out with ⟨q, L', st', μ'⟩ | x
      · exact tw_o47 h1 C hd hx (hnx _ _ _ _ rfl)
      · exact absurd hx (tw_bz_I (a := _) (q := _) (r := _) (cv := 0) (f1 := fun _ => none) (f2 := fun x _ => x) (f3 := fun x _ => x) (f4 := fun x _ => x) (sw := []) x)
    | 48, _, hk, hx =>
      have hk2 : (decide (w = 3) && decide (a < 6) && decide (decode (tw_by i) pc = .ok (.if_icmp (tw_co a) ((tw_t t 0 : Int) - pc), w))) = true := hk
      simp only [Bool.and_eq_true, decide_eq_true_eq] at hk2
      obtain ⟨⟨hw, h1⟩, hd⟩ := hk2
      subst hw
      rcases out with ⟨q, L', st', μ'⟩ | x
      · exact tw_o48 h1 C hd hx (hnx _ _ _ _ rfl)
      · exact absurd hx (tw_bi_I (a := _) (q := _) (r := _) (cv := 0) (f1 := fun _ => none) (f2 := fun x _ => x) (f3 := fun x _ => x) (f4 := fun x _ => x) (sw := []) x)
    | 49, _, hk, hx =>
      have hk2 : (decide (w = 3) && true && decide (decode (tw_by i) pc = .ok (.ifnull ((tw_t t 0 : Int) - pc), w))) = true := hk
      simp only [Bool.and_eq_true, decide_eq_true_eq] at hk2
      obtain ⟨⟨hw, -⟩, hd⟩ := hk2
      subst hw
      rcases out with ⟨q, L', st', μ'⟩ | x
      · exact tw_o49 C hd hx (hnx _ _ _ _ rfl)
      · exact absurd hx (tw_bn_I (a := 0) (q := _) (r := _) (cv := 0) (f1 := fun _ => none) (f2 := fun x _ => x) (f3 := fun x _ => x) (f4 := fun x _ => x) (sw := []) x)
    | 50, _, hk, hx =>
      have hk2 : (decide (w = 3) && true && decide (decode (tw_by i) pc = .ok (.ifnonnull ((tw_t t 0 : Int) - pc), w))) = true := hk
      simp only [Bool.and_eq_true, decide_eq_true_eq] at hk2
      obtain ⟨⟨hw, -⟩, hd⟩ := hk2
      subst hw
      rcases out with ⟨q, L', st', μ'⟩ | x
      · exact tw_o50 C hd hx (hnx _ _ _ _ rfl)
      · exact absurd hx (tw_bn_I (a := 0) (q := _) (r := _) (cv := 0) (f1 := fun _ => none) (f2 := fun x _ => x) (f3 := fun x _ => x) (f4 := fun x _ => x) (sw := []) x)
    | 51, _, hk, hx =>
      have hk2 : (decide (w = 3) && true && decide (decode (tw_by i) pc = .ok (.goto ((tw_t t 0 : Int) - pc), w))) = true := hk
      simp only [Bool.and_eq_true, decide_eq_true_eq] at hk2
      obtain ⟨⟨hw, -⟩, hd⟩ := hk2
      subst hw
      rcases out with ⟨q, L', st', μ'⟩ | x
      · exact tw_o51 C hd hx (hnx _ _ _ _ rfl)
      · cases hx
    | 52, _, hk, hx =>
      have hk2 : (true && (decide (sw.map (fun q => q.1) = (List.range sw.length).map nI) && decide (sw.length < 100)) && decide (decode (tw_by i) pc = .ok (.tableswitch ((tw_t t 0 : Int) - pc) 0 ((sw.length : Int) - 1) (sw.map (fun q => (q.2 : Int) - pc)).toArray, w))) = true := hk
      simp only [Bool.and_eq_true, decide_eq_true_eq] at hk2
      obtain ⟨⟨-, h1, h2⟩, hd⟩ := hk2
      rcases out with ⟨q, L', st', μ'⟩ | x
      · exact tw_o52 h1 h2 C hd hx (hnx _ _ _ _ rfl)
      · exact absurd hx (tw_bs_I (a := 0) (r := 0) (cv := 0) (f1 := fun _ => none) (f2 := fun x _ => x) (f3 := fun x _ => x) (f4 := fun x _ => x) x)
    | 53, _, hk, hx =>
      have hk2 : (decide (sw.length = 2 ∧ (sw.getD 0 (0, 0)).1 = 0 ∧ (sw.getD 1 (0, 0)).1 = 1) && true && decide (decode (tw_by i) pc = .ok (.lookupswitch ((tw_t t 0 : Int) - pc) (sw.map (fun q => (q.1.toInt, (q.2 : Int) - pc))).toArray, w))) = true := hk
      simp only [Bool.and_eq_true, decide_eq_true_eq] at hk2
      obtain ⟨⟨⟨h1, h2, h3⟩, -⟩, hd⟩ := hk2
      match sw, h1, h2, h3, hd, hx with
      | [(x0, q0), (x1, q1)], _, h2, h3, hd, hx =>
        have e0 : x0 = 0 := h2
        have e1 : x1 = 1 := h3
        subst e0 e1
        rcases out with ⟨q, L', st', μ'⟩ | x
        · exact tw_o53 C hd hx (hnx _ _ _ _ rfl)
        · exact absurd hx (tw_bs_I (a := 0) (r := 0) (cv := 0) (f1 := fun _ => none) (f2 := fun x _ => x) (f3 := fun x _ => x) (f4 := fun x _ => x) x)
    | 54, _, hk, hx =>
      have hk2 : (decide (w = 3) && (decide (tw_t t 0 < 7) && decide (tw_t t 1 < tw_nf (tw_t t 0)) && tw_g (tw_t t 2) (.fieldLink (tw_nm i).cls a (tw_cl (tw_t t 0)).1 ((tw_cl (tw_t t 0)).2.1 (tw_t t 1)).2.1 ((tw_cl (tw_t t 0)).2.1 (tw_t t 1)).2.2.1)) && decide (decode (tw_by i) pc = .ok (.getfield a, w))) = true := hk
      simp only [Bool.and_eq_true, decide_eq_true_eq] at hk2
      obtain ⟨⟨hw, ⟨⟨h1, h2⟩, h3⟩⟩, hd⟩ := hk2
      subst hw
      rcases out with ⟨q, L', st', μ'⟩ | x
      · exact tw_o54 h1 h2 (tw_g_in h3) C hd hx (hnx _ _ _ _ rfl)
      · exact absurd hx (tw_gf_I (a := _) (q := _) (r := _) (cv := 0) (f1 := fun _ => none) (f2 := fun x _ => x) (f3 := fun x _ => x) (f4 := fun x _ => x) (sw := []) x)
    | 55, _, hk, hx =>
      have hk2 : (decide (w = 3) && (decide (tw_t t 0 < 7) && decide (tw_t t 1 < tw_nf (tw_t t 0)) && tw_g (tw_t t 2) (.fieldLink (tw_nm i).cls a (tw_cl (tw_t t 0)).1 ((tw_cl (tw_t t 0)).2.1 (tw_t t 1)).2.1 ((tw_cl (tw_t t 0)).2.1 (tw_t t 1)).2.2.1)) && decide (decode (tw_by i) pc = .ok (.putfield a, w))) = true := hk
      simp only [Bool.and_eq_true, decide_eq_true_eq] at hk2
      obtain ⟨⟨hw, ⟨⟨h1, h2⟩, h3⟩⟩, hd⟩ := hk2
      subst hw
      rcases out with ⟨q, L', st', μ'⟩ | x
      · exact tw_o55 h1 h2 (tw_g_in h3) C hd hx (hnx _ _ _ _ rfl)
      · exact absurd hx (tw_pf_I (a := _) (q := _) (r := _) (cv := 0) (f1 := fun _ => none) (f2 := fun x _ => x) (f3 := fun x _ => x) (f4 := fun x _ => x) (sw := []) x)
    | 56, _, hk, hx =>
      have hk2 : (decide (w = 1) && true && decide (decode (tw_by i) pc = .ok (.iaload, w))) = true := hk
      simp only [Bool.and_eq_true, decide_eq_true_eq] at hk2
      obtain ⟨⟨hw, -⟩, hd⟩ := hk2
      subst hw
      rcases out with ⟨q, L', st', μ'⟩ | x
      · exact tw_o56 C hd hx (hnx _ _ _ _ rfl)
      · exact absurd hx (tw_il_I (a := 0) (q := _) (r := 0) (cv := 0) (f1 := fun _ => none) (f2 := fun x _ => x) (f3 := fun x _ => x) (f4 := fun x _ => x) (sw := []) x)
    | 57, _, hk, hx =>
      have hk2 : (decide (w = 1) && true && decide (decode (tw_by i) pc = .ok (.iastore, w))) = true := hk
      simp only [Bool.and_eq_true, decide_eq_true_eq] at hk2
      obtain ⟨⟨hw, -⟩, hd⟩ := hk2
      subst hw
      rcases out with ⟨q, L', st', μ'⟩ | x
      · exact tw_o57 C hd hx (hnx _ _ _ _ rfl)
      · exact absurd hx (tw_is_I (a := 0) (q := _) (r := 0) (cv := 0) (f1 := fun _ => none) (f2 := fun x _ => x) (f3 := fun x _ => x) (f4 := fun x _ => x) (sw := []) x)
    | 58, _, hk, hx =>
      have hk2 : (decide (w = 1) && true && decide (decode (tw_by i) pc = .ok (.baload, w))) = true := hk
      simp only [Bool.and_eq_true, decide_eq_true_eq] at hk2
      obtain ⟨⟨hw, -⟩, hd⟩ := hk2
      subst hw
      rcases out with ⟨q, L', st', μ'⟩ | x
      · exact tw_o58 C hd hx (hnx _ _ _ _ rfl)
      · exact absurd hx (tw_zl_I (a := 0) (q := _) (r := 0) (cv := 0) (f1 := fun _ => none) (f2 := fun x _ => x) (f3 := fun x _ => x) (f4 := fun x _ => x) (sw := []) x)
    | 59, _, hk, hx =>
      have hk2 : (decide (w = 1) && true && decide (decode (tw_by i) pc = .ok (.bastore, w))) = true := hk
      simp only [Bool.and_eq_true, decide_eq_true_eq] at hk2
      obtain ⟨⟨hw, -⟩, hd⟩ := hk2
      subst hw
      rcases out with ⟨q, L', st', μ'⟩ | x
      · exact tw_o59 C hd hx (hnx _ _ _ _ rfl)
      · exact absurd hx (tw_zs_I (a := 0) (q := _) (r := 0) (cv := 0) (f1 := fun _ => none) (f2 := fun x _ => x) (f3 := fun x _ => x) (f4 := fun x _ => x) (sw := []) x)
    | 60, _, hk, hx =>
      have hk2 : (decide (w = 1) && true && decide (decode (tw_by i) pc = .ok (.aaload, w))) = true := hk
      simp only [Bool.and_eq_true, decide_eq_true_eq] at hk2
      obtain ⟨⟨hw, -⟩, hd⟩ := hk2
      subst hw
      rcases out with ⟨q, L', st', μ'⟩ | x
      · exact tw_o60 C hd hx (hnx _ _ _ _ rfl)
      · exact absurd hx (tw_ql2_I (a := 0) (q := _) (r := 0) (cv := 0) (f1 := fun _ => none) (f2 := fun x _ => x) (f3 := fun x _ => x) (f4 := fun x _ => x) (sw := []) x)
    | 61, _, hk, hx =>
      have hk2 : (decide (w = 1) && true && decide (decode (tw_by i) pc = .ok (.arraylength, w))) = true := hk
      simp only [Bool.and_eq_true, decide_eq_true_eq] at hk2
      obtain ⟨⟨hw, -⟩, hd⟩ := hk2
      subst hw
      rcases out with ⟨q, L', st', μ'⟩ | x
      · exact tw_o61 C hd hx (hnx _ _ _ _ rfl)
      · exact absurd hx (tw_an_I (a := 0) (q := _) (r := 0) (cv := 0) (f1 := fun _ => none) (f2 := fun x _ => x) (f3 := fun x _ => x) (f4 := fun x _ => x) (sw := []) x)
    | 62, _, hk, hx =>
      have hk2 : (decide (w = 3) && (decide (tw_t t 0 < 2) && (match tw_t t 0 with
    | 0 => tw_g (tw_t t 1) (.fieldLink (tw_nm i).cls a "java/lang/String" "COMPACT_STRINGS" "Z")
    | _ => tw_g (tw_t t 1) (.fieldLink (tw_nm i).cls a "jdk/internal/util/Preconditions" "SIOOBE_FORMATTER" "Ljava/util/function/BiFunction;"))) && decide (decode (tw_by i) pc = .ok (.getstatic a, w))) = true := hk
      rw [Bool.and_eq_true, Bool.and_eq_true, Bool.and_eq_true] at hk2
      obtain ⟨⟨hw, h0, h1⟩, hd⟩ := hk2
      have hw := of_decide_eq_true hw
      have h0 := of_decide_eq_true h0
      have hd := of_decide_eq_true hd
      subst hw
      have hx2 : tw_gs (tw_t t 0) (pc + 3) L st μ = some out := hx
      generalize tw_t t 0 = t0 at h0 h1 hx2
      match t0, h0, h1, hx2 with
      | 0, _, h1, hx2 =>
        rcases out with ⟨q, L', st', μ'⟩ | x
        · exact tw_o62_0 (tw_g_in h1) C hd hx2 (hnx _ _ _ _ rfl)
        · cases hx2
      | 1, _, h1, hx2 =>
        rcases out with ⟨q, L', st', μ'⟩ | x
        · exact tw_o62_1 (tw_g_in h1) C hd hx2 (hnx _ _ _ _ rfl)
        · cases hx2
      | n + 2, h, _, _ => exact absurd h (by omega)
    | 63, _, hk, hx =>
      have hk2 : (decide (w = 2) && (decide ((tw_nm i).cls = "ThawWords$Text") && decide (tw_t t 0 < 6) && decide ((tw_stT.getD (tw_t t 0) (0, "")).1 = a)) && decide (decode (tw_by i) pc = .ok (.ldc a, w))) = true := hk
      simp only [Bool.and_eq_true, decide_eq_true_eq] at hk2
      obtain ⟨⟨hw, ⟨⟨h1, h2⟩, h3⟩⟩, hd⟩ := hk2
      subst hw
      rcases out with ⟨q, L', st', μ'⟩ | x
      · exact tw_o63 h1 h2 h3 C hd hx (hnx _ _ _ _ rfl)
      · cases hx
    | 64, _, hk, hx =>
      have hk2 : (decide (w = 3) && (decide (tw_t t 0 < tw_tab.length) && tw_g (tw_t t 3) (.methodLink (tw_nm i).cls a (tw_nm (tw_t t 0))) && tw_g (tw_t t 4) (.instanceMethod (tw_nm (tw_t t 0))) && tw_g (tw_t t 5) (.selects (tw_nm (tw_t t 0)).cls (tw_nm (tw_t t 0)) (tw_nm (tw_t t 0))) && tw_g (tw_t t 6) (.initialized (tw_nm (tw_t t 0)).cls) && tw_g (tw_t t 7) (.code (tw_nm (tw_t t 0)) (tw_by (tw_t t 0)) (tw_ml (tw_t t 0)) (tw_re (tw_t t 0))) && tw_mh (tw_nm (tw_t t 0)) && tw_np (tw_nm (tw_t t 0)) (tw_t t 1 - 1) && decide (0 < tw_t t 1) && tw_rmk i (tw_t t 0) && tw_kdk (tw_t t 2) (tw_nm (tw_t t 0)).cls) && decide (decode (tw_by i) pc = .ok (.invokevirtual a, w))) = true := hk
      simp only [Bool.and_eq_true, decide_eq_true_eq] at hk2
      obtain ⟨⟨hw, ⟨⟨⟨⟨⟨⟨⟨⟨⟨⟨h0, h1⟩, h2⟩, h3⟩, h4⟩, h5⟩, h6⟩, h7⟩, h8⟩, h9⟩, h10⟩⟩, hd⟩ := hk2
      subst hw
      rcases out with x | r | ⟨j, as, r, q⟩
      · exact absurd hx (tw_cv_R (a := _) (q := _) (r := _) (w := _) (ty := .int) x)
      · have hx2 : tw_cv (tw_t t 0) (tw_t t 1) (tw_t t 2) (pc + 3) st = some (Sum.inr (Sum.inl r)) := hx
        unfold tw_cv at hx2
        repeat' (split at hx2)
        all_goals cases hx2
      · have hj : j = tw_t t 0 := tw_cv_j (show tw_cv (tw_t t 0) (tw_t t 1) (tw_t t 2) (pc + 3) st = _ from hx)
        subst hj
        obtain ⟨rv0, μ', hM, k⟩ := hcl _ _ _ _ h0 (tw_cv_l (show tw_cv (tw_t t 0) (tw_t t 1) (tw_t t 2) (pc + 3) st = _ from hx)) rfl
        exact tw_o64 (tw_g_in h1) (tw_g_in h2) (tw_g_in h3) (tw_g_in h4) (tw_g_in h5) h6 h7 h9 h10 C hd hx hM k
    | 65, _, hk, hx =>
      have hk2 : (decide (w = 3) && (decide (tw_t t 0 < tw_tab.length) && tw_g (tw_t t 3) (.methodLink (tw_nm i).cls a (tw_nm (tw_t t 0))) && tw_g (tw_t t 4) (.static (tw_nm (tw_t t 0))) && tw_g (tw_t t 5) (.initialized (tw_nm (tw_t t 0)).cls) && tw_g (tw_t t 6) (.code (tw_nm (tw_t t 0)) (tw_by (tw_t t 0)) (tw_ml (tw_t t 0)) (tw_re (tw_t t 0))) && tw_mh (tw_nm (tw_t t 0)) && tw_np (tw_nm (tw_t t 0)) (tw_t t 1) && tw_rmk i (tw_t t 0)) && decide (decode (tw_by i) pc = .ok (.invokestatic a, w))) = true := hk
      simp only [Bool.and_eq_true, decide_eq_true_eq] at hk2
      obtain ⟨⟨hw, ⟨⟨⟨⟨⟨⟨⟨h0, h1⟩, h2⟩, h4⟩, h5⟩, h6⟩, h7⟩, h9⟩⟩, hd⟩ := hk2
      subst hw
      rcases out with x | r | ⟨j, as, r, q⟩
      · exact absurd hx (tw_cs_R (a := _) (q := _) (r := _) (w := 0) (ty := .int) x)
      · have hx2 : tw_cs (tw_t t 0) (tw_t t 1) (pc + 3) st = some (Sum.inr (Sum.inl r)) := hx
        unfold tw_cs at hx2
        repeat' (split at hx2)
        all_goals cases hx2
      · have hj : j = tw_t t 0 := tw_cs_j (show tw_cs (tw_t t 0) (tw_t t 1) (pc + 3) st = _ from hx)
        subst hj
        obtain ⟨rv0, μ', hM, k⟩ := hcl _ _ _ _ h0 (tw_cs_l (show tw_cs (tw_t t 0) (tw_t t 1) (pc + 3) st = _ from hx)) rfl
        exact tw_o65 (tw_g_in h1) (tw_g_in h2) (tw_g_in h4) (tw_g_in h5) h6 h7 h9 C hd hx hM k
    | 66, _, hk, hx =>
      have hk2 : (decide (w = 1) && decide (tw_re i = some .int) && decide (decode (tw_by i) pc = .ok (.ireturn, w))) = true := hk
      simp only [Bool.and_eq_true, decide_eq_true_eq] at hk2
      obtain ⟨⟨hw, h1⟩, hd⟩ := hk2
      subst hw
      rcases out with x | r | x
      · exact absurd hx (tw_ri1_R (a := 0) (q := 0) (r := 0) (w := 0) (ty := .int) x)
      · rw [hrt _ rfl]
        exact tw_o66 h1 C hd hx
      · have hx2 : tw_ri1 st = some (Sum.inr (Sum.inr x)) := hx
        simp only [tw_ri1, tw_rt] at hx2
        repeat' (split at hx2)
        all_goals cases hx2
    | 67, _, hk, hx =>
      have hk2 : (decide (w = 1) && decide (tw_re i = some .long) && decide (decode (tw_by i) pc = .ok (.lreturn, w))) = true := hk
      simp only [Bool.and_eq_true, decide_eq_true_eq] at hk2
      obtain ⟨⟨hw, h1⟩, hd⟩ := hk2
      subst hw
      rcases out with x | r | x
      · exact absurd hx (tw_rl_R (a := 0) (q := 0) (r := 0) (w := 0) (ty := .int) x)
      · rw [hrt _ rfl]
        exact tw_o67 h1 C hd hx
      · have hx2 : tw_rl st = some (Sum.inr (Sum.inr x)) := hx
        simp only [tw_rl, tw_rt] at hx2
        repeat' (split at hx2)
        all_goals cases hx2
    | 68, _, hk, hx =>
      have hk2 : (decide (w = 1) && (match tw_re i with
    | some (.object _) => true
    | some (.array _) => true
    | _ => false) && decide (decode (tw_by i) pc = .ok (.areturn, w))) = true := hk
      rw [Bool.and_eq_true, Bool.and_eq_true] at hk2
      obtain ⟨⟨hw, h1⟩, hd⟩ := hk2
      have hw := of_decide_eq_true hw
      have hd := of_decide_eq_true hd
      subst hw
      have hrt0 : ∃ rt, tw_re i = some rt ∧ ((∃ n, rt = .object n) ∨ ∃ t, rt = .array t) := by
        split at h1
        · rename_i x z; exact ⟨_, z, Or.inl ⟨_, rfl⟩⟩
        · rename_i x z; exact ⟨_, z, Or.inr ⟨_, rfl⟩⟩
        · cases h1
      obtain ⟨rt, hr1, hr2⟩ := hrt0
      rcases out with x | r | x
      · exact absurd hx (tw_rr_R (a := 0) (q := 0) (r := 0) (w := 0) (ty := .int) x)
      · rw [hrt _ rfl]
        exact tw_o68 hr1 hr2 C hd hx
      · have hx2 : tw_rr st = some (Sum.inr (Sum.inr x)) := hx
        unfold tw_rr at hx2
        split at hx2 <;> cases hx2
    | 69, _, hk, hx =>
      have hk2 : (decide (w = 1) && decide (tw_re i = none) && decide (decode (tw_by i) pc = .ok (.return_, w))) = true := hk
      simp only [Bool.and_eq_true, decide_eq_true_eq] at hk2
      obtain ⟨⟨hw, h1⟩, hd⟩ := hk2
      subst hw
      rcases out with x | r | x
      · exact absurd hx (tw_rv0_R (a := 0) (q := 0) (r := 0) (w := 0) (ty := .int) x)
      · rw [hrt _ rfl]
        exact tw_o69 h1 C hd hx
      · have hx2 : tw_rv0 st = some (Sum.inr (Sum.inr x)) := hx
        simp only [tw_rv0, tw_rt] at hx2
        repeat' (split at hx2)
        all_goals cases hx2
    | 70, _, hk, hx =>
      have hk2 : (decide (w = 3) && tw_g (tw_t t 0) (.fieldLink (tw_nm i).cls a "java/lang/String" "value" "[B") && decide (decode (tw_by i) pc = .ok (.getfield a, w))) = true := hk
      simp only [Bool.and_eq_true, decide_eq_true_eq] at hk2
      obtain ⟨⟨hw, h1⟩, hd⟩ := hk2
      subst hw
      rcases out with ⟨q, L', st', μ'⟩ | x
      · exact tw_o70 (tw_g_in h1) C hd hx (hnx _ _ _ _ rfl)
      · exact absurd hx (tw_sv_I (a := 0) (q := _) (r := 0) (cv := 0) (f1 := fun _ => none) (f2 := fun x _ => x) (f3 := fun x _ => x) (f4 := fun x _ => x) (sw := []) x)
    | 71, _, hk, hx =>
      have hk2 : (decide (w = 3) && tw_g (tw_t t 0) (.fieldLink (tw_nm i).cls a "java/lang/String" "coder" "B") && decide (decode (tw_by i) pc = .ok (.getfield a, w))) = true := hk
      simp only [Bool.and_eq_true, decide_eq_true_eq] at hk2
      obtain ⟨⟨hw, h1⟩, hd⟩ := hk2
      subst hw
      rcases out with ⟨q, L', st', μ'⟩ | x
      · exact tw_o71 (tw_g_in h1) C hd hx (hnx _ _ _ _ rfl)
      · exact absurd hx (tw_sc_I (a := 0) (q := _) (r := 0) (cv := 0) (f1 := fun _ => none) (f2 := fun x _ => x) (f3 := fun x _ => x) (f4 := fun x _ => x) (sw := []) x)
    | 72, _, hk, hx =>
      have hk2 : (decide (w = 1) && true && decide (decode (tw_by i) pc = .ok (.baload, w))) = true := hk
      simp only [Bool.and_eq_true, decide_eq_true_eq] at hk2
      obtain ⟨⟨hw, -⟩, hd⟩ := hk2
      subst hw
      rcases out with ⟨q, L', st', μ'⟩ | x
      · exact tw_o72 C hd hx (hnx _ _ _ _ rfl)
      · exact absurd hx (tw_bl_I (a := 0) (q := _) (r := 0) (cv := 0) (f1 := fun _ => none) (f2 := fun x _ => x) (f3 := fun x _ => x) (f4 := fun x _ => x) (sw := []) x)
    | 73, _, hk, hx =>
      have hk2 : (decide (w = 1) && true && decide (decode (tw_by i) pc = .ok (.arraylength, w))) = true := hk
      simp only [Bool.and_eq_true, decide_eq_true_eq] at hk2
      obtain ⟨⟨hw, -⟩, hd⟩ := hk2
      subst hw
      rcases out with ⟨q, L', st', μ'⟩ | x
      · exact tw_o73 C hd hx (hnx _ _ _ _ rfl)
      · exact absurd hx (tw_bn2_I (a := 0) (q := _) (r := 0) (cv := 0) (f1 := fun _ => none) (f2 := fun x _ => x) (f3 := fun x _ => x) (f4 := fun x _ => x) (sw := []) x)
    | 74, _, hk, hx =>
      have hk2 : (decide (w = 3) && (decide (tw_t t 0 < tw_tab.length) && decide (tw_nest[tw_t t 2]? = some ((tw_nm i).cls, a, (tw_nm (tw_t t 0)))) && tw_g (tw_t t 3) (.static (tw_nm (tw_t t 0))) && tw_g (tw_t t 4) (.initialized (tw_nm (tw_t t 0)).cls) && tw_g (tw_t t 5) (.code (tw_nm (tw_t t 0)) (tw_by (tw_t t 0)) (tw_ml (tw_t t 0)) (tw_re (tw_t t 0))) && tw_mh (tw_nm (tw_t t 0)) && tw_np (tw_nm (tw_t t 0)) (tw_t t 1) && tw_rmk i (tw_t t 0)) && decide (decode (tw_by i) pc = .ok (.invokestatic a, w))) = true := hk
      simp only [Bool.and_eq_true, decide_eq_true_eq] at hk2
      obtain ⟨⟨hw, ⟨⟨⟨⟨⟨⟨⟨h0, h1⟩, h2⟩, h4⟩, h5⟩, h6⟩, h7⟩, h9⟩⟩, hd⟩ := hk2
      subst hw
      rcases out with x | r | ⟨j, as, r, q⟩
      · exact absurd hx (tw_cs_R (a := _) (q := _) (r := _) (w := 0) (ty := .int) x)
      · have hx2 : tw_cs (tw_t t 0) (tw_t t 1) (pc + 3) st = some (Sum.inr (Sum.inl r)) := hx
        unfold tw_cs at hx2
        repeat' (split at hx2)
        all_goals cases hx2
      · have hj : j = tw_t t 0 := tw_cs_j (show tw_cs (tw_t t 0) (tw_t t 1) (pc + 3) st = _ from hx)
        subst hj
        obtain ⟨rv0, μ', hM, k⟩ := hcl _ _ _ _ h0 (tw_cs_l (show tw_cs (tw_t t 0) (tw_t t 1) (pc + 3) st = _ from hx)) rfl
        exact tw_o74 h1 (tw_g_in h2) (tw_g_in h4) (tw_g_in h5) h6 h7 h9 C hd hx hM k
    | 75, _, hk, hx =>
      have hk2 : (decide (w = 1) && decide (tw_re i = some (tw_ty a)) && decide (decode (tw_by i) pc = .ok (.ireturn, w))) = true := hk
      simp only [Bool.and_eq_true, decide_eq_true_eq] at hk2
      obtain ⟨⟨hw, h1⟩, hd⟩ := hk2
      subst hw
      rcases out with x | r | x
      · exact absurd hx (tw_rn_R (a := 0) (q := 0) (r := 0) (w := 0) (ty := _) x)
      · rw [hrt _ rfl]
        exact tw_o75 h1 (by unfold tw_ty; split <;> simp) C hd hx
      · have hx2 : tw_rn (tw_ty a) st = some (Sum.inr (Sum.inr x)) := hx
        simp only [tw_rn, tw_rt] at hx2
        repeat' (split at hx2)
        all_goals cases hx2
    | 76, _, hk, hx =>
      have hk2 : (decide (w = 3) && (tw_g (tw_t t 0) (.methodLink (tw_nm i).cls a Lib.Math.max.name) && tw_g (tw_t t 1) (.static Lib.Math.max.name) && tw_g (tw_t t 2) (.initialized "java/lang/Math") && tw_g (tw_t t 3) (.code Lib.Math.max.name Lib.Math.max.code 2 (some .int)) && decide (1 ≤ tw_fr i) && decide (21 ≤ tw_lo i)) && decide (decode (tw_by i) pc = .ok (.invokestatic a, w))) = true := hk
      simp only [Bool.and_eq_true, decide_eq_true_eq] at hk2
      obtain ⟨⟨hw, ⟨⟨⟨⟨⟨h1, h2⟩, h3⟩, h4⟩, h5⟩, h6⟩⟩, hd⟩ := hk2
      subst hw
      rcases out with ⟨q, L', st', μ'⟩ | x
      · exact tw_o76 (tw_g_in h1) (tw_g_in h2) (tw_g_in h3) (tw_g_in h4) h5 h6 C hd hx (hnx _ _ _ _ rfl)
      · exact absurd hx (tw_mx_I (a := 0) (q := _) (r := 0) (cv := 0) (f1 := fun _ => none) (f2 := _) (f3 := fun x _ => x) (f4 := fun x _ => x) (sw := []) x)
    | 77, _, hk, hx =>
      have hk2 : (decide (w = 3) && (tw_g (tw_t t 0) (.methodLink (tw_nm i).cls a Lib.Math.min.name) && tw_g (tw_t t 1) (.static Lib.Math.min.name) && tw_g (tw_t t 2) (.initialized "java/lang/Math") && tw_g (tw_t t 3) (.code Lib.Math.min.name Lib.Math.min.code 2 (some .int)) && decide (1 ≤ tw_fr i) && decide (21 ≤ tw_lo i)) && decide (decode (tw_by i) pc = .ok (.invokestatic a, w))) = true := hk
      simp only [Bool.and_eq_true, decide_eq_true_eq] at hk2
      obtain ⟨⟨hw, ⟨⟨⟨⟨⟨h1, h2⟩, h3⟩, h4⟩, h5⟩, h6⟩⟩, hd⟩ := hk2
      subst hw
      rcases out with ⟨q, L', st', μ'⟩ | x
      · exact tw_o77 (tw_g_in h1) (tw_g_in h2) (tw_g_in h3) (tw_g_in h4) h5 h6 C hd hx (hnx _ _ _ _ rfl)
      · exact absurd hx (tw_mx_I (a := 0) (q := _) (r := 0) (cv := 0) (f1 := fun _ => none) (f2 := _) (f3 := fun x _ => x) (f4 := fun x _ => x) (sw := []) x)
    | 78, _, hk, hx =>
      have hk2 : (decide (w = 3) && (tw_g (tw_t t 0) (.methodLink (tw_nm i).cls a Lib.Math.abs.name) && tw_g (tw_t t 1) (.static Lib.Math.abs.name) && tw_g (tw_t t 2) (.initialized "java/lang/Math") && tw_g (tw_t t 3) (.code Lib.Math.abs.name Lib.Math.abs.code 1 (some .int)) && decide (1 ≤ tw_fr i) && decide (21 ≤ tw_lo i)) && decide (decode (tw_by i) pc = .ok (.invokestatic a, w))) = true := hk
      simp only [Bool.and_eq_true, decide_eq_true_eq] at hk2
      obtain ⟨⟨hw, ⟨⟨⟨⟨⟨h1, h2⟩, h3⟩, h4⟩, h5⟩, h6⟩⟩, hd⟩ := hk2
      subst hw
      rcases out with ⟨q, L', st', μ'⟩ | x
      · exact tw_o78 (tw_g_in h1) (tw_g_in h2) (tw_g_in h3) (tw_g_in h4) h5 h6 C hd hx (hnx _ _ _ _ rfl)
      · exact absurd hx (tw_ma_I (a := 0) (q := _) (r := 0) (cv := 0) (f1 := fun _ => none) (f2 := fun x _ => x) (f3 := fun x _ => x) (f4 := fun x _ => x) (sw := []) x)
    | n + 79, h, _, _ => exact absurd h (by omega)
  · rw [tw_ex_big (by omega)] at hx
    cases hx
end
