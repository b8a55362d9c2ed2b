def tw_gt (i : Nat) : tw_Mt := tw_tab.getD i (.mk #[], ⟨"", "", ""⟩, 0, none, 0, 0, [])
def tw_by (i : Nat) : ByteArray := (tw_gt i).1
def tw_nm (i : Nat) : MethodName := (tw_gt i).2.1
def tw_ml (i : Nat) : Nat := (tw_gt i).2.2.1
def tw_re (i : Nat) : Option FieldType := (tw_gt i).2.2.2.1
def tw_fr (i : Nat) : Nat := (tw_gt i).2.2.2.2.1
def tw_lo (i : Nat) : Nat := (tw_gt i).2.2.2.2.2.1
def tw_cd (i : Nat) : List (Nat × tw_Op) := (tw_gt i).2.2.2.2.2.2
def tw_op : List (Nat × tw_Op) → Nat → Option tw_Op
  | [], _ => none
  | (q, o) :: l, pc => match Nat.beq q pc with
    | true => some o
    | false => tw_op l pc
/-- a branch -/
def tw_br (c : Prop) (d : Decidable c) (x y : Nat) (L : tw_L) (st : List tw_V) (μ : tw_M) : tw_O := tw_nx (@ite Nat c d x y) L st μ
def tw_bz (a x y : Nat) (L : tw_L) (st : List tw_V) (μ : tw_M) : tw_O := match st with
  | Sum.inl v :: r => match a with
    | 0 => tw_nx (if v = 0 then x else y) L r μ
    | 1 => tw_nx (if v = 0 then y else x) L r μ
    | 2 => tw_nx (if v < 0 then x else y) L r μ
    | 3 => tw_nx (if 0 ≤ v then x else y) L r μ
    | 4 => tw_nx (if 0 < v then x else y) L r μ
    | _ => tw_nx (if v ≤ 0 then x else y) L r μ
  | _ => none
def tw_bi (a x y : Nat) (L : tw_L) (st : List tw_V) (μ : tw_M) : tw_O := match st with
  | Sum.inl w :: Sum.inl v :: r => match a with
    | 0 => tw_nx (if v = w then x else y) L r μ
    | 1 => tw_nx (if v = w then y else x) L r μ
    | 2 => tw_nx (if v < w then x else y) L r μ
    | 3 => tw_nx (if w ≤ v then x else y) L r μ
    | 4 => tw_nx (if w < v then x else y) L r μ
    | _ => tw_nx (if v ≤ w then x else y) L r μ
  | _ => none
def tw_bn (x y : Nat) (L : tw_L) (st : List tw_V) (μ : tw_M) : tw_O := match st with
  | Sum.inr (Sum.inr none) :: r => tw_nx x L r μ
  | Sum.inr (Sum.inr (some (k, _))) :: r => match Nat.beq k 98 with
    | true => none
    | false => tw_nx y L r μ
  | _ => none
def tw_bs (sw : List (Int32 × Nat)) (d : Nat) (L : tw_L) (st : List tw_V) (μ : tw_M) : tw_O := match st with
  | Sum.inl v :: r => tw_nx (tw_sw sw d v) L r μ
  | _ => none
def tw_du (q : Nat) (L : tw_L) (st : List tw_V) (μ : tw_M) : tw_O := match st with
  | v :: r => if tw_ca v = 1 then tw_nx q L (v :: v :: r) μ else none
  | _ => none
def tw_d2 (q : Nat) (L : tw_L) (st : List tw_V) (μ : tw_M) : tw_O := match st with
  | v :: w :: r => if tw_ca v = 1 ∧ tw_ca w = 1 then tw_nx q L (v :: w :: v :: w :: r) μ else none
  | _ => none
def tw_po (q : Nat) (L : tw_L) (st : List tw_V) (μ : tw_M) : tw_O := match st with
  | v :: r => if tw_ca v = 1 then tw_nx q L r μ else none
  | _ => none
def tw_gf (c j q : Nat) (L : tw_L) (st : List tw_V) (μ : tw_M) : tw_O := match st with
  | Sum.inr (Sum.inr (some (k, n))) :: r => match Nat.beq k c with
    | true => tw_nx q L (tw_fv μ c n j :: r) μ
    | false => none
  | _ => none
def tw_pf (c j q : Nat) (L : tw_L) (st : List tw_V) (μ : tw_M) : tw_O := match st with
  | Sum.inl x :: Sum.inr (Sum.inr (some (k, n))) :: r => match Nat.beq k c, tw_fk c j with
    | true, 0 => tw_nx q L r (tw_si μ c n j x)
    | true, 3 => if x = 0 ∨ x = 1 then tw_nx q L r (tw_si μ c n j x) else none
    | _, _ => none
  | Sum.inr (Sum.inl x) :: Sum.inr (Sum.inr (some (k, _))) :: r => match Nat.beq k c, tw_fk c j with
    | true, 1 => tw_nx q L r (tw_sl μ c x)
    | _, _ => none
  | _ => none
def tw_il (q : Nat) (L : tw_L) (st : List tw_V) (μ : tw_M) : tw_O := match st with
  | Sum.inl i :: Sum.inr (Sum.inr (some (k, n))) :: r => match tw_ia k with
    | true => if tw_in i (tw_al k) then tw_nx q L (tw_I (tw_gi μ k n i.toNatClampNeg) :: r) μ else none
    | false => none
  | _ => none
def tw_is (q : Nat) (L : tw_L) (st : List tw_V) (μ : tw_M) : tw_O := match st with
  | Sum.inl x :: Sum.inl i :: Sum.inr (Sum.inr (some (k, n))) :: r => match tw_ia k with
    | true => if tw_in i (tw_al k) then tw_nx q L r (tw_si μ k n i.toNatClampNeg x) else none
    | false => none
  | _ => none
def tw_zl (q : Nat) (L : tw_L) (st : List tw_V) (μ : tw_M) : tw_O := match st with
  | Sum.inl i :: Sum.inr (Sum.inr (some (k, n))) :: r => match Nat.beq k 38 with
    | true => if tw_in i 2 then tw_nx q L (tw_I (tw_gi μ 38 n i.toNatClampNeg) :: r) μ else none
    | false => none
  | _ => none
def tw_zs (q : Nat) (L : tw_L) (st : List tw_V) (μ : tw_M) : tw_O := match st with
  | Sum.inl x :: Sum.inl i :: Sum.inr (Sum.inr (some (k, n))) :: r => match Nat.beq k 38 with
    | true => if (x = 0 ∨ x = 1) ∧ tw_in i 2 then tw_nx q L r (tw_si μ 38 n i.toNatClampNeg x) else none
    | false => none
  | _ => none
def tw_ql2 (q : Nat) (L : tw_L) (st : List tw_V) (μ : tw_M) : tw_O := match st with
  | Sum.inl i :: Sum.inr (Sum.inr (some (k, n))) :: r => match Nat.beq k 21, Nat.beq k 22 with
    | true, _ => if tw_in i 8 then tw_nx q L (tw_R 2 (8 * n + i.toNatClampNeg) :: r) μ else none
    | _, true => if tw_in i 4 then tw_nx q L (tw_R 1 (4 * n + i.toNatClampNeg) :: r) μ else none
    | _, _ => none
  | _ => none
def tw_an (q : Nat) (L : tw_L) (st : List tw_V) (μ : tw_M) : tw_O := match st with
  | Sum.inr (Sum.inr (some (k, _))) :: r => match tw_ia k, Nat.beq k 21, Nat.beq k 22 with
    | true, _, _ => tw_nx q L (tw_I (nI (tw_al k)) :: r) μ
    | _, true, _ => tw_nx q L (tw_I 8 :: r) μ
    | _, _, true => tw_nx q L (tw_I 4 :: r) μ
    | _, _, _ => none
  | _ => none
/-- the cells of a text's bytes; its field 'value', its field 'coder' -/
def tw_bl (q : Nat) (L : tw_L) (st : List tw_V) (μ : tw_M) : tw_O := match st with
  | Sum.inl i :: Sum.inr (Sum.inr (some (k, n))) :: r => match Nat.beq k 9 with
    | true => if tw_in i (tw_lenT.getD n 0) then tw_nx q L (tw_I ((tw_bytT.getD n []).getD i.toNatClampNeg 0) :: r) μ else none
    | false => none
  | _ => none
def tw_bn2 (q : Nat) (L : tw_L) (st : List tw_V) (μ : tw_M) : tw_O := match st with
  | Sum.inr (Sum.inr (some (k, n))) :: r => match Nat.beq k 9 with
    | true => tw_nx q L (tw_I (nI (tw_lenT.getD n 0)) :: r) μ
    | false => none
  | _ => none
def tw_sv (q : Nat) (L : tw_L) (st : List tw_V) (μ : tw_M) : tw_O := match st with
  | Sum.inr (Sum.inr (some (k, n))) :: r => match Nat.beq k 8 with
    | true => tw_nx q L (tw_R 9 n :: r) μ
    | false => none
  | _ => none
def tw_sc (q : Nat) (L : tw_L) (st : List tw_V) (μ : tw_M) : tw_O := match st with
  | Sum.inr (Sum.inr (some (k, _))) :: r => match Nat.beq k 8 with
    | true => tw_nx q L (tw_I 0 :: r) μ
    | false => none
  | _ => none
def tw_gs (i q : Nat) (L : tw_L) (st : List tw_V) (μ : tw_M) : tw_O := match i with
  | 0 => tw_nx q L (tw_I 1 :: st) μ
  | _ => tw_nx q L (tw_R 98 0 :: st) μ
/-- a call: of an object of a kind, or of none -/
def tw_cv (j na kd q : Nat) (st : List tw_V) : tw_O := match (st.take na).reverse with
  | Sum.inr (Sum.inr (some (k, n))) :: as => match Nat.beq k kd with
    | true => if as.length + 1 = na ∧ ((st.drop na).map tw_ca).sum ≤ 8 ∧ (tw_el (tw_R k n :: as)).length ≤ tw_ml j then some (Sum.inr (Sum.inr (j, tw_R k n :: as, st.drop na, q))) else none
    | false => none
  | _ => none
def tw_cs (j na q : Nat) (st : List tw_V) : tw_O :=
  if (st.take na).length = na ∧ ((st.drop na).map tw_ca).sum ≤ 8 ∧ (tw_el (st.take na).reverse).length ≤ tw_ml j then some (Sum.inr (Sum.inr (j, (st.take na).reverse, st.drop na, q))) else none
def tw_ri1 (st : List tw_V) : tw_O := match st with
  | [Sum.inl x] => some (Sum.inr (Sum.inl (some (tw_I x))))
  | _ => none
def tw_rn (ty : FieldType) (st : List tw_V) : tw_O := match st with
  | [Sum.inl x] => tw_rt ty x
  | _ => none
def tw_rl (st : List tw_V) : tw_O := match st with
  | [Sum.inr (Sum.inl x)] => some (Sum.inr (Sum.inl (some (tw_J x))))
  | _ => none
def tw_rr (st : List tw_V) : tw_O := match st with
  | [Sum.inr (Sum.inr x)] => some (Sum.inr (Sum.inl (some (Sum.inr (Sum.inr x)))))
  | _ => none
def tw_rv0 (st : List tw_V) : tw_O := match st with
  | [] => some (Sum.inr (Sum.inl none))
  | _ => none
def tw_mx (f : Int32 → Int32 → Int32) (q : Nat) (L : tw_L) (st : List tw_V) (μ : tw_M) : tw_O := match st with
  | Sum.inl y :: Sum.inl x :: r => if (r.map tw_ca).sum ≤ 8 then tw_nx q L (tw_I (f x y) :: r) μ else none
  | _ => none
def tw_ma (q : Nat) (L : tw_L) (st : List tw_V) (μ : tw_M) : tw_O := match st with
  | Sum.inl x :: r => if (r.map tw_ca).sum ≤ 8 then tw_nx q L (tw_I (if 0 ≤ x then x else 0 - x) :: r) μ else none
  | _ => none
def tw_t (t : List Nat) (i : Nat) : Nat := t.getD i 0
/-- what an operation does -/
def tw_ex (o : tw_Op) (pc : Nat) (L : tw_L) (st : List tw_V) (μ : tw_M) : tw_O :=
  match o with
  | (n, w, a, _, c, d, t, sw) =>
  match n with
  | 0 | 1 | 2 | 3 => tw_nx (pc + w) L (tw_I c :: st) μ
  | 4 | 5 => tw_nx (pc + w) L (tw_J d :: st) μ
  | 6 => tw_nx (pc + w) L (tw_N :: st) μ
  | 7 | 8 => tw_qi a (pc + w) L st μ
  | 9 | 10 => tw_qj a (pc + w) L st μ
  | 11 | 12 => tw_qa a (pc + w) L st μ
  | 13 | 14 => tw_ri a (pc + w) L st μ
  | 15 | 16 => tw_rj a (pc + w) L st μ
  | 17 | 18 => tw_ra a (pc + w) L st μ
  | 19 => tw_ic a c (pc + w) L st μ
  | 20 => tw_q2 (fun x y => x + y) (pc + w) L st μ
  | 21 => tw_q2 (fun x y => x - y) (pc + w) L st μ
  | 22 => tw_q2 (fun x y => x * y) (pc + w) L st μ
  | 23 => tw_qd (fun x y => x / y) (pc + w) L st μ
  | 24 => tw_qd (fun x y => x - x / y * y) (pc + w) L st μ
  | 25 => tw_q2 (fun x y => x &&& y) (pc + w) L st μ
  | 26 => tw_q2 (fun x y => x ||| y) (pc + w) L st μ
  | 28 => tw_q2 (fun x y => x <<< (y &&& 31)) (pc + w) L st μ
  | 29 => tw_q2 (fun x y => x >>> (y &&& 31)) (pc + w) L st μ
  | 30 => tw_q1 (fun x => some (-x)) (pc + w) L st μ
  | 31 => tw_q3 (fun x y => x + y) (pc + w) L st μ
  | 32 => tw_q3 (fun x y => x - y) (pc + w) L st μ
  | 33 => tw_q3 (fun x y => x * y) (pc + w) L st μ
  | 34 => tw_ql (fun x y => x / y) (pc + w) L st μ
  | 35 => tw_ql (fun x y => x - x / y * y) (pc + w) L st μ
  | 36 => tw_q3 (fun x y => x &&& y) (pc + w) L st μ
  | 37 => tw_q3 (fun x y => x ||| y) (pc + w) L st μ
  | 38 => tw_q4 (fun x y => x <<< (y.toInt64 &&& 63)) (pc + w) L st μ
  | 39 => tw_q4 (fun x y => x >>> (y.toInt64 &&& 63)) (pc + w) L st μ
  | 40 => match st with
    | Sum.inr (Sum.inl y) :: Sum.inr (Sum.inl x) :: r => tw_nx (pc + w) L (tw_I (lg_cmp x y) :: r) μ
    | _ => none
  | 41 => match st with
    | Sum.inl x :: r => tw_nx (pc + w) L (tw_J x.toInt64 :: r) μ
    | _ => none
  | 42 => match st with
    | Sum.inr (Sum.inl x) :: r => tw_nx (pc + w) L (tw_I x.toInt32 :: r) μ
    | _ => none
  | 43 => tw_q1 (fun x => some ((x.toUInt32 % 65536).toInt32)) (pc + w) L st μ
  | 44 => tw_du (pc + w) L st μ
  | 45 => tw_d2 (pc + w) L st μ
  | 46 => tw_po (pc + w) L st μ
  | 47 => tw_bz a (tw_t t 0) (pc + w) L st μ
  | 48 => tw_bi a (tw_t t 0) (pc + w) L st μ
  | 49 => tw_bn (tw_t t 0) (pc + w) L st μ
  | 50 => tw_bn (pc + w) (tw_t t 0) L st μ
  | 51 => tw_nx (tw_t t 0) L st μ
  | 52 | 53 => tw_bs sw (tw_t t 0) L st μ
  | 54 => tw_gf (tw_t t 0) (tw_t t 1) (pc + w) L st μ
  | 55 => tw_pf (tw_t t 0) (tw_t t 1) (pc + w) L st μ
  | 56 => tw_il (pc + w) L st μ
  | 57 => tw_is (pc + w) L st μ
  | 58 => tw_zl (pc + w) L st μ
  | 59 => tw_zs (pc + w) L st μ
  | 60 => tw_ql2 (pc + w) L st μ
  | 61 => tw_an (pc + w) L st μ
  | 62 => tw_gs (tw_t t 0) (pc + w) L st μ
  | 63 => tw_nx (pc + w) L (tw_R 8 (tw_t t 0) :: st) μ
  | 64 => tw_cv (tw_t t 0) (tw_t t 1) (tw_t t 2) (pc + w) st
  | 65 | 74 => tw_cs (tw_t t 0) (tw_t t 1) (pc + w) st
  | 66 => tw_ri1 st
  | 67 => tw_rl st
  | 68 => tw_rr st
  | 69 => tw_rv0 st
  | 70 => tw_sv (pc + w) L st μ
  | 71 => tw_sc (pc + w) L st μ
  | 72 => tw_bl (pc + w) L st μ
  | 73 => tw_bn2 (pc + w) L st μ
  | 75 => tw_rn (tw_ty a) st
  | 76 => tw_mx (fun x y => if x < y then y else x) (pc + w) L st μ
  | 77 => tw_mx (fun x y => if y < x then y else x) (pc + w) L st μ
  | 78 => tw_ma (pc + w) L st μ
  | _ => none
def tw_st (mi pc : Nat) (L : tw_L) (st : List tw_V) (μ : tw_M) : tw_O :=
  match tw_op (tw_cd mi) pc with
  | some o => tw_ex o pc L st μ
  | none => none
/-- the small machine, so many steps at most -/
def tw_ev : Nat → Nat → Nat → tw_L → List tw_V → tw_M → Option (Option tw_V × tw_M)
  | 0, _, _, _, _, _ => none
  | n + 1, mi, pc, L, st, μ => match tw_st mi pc L st μ with
    | none => none
    | some (Sum.inl (q, L', st', μ')) => tw_ev n mi q L' st' μ'
    | some (Sum.inr (Sum.inl r)) => some (r, μ)
    | some (Sum.inr (Sum.inr (j, as, r, q))) => match tw_ev n j 0 (tw_en (tw_ml j) as) [] μ with
      | none => none
      | some (v, μ') => tw_ev n mi q L (v.toList ++ r) μ'
theorem tw_mono : ∀ (n mi pc : Nat) (L : tw_L) (st : List tw_V) (μ : tw_M) (x : Option tw_V × tw_M), tw_ev n mi pc L st μ = some x → tw_ev (n + 1) mi pc L st μ = some x := by
  intro n
  induction n with
  | zero => intro mi pc L st μ x h; cases h
  | succ n ih =>
    intro mi pc L st μ x h
    rw [tw_ev] at h
    rw [tw_ev]
    cases hs : tw_st mi pc L st μ with
    | none => rw [hs] at h; cases h
    | some o =>
      rw [hs] at h
      rcases o with ⟨q, L', st', μ'⟩ | r | ⟨j, as, r, q⟩
      · exact ih _ _ _ _ _ _ h
      · exact h
      · dsimp only at h ⊢
        cases hc : tw_ev n j 0 (tw_en (tw_ml j) as) [] μ with
        | none => rw [hc] at h; cases h
        | some y =>
          rw [hc] at h
          rw [ih _ _ _ _ _ _ hc]
          exact ih _ _ _ _ _ _ h
theorem tw_mono2 {n m mi pc : Nat} {L : tw_L} {st : List tw_V} {μ : tw_M} {x : Option tw_V × tw_M} (h : n ≤ m) (e : tw_ev n mi pc L st μ = some x) : tw_ev m mi pc L st μ = some x := by
  obtain ⟨d, rfl⟩ := Nat.le.dest h
  induction d with
  | zero => exact e
  | succ d ih => exact tw_mono _ _ _ _ _ _ _ (ih (Nat.le_add_right _ _))
/-- what the small machine comes to -/
noncomputable def tw_run (mi pc : Nat) (L : tw_L) (st : List tw_V) (μ : tw_M) : Option (Option tw_V × tw_M) :=
  @dite _ (∃ x, ∃ n, tw_ev n mi pc L st μ = some x) (Classical.propDecidable _) (fun h => some (Classical.choose h)) (fun _ => none)
theorem tw_run_iff {mi pc : Nat} {L : tw_L} {st : List tw_V} {μ : tw_M} {x : Option tw_V × tw_M} : tw_run mi pc L st μ = some x ↔ ∃ n, tw_ev n mi pc L st μ = some x := by
  unfold tw_run
  constructor
  · intro h
    split at h
    · rename_i hh
      cases h
      exact Classical.choose_spec hh
    · cases h
  · intro h
    rw [dif_pos ⟨x, h⟩]
    obtain ⟨n, hn⟩ := h
    obtain ⟨m, hm⟩ := Classical.choose_spec (⟨x, n, hn⟩ : ∃ x, ∃ n, tw_ev n mi pc L st μ = some x)
    have h1 := tw_mono2 (Nat.le_max_left n m) hn
    have h2 := tw_mono2 (Nat.le_max_right n m) hm
    rw [h1] at h2
    exact h2.symm
theorem tw_run_ext {mi pc mi' pc' : Nat} {L L' : tw_L} {st st' : List tw_V} {μ μ' : tw_M} (h : ∀ x, tw_run mi pc L st μ = some x ↔ tw_run mi' pc' L' st' μ' = some x) : tw_run mi pc L st μ = tw_run mi' pc' L' st' μ' := by
  cases h1 : tw_run mi pc L st μ with
  | some x => exact ((h x).mp h1).symm
  | none =>
    cases h2 : tw_run mi' pc' L' st' μ' with
    | some x => rw [(h x).mpr h2] at h1; cases h1
    | none => rfl
theorem tw_r_nx {mi pc q : Nat} {L L' : tw_L} {st st' : List tw_V} {μ μ' : tw_M} (h : tw_st mi pc L st μ = some (Sum.inl (q, L', st', μ'))) : tw_run mi pc L st μ = tw_run mi q L' st' μ' := by
  refine tw_run_ext fun x => ?_
  rw [tw_run_iff, tw_run_iff]
  constructor
  · rintro ⟨n, hn⟩
    cases n with
    | zero => cases hn
    | succ n => rw [tw_ev, h] at hn; exact ⟨n, hn⟩
  · rintro ⟨n, hn⟩
    exact ⟨n + 1, by rw [tw_ev, h]; exact hn⟩
theorem tw_r_no {mi pc : Nat} {L : tw_L} {st : List tw_V} {μ : tw_M} (h : tw_st mi pc L st μ = none) : tw_run mi pc L st μ = none := by
  cases e : tw_run mi pc L st μ with
  | none => rfl
  | some x =>
    obtain ⟨n, hn⟩ := tw_run_iff.mp e
    cases n with
    | zero => cases hn
    | succ n => rw [tw_ev, h] at hn; cases hn
theorem tw_r_rt {mi pc : Nat} {L : tw_L} {st : List tw_V} {μ : tw_M} {r : Option tw_V} (h : tw_st mi pc L st μ = some (Sum.inr (Sum.inl r))) : tw_run mi pc L st μ = some (r, μ) :=
  tw_run_iff.mpr ⟨1, by rw [tw_ev, h]⟩
/-- a call of a method -/
noncomputable def tw_call (j : Nat) (as : List tw_V) (μ : tw_M) : Option (Option tw_V × tw_M) := tw_run j 0 (tw_en (tw_ml j) as) [] μ
theorem tw_r_cl {mi pc j q : Nat} {L : tw_L} {st as r : List tw_V} {μ : tw_M} (h : tw_st mi pc L st μ = some (Sum.inr (Sum.inr (j, as, r, q)))) : tw_run mi pc L st μ = (tw_call j as μ).bind (fun x => tw_run mi q L (x.1.toList ++ r) x.2) := by
  cases e : tw_call j as μ with
  | none =>
    show _ = none
    cases e2 : tw_run mi pc L st μ with
    | none => rfl
    | some x =>
      obtain ⟨n, hn⟩ := tw_run_iff.mp e2
      cases n with
      | zero => cases hn
      | succ n =>
        rw [tw_ev, h] at hn
        dsimp only at hn
        cases hc : tw_ev n j 0 (tw_en (tw_ml j) as) [] μ with
        | none => rw [hc] at hn; cases hn
        | some y => rw [show tw_call j as μ = some y from tw_run_iff.mpr ⟨n, hc⟩] at e; cases e
  | some y =>
    obtain ⟨m, hm⟩ := tw_run_iff.mp e
    show tw_run mi pc L st μ = tw_run mi q L (y.1.toList ++ r) y.2
    refine tw_run_ext fun x => ?_
    rw [tw_run_iff, tw_run_iff]
    constructor
    · rintro ⟨n, hn⟩
      cases n with
      | zero => cases hn
      | succ n =>
        rw [tw_ev, h] at hn
        dsimp only at hn
        cases hc : tw_ev n j 0 (tw_en (tw_ml j) as) [] μ with
        | none => rw [hc] at hn; cases hn
        | some z =>
          rw [hc] at hn
          have hz := tw_run_iff.mpr ⟨n, hc⟩
          have hzy : z = y := by
            have := (show tw_call j as μ = some z from hz).symm.trans e
            exact Option.some.inj this
          subst hzy
          exact ⟨n, hn⟩
    · rintro ⟨n, hn⟩
      refine ⟨Nat.max n m + 1, ?_⟩
      rw [tw_ev, h]
      dsimp only
      rw [tw_mono2 (Nat.le_max_right n m) hm]
      exact tw_mono2 (Nat.le_max_left n m) hn
theorem tw_ite {mi x y : Nat} {L : tw_L} {st : List tw_V} {μ : tw_M} {c : Prop} [d : Decidable c] : tw_run mi (if c then x else y) L st μ = if c then tw_run mi x L st μ else tw_run mi y L st μ := by
  split <;> rfl
