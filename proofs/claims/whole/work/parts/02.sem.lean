/-! values, memory, operations: a small machine of its own, whose answers the real one gives (03) -/
abbrev tw_V : Type := Int32 ⊕ (Int64 ⊕ Option (Nat × Nat))
abbrev tw_I (x : Int32) : tw_V := Sum.inl x
abbrev tw_J (x : Int64) : tw_V := Sum.inr (Sum.inl x)
abbrev tw_R (k n : Nat) : tw_V := Sum.inr (Sum.inr (some (k, n)))
abbrev tw_N : tw_V := Sum.inr (Sum.inr none)
abbrev tw_M : Type := (Nat → Nat → Nat → Int32) × (Nat → Int64)
abbrev tw_L : Type := List (Option tw_V)
def tw_gi (μ : tw_M) (k n j : Nat) : Int32 := μ.1 k n j
def tw_gl (μ : tw_M) (k : Nat) : Int64 := μ.2 k
def tw_si (μ : tw_M) (k n j : Nat) (v : Int32) : tw_M := (fun k' n' j' => if k' = k ∧ n' = n ∧ j' = j then v else μ.1 k' n' j', μ.2)
def tw_sl (μ : tw_M) (k : Nat) (v : Int64) : tw_M := (μ.1, fun k' => if k' = k then v else μ.2 k')
/-- fields of the kinds 0 .. 6: 0 int, 1 long, 2 reference, 3 boolean -/
def tw_fkT : List (List Nat) := [[2,2,2,2,2,0,0,0,0],[2,2,0],[2,2,0,0,0,0,0,0],[2,2,2,0,0,0,3],[2,0,0,0,0,0],[2,2,2,2,2,2,1],[0,1,2,0,0,0,0,0,0,2,2,2,2,2,0,0,0,0,0,0,0,0,2,2,2]]
def tw_fk (c j : Nat) : Nat := (tw_fkT.getD c []).getD j 0
def tw_nf (c : Nat) : Nat := (tw_fkT.getD c []).length
/-- where a reference field points -/
def tw_rfT : List (List (Nat × Nat)) := [[(10,0),(11,0),(12,0),(13,0),(14,0)],[(15,0),(16,0)],[(17,0),(18,0)],[(21,0),(22,0),(19,0)],[(20,0)],[(4,1),(0,1),(0,2),(3,1),(3,2),(3,3)],[(0,0),(0,0),(30,0),(0,0),(0,0),(0,0),(0,0),(0,0),(0,0),(31,0),(32,0),(33,0),(34,0),(35,0),(0,0),(0,0),(0,0),(0,0),(0,0),(0,0),(0,0),(0,0),(36,0),(37,0),(38,0)]]
def tw_rf (c j n : Nat) : Nat × Nat :=
  match (tw_rfT.getD c []).getD j (0, 0) with
  | (k, 0) => (k, n)
  | (k, i + 1) => (k, i)
def tw_fv (μ : tw_M) (c n j : Nat) : tw_V :=
  match tw_fk c j with
  | 1 => tw_J (tw_gl μ c)
  | 2 => tw_R (tw_rf c j n).1 (tw_rf c j n).2
  | _ => tw_I (tw_gi μ c n j)
/-- how long an array of a kind is -/
def tw_alT : List Nat := [4,24,5,4,4,60,60,4,4,4,300,8,4,0,0,0,0,0,0,0,300,8,48,10,8,8,363,726,2]
def tw_al (k : Nat) : Nat := tw_alT.getD (k - 10) 0
/-- the kinds of int arrays -/
def tw_ia (k : Nat) : Bool := (Nat.ble 10 k && Nat.ble k 20) || (Nat.ble 30 k && Nat.ble k 37)
/-- the String constants: their bytes -/
def tw_bytT : List (List Int32) := [[112,108,97,99,101],[102,114,111,115,116],[119,97,114,109],[99,111,108,100],[115,111,117,110,100],[112,101,114,115,111,110]]
def tw_lenT : List Nat := [5,5,4,4,5,6]
def tw_k (o : Option tw_V) : Option tw_V :=
  match o with
  | some (Sum.inr (Sum.inl _)) => none
  | _ => o
/-- the locals behind a store: what stands ahead and is long goes -/
def tw_kl : Nat → tw_L → tw_L
  | 0, L => L
  | _ + 1, [] => []
  | 1, o :: L => tw_k o :: L
  | i + 2, o :: L => o :: tw_kl (i + 1) L
def tw_s1 (L : tw_L) (i : Nat) (v : tw_V) : tw_L := (tw_kl i L).set i (some v)
def tw_s2 (L : tw_L) (i : Nat) (v : tw_V) : tw_L := ((tw_kl i L).set i (some v)).set (i + 1) none
def tw_ca (v : tw_V) : Nat := match v with
  | Sum.inr (Sum.inl _) => 2
  | _ => 1
def tw_el : List tw_V → tw_L
  | [] => []
  | Sum.inr (Sum.inl x) :: l => some (tw_J x) :: none :: tw_el l
  | v :: l => some v :: tw_el l
def tw_en (n : Nat) (l : List tw_V) : tw_L := tw_el l ++ List.replicate (n - (tw_el l).length) none
abbrev tw_in (i : Int32) (n : Nat) : Prop := ¬ (i < 0 ∨ n ≤ i.toNatClampNeg)
def tw_cnd (a : Nat) (x y : Int32) : Prop := match a with
  | 0 => x = y
  | 1 => ¬ x = y
  | 2 => x < y
  | 3 => y ≤ x
  | 4 => y < x
  | _ => x ≤ y
/-- an operation: its number, its length, a place, an offset, an int, a long, more places, a switch's keys -/
abbrev tw_Op : Type := Nat × Nat × Nat × Int × Int32 × Int64 × List Nat × List (Int32 × Nat)
/-- on it goes at a place; it returns; it calls -/
abbrev tw_O : Type := Option ((Nat × tw_L × List tw_V × tw_M) ⊕ (Option tw_V ⊕ (Nat × List tw_V × List tw_V × Nat)))
def tw_nx (pc : Nat) (L : tw_L) (st : List tw_V) (μ : tw_M) : tw_O := some (Sum.inl (pc, L, st, μ))
def tw_q1 (f : Int32 → Option Int32) (q : Nat) (L : tw_L) (st : List tw_V) (μ : tw_M) : tw_O := match st with
  | Sum.inl x :: r => match f x with
    | some z => tw_nx q L (tw_I z :: r) μ
    | none => none
  | _ => none
def tw_q2 (f : Int32 → Int32 → Int32) (q : Nat) (L : tw_L) (st : List tw_V) (μ : tw_M) : tw_O := match st with
  | Sum.inl y :: Sum.inl x :: r => tw_nx q L (tw_I (f x y) :: r) μ
  | _ => none
def tw_q3 (f : Int64 → Int64 → Int64) (q : Nat) (L : tw_L) (st : List tw_V) (μ : tw_M) : tw_O := match st with
  | Sum.inr (Sum.inl y) :: Sum.inr (Sum.inl x) :: r => tw_nx q L (tw_J (f x y) :: r) μ
  | _ => none
def tw_q4 (f : Int64 → Int32 → Int64) (q : Nat) (L : tw_L) (st : List tw_V) (μ : tw_M) : tw_O := match st with
  | Sum.inl y :: Sum.inr (Sum.inl x) :: r => tw_nx q L (tw_J (f x y) :: r) μ
  | _ => none
def tw_qd (f : Int32 → Int32 → Int32) (q : Nat) (L : tw_L) (st : List tw_V) (μ : tw_M) : tw_O := match st with
  | Sum.inl y :: Sum.inl x :: r => if y = 0 then none else tw_nx q L (tw_I (f x y) :: r) μ
  | _ => none
def tw_ql (f : Int64 → Int64 → Int64) (q : Nat) (L : tw_L) (st : List tw_V) (μ : tw_M) : tw_O := match st with
  | Sum.inr (Sum.inl y) :: Sum.inr (Sum.inl x) :: r => if y = 0 then none else tw_nx q L (tw_J (f x y) :: r) μ
  | _ => none
def tw_qi (a q : Nat) (L : tw_L) (st : List tw_V) (μ : tw_M) : tw_O := match L[a]? with
  | some (some (Sum.inl x)) => tw_nx q L (tw_I x :: st) μ
  | _ => none
def tw_qj (a q : Nat) (L : tw_L) (st : List tw_V) (μ : tw_M) : tw_O := match L[a]? with
  | some (some (Sum.inr (Sum.inl x))) => tw_nx q L (tw_J x :: st) μ
  | _ => none
def tw_qa (a q : Nat) (L : tw_L) (st : List tw_V) (μ : tw_M) : tw_O := match L[a]? with
  | some (some (Sum.inr (Sum.inr x))) => tw_nx q L (Sum.inr (Sum.inr x) :: st) μ
  | _ => none
def tw_ri (a q : Nat) (L : tw_L) (st : List tw_V) (μ : tw_M) : tw_O := match st with
  | Sum.inl x :: r => if a < L.length then tw_nx q (tw_s1 L a (tw_I x)) r μ else none
  | _ => none
def tw_rj (a q : Nat) (L : tw_L) (st : List tw_V) (μ : tw_M) : tw_O := match st with
  | Sum.inr (Sum.inl x) :: r => if a + 1 < L.length then tw_nx q (tw_s2 L a (tw_J x)) r μ else none
  | _ => none
def tw_ra (a q : Nat) (L : tw_L) (st : List tw_V) (μ : tw_M) : tw_O := match st with
  | Sum.inr (Sum.inr x) :: r => if a < L.length then tw_nx q (tw_s1 L a (Sum.inr (Sum.inr x))) r μ else none
  | _ => none
def tw_ic (a : Nat) (c : Int32) (q : Nat) (L : tw_L) (st : List tw_V) (μ : tw_M) : tw_O := match L[a]? with
  | some (some (Sum.inl x)) => if a < L.length then tw_nx q (tw_s1 L a (tw_I (x + c))) st μ else none
  | _ => none
def tw_sw : List (Int32 × Nat) → Nat → Int32 → Nat
  | [], d, _ => d
  | (k, q) :: l, d, x => if x = k then q else tw_sw l d x
def tw_rt (ty : FieldType) (x : Int32) : tw_O := if vp_nar ty x = x then some (Sum.inr (Sum.inl (some (tw_I x)))) else none
/-- boolean 3, char 4, byte 6 -/
def tw_ty (a : Nat) : FieldType := match a with
  | 3 => .boolean
  | 4 => .char
  | 6 => .byte
  | _ => .int
