/-! the worlds -/
/-- tables, addresses, array kinds, which cells are there, the texts, the formatter -/
abbrev tw_E : Type := va_G × (Nat → Nat → Nat) × (Nat → ClassId) × List (Nat × Nat) × (Nat → Nat) × (Nat → Nat) × Value
abbrev tw_D (g : tw_E) : va_G := g.1
abbrev tw_ad (g : tw_E) : Nat → Nat → Nat := g.2.1
abbrev tw_cy (g : tw_E) : Nat → ClassId := g.2.2.1
abbrev tw_vs (g : tw_E) : List (Nat × Nat) := g.2.2.2.1
abbrev tw_aK (g : tw_E) : Nat → Nat := g.2.2.2.2.1
abbrev tw_aV (g : tw_E) : Nat → Nat := g.2.2.2.2.2.1
abbrev tw_fo (g : tw_E) : Value := g.2.2.2.2.2.2
def tw_rv (g : tw_E) (v : tw_V) : Value := match v with
  | Sum.inl x => .int x
  | Sum.inr (Sum.inl x) => .long x
  | Sum.inr (Sum.inr none) => .null
  | Sum.inr (Sum.inr (some (k, n))) => if k = 8 then .ref (tw_aK g n) else if k = 9 then .ref (tw_aV g n) else if k = 98 then tw_fo g else .ref (tw_ad g k n)
def tw_ent (g : tw_E) (μ : tw_M) (k n : Nat) : va_E :=
  if k < 7 then .inr (k, (List.range (tw_nf k)).map (fun j => tw_rv g (tw_fv μ k n j)))
  else if k = 21 then .inl (tw_cy g 3, (8, .inr (.inr (.inr (.inr (fun j => some (tw_ad g 2 (8 * n + j))))))))
  else if k = 22 then .inl (tw_cy g 2, (4, .inr (.inr (.inr (.inr (fun j => some (tw_ad g 1 (4 * n + j))))))))
  else if k = 38 then .inl (tw_cy g 1, (2, .inl (fun j => tw_gi μ 38 n j)))
  else .inl (tw_cy g 0, (tw_al k, .inl (fun j => tw_gi μ k n j)))
def tw_ws (g : tw_E) (μ : tw_M) : va_W := (tw_vs g).map (fun x => (tw_ad g x.1 x.2, tw_ent g μ x.1 x.2))
def tw_A (g : tw_E) : Nat → Prop := fun q => ∃ x, x ∈ tw_vs g ∧ q = tw_ad g x.1 x.2
def tw_ys (g : tw_E) : List (ClassId × FieldType) := [(tw_cy g 0, .int), (tw_cy g 1, .boolean), (tw_cy g 2, .object RX1), (tw_cy g 3, .object RX2)]
/-- the cells' references stay among them -/
def tw_sh (g : tw_E) : Prop :=
  (∀ x, x ∈ tw_vs g → x.1 < 7 → ∀ j, j < tw_nf x.1 → tw_fk x.1 j = 2 → tw_rf x.1 j x.2 ∈ tw_vs g) ∧
  (∀ n, (21, n) ∈ tw_vs g → ∀ j, j < 8 → (2, 8 * n + j) ∈ tw_vs g) ∧
  (∀ n, (22, n) ∈ tw_vs g → ∀ j, j < 4 → (1, 4 * n + j) ∈ tw_vs g) ∧
  (∀ x, x ∈ tw_vs g → x.1 < 7 ∨ tw_ia x.1 = true ∨ x.1 = 21 ∨ x.1 = 22 ∨ x.1 = 38) ∧
  (∀ x, x ∈ tw_vs g → x.1 = 5 ∨ x.1 = 6 → x.2 = 0)
/-- the cells are apart -/
def tw_ap (g : tw_E) : Prop := ∀ (i j : Nat) (x y : Nat × Nat), (tw_vs g)[i]? = some x → (tw_vs g)[j]? = some y → tw_ad g x.1 x.2 = tw_ad g y.1 y.2 → i = j
/-- what stands fast -/
def tw_F (g : tw_E) (s : State) (H : Heap) : Prop :=
  va_K (tw_D g) vwCl (tw_ys g) s ∧ vk_S 6 tw_lenT tw_bytT (tw_aK g) (tw_aV g) (tw_A g) s H ∧
  va_Z "java/lang/String" "COMPACT_STRINGS" "Z" (.int 1) (tw_A g) s H ∧
  va_Z "jdk/internal/util/Preconditions" "SIOOBE_FORMATTER" "Ljava/util/function/BiFunction;" (tw_fo g) (tw_A g) s H ∧
  (tw_fo g = .null ∨ ∃ t, tw_fo g = .ref t) ∧
  (∀ i, i < 6 → vk_R "ThawWords$Text" (tw_stT.getD i (0, "")).1 (tw_stT.getD i (0, "")).2 (tw_aK g i) s) ∧
  (∀ q, q ∈ tw_nest → va_Nw (.methodLinkNest q.1 q.2.1 q.2.2 "ThawWords") s)
theorem tw_F.go {g : tw_E} {s U : State} {H : Heap} (h : tw_F g s s.heap) (hW : s.WarmedH U.vm) (hH : ∀ q : Nat, q < s.heap.size → ¬ tw_A g q → H[q]? = s.heap[q]?) : tw_F g U H := by
  obtain ⟨h1, h2, h3, h4, h5, h6, h7⟩ := h
  exact ⟨va_K.moved hW.alike h1, vk_S.moved hW.alike (h2.kept hH), va_Z.moved hW.alike (h3.kept hH), va_Z.moved hW.alike (h4.kept hH), h5, fun i hi => vk_R.warm hW (h6 i hi), fun q hq => va_Nw.warmM hW (h7 q hq)⟩
theorem tw_F.calling {g : tw_E} {U : State} {m : JFrame} {mk : MethodId} {a : Array Value} (h : tw_F g U U.heap) : tw_F g (U.calling m mk a) (U.calling m mk a).heap := by
  obtain ⟨h1, h2, h3, h4, h5, h6, h7⟩ := h
  have e : (U.calling m mk a).vm = U.vm := rfl
  have al : U.vm.Alike (U.calling m mk a).vm := Vm.Alike.refl U.vm
  exact ⟨va_K.moved al h1, vk_S.moved al h2, va_Z.moved al h3, va_Z.moved al h4, h5, fun i hi => vk_R.same e (h6 i hi), fun q hq => va_Nw.same rfl e.symm (h7 q hq)⟩
/-- a value that there is -/
def tw_vd (g : tw_E) (v : tw_V) : Prop := match v with
  | Sum.inr (Sum.inr (some (k, n))) => (k = 8 ∧ n < 6) ∨ (k = 9 ∧ n < 6) ∨ k = 98 ∨ (k, n) ∈ tw_vs g
  | _ => True
theorem tw_rv_cat {g : tw_E} {s : State} {H : Heap} (h : tw_F g s H) (v : tw_V) : (tw_rv g v).category = tw_ca v := by
  rcases v with x | x | _ | ⟨k, n⟩
  · rfl
  · rfl
  · rfl
  · show (tw_rv g _).category = 1
    unfold tw_rv
    dsimp only
    split
    · rfl
    · split
      · rfl
      · split
        · rcases h.2.2.2.2.1 with e | ⟨t, e⟩ <;> rw [e] <;> rfl
        · rfl
theorem tw_lt7 {P : Nat → Prop} (h0 : P 0) (h1 : P 1) (h2 : P 2) (h3 : P 3) (h4 : P 4) (h5 : P 5) (h6 : P 6) {c : Nat} (h : c < 7) : P c := by
  match c, h with
  | 0, _ => exact h0
  | 1, _ => exact h1
  | 2, _ => exact h2
  | 3, _ => exact h3
  | 4, _ => exact h4
  | 5, _ => exact h5
  | 6, _ => exact h6
  | n + 7, h => exact absurd h (by omega)
theorem tw_cl_at {c : Nat} (h : c < 7) : vwCl[c]? = some ((tw_cl c).1, (tw_cl c).2.1, (tw_cl c).2.2) := by
  refine tw_lt7 (P := fun c => vwCl[c]? = some ((tw_cl c).1, (tw_cl c).2.1, (tw_cl c).2.2)) ?_ ?_ ?_ ?_ ?_ ?_ ?_ h <;> rfl
theorem tw_cl_n {c : Nat} (h : c < 7) : (tw_cl c).2.2 = tw_nf c := by
  refine tw_lt7 (P := fun c => (tw_cl c).2.2 = tw_nf c) ?_ ?_ ?_ ?_ ?_ ?_ ?_ h <;> rfl
def tw_tyf (c : Nat) : Nat → FieldType := match c with
  | 0 => tyX0
  | 1 => tyX1
  | 2 => tyX2
  | 3 => tyX3
  | 4 => tyX4
  | 5 => tyX5
  | _ => tyX6
theorem tw_cl_ty {c : Nat} (h : c < 7) : ∀ k, k < (tw_cl c).2.2 → parseFieldDescriptor ((tw_cl c).2.1 k).2.2.1 = some (tw_tyf c k) := by
  refine tw_lt7 (P := fun c => ∀ k, k < (tw_cl c).2.2 → parseFieldDescriptor ((tw_cl c).2.1 k).2.2.1 = some (tw_tyf c k)) ?_ ?_ ?_ ?_ ?_ ?_ ?_ h
  · exact tyX0_ok
  · exact tyX1_ok
  · exact tyX2_ok
  · exact tyX3_ok
  · exact tyX4_ok
  · exact tyX5_ok
  · exact tyX6_ok
theorem tw_cl_nm {c : Nat} (h : c < 7) : ∀ a, a < (tw_cl c).2.2 → ∀ b, b < (tw_cl c).2.2 → a ≠ b → ((tw_cl c).2.1 a).2.1 ≠ ((tw_cl c).2.1 b).2.1 := by
  refine tw_lt7 (P := fun c => ∀ a, a < (tw_cl c).2.2 → ∀ b, b < (tw_cl c).2.2 → a ≠ b → ((tw_cl c).2.1 a).2.1 ≠ ((tw_cl c).2.1 b).2.1) ?_ ?_ ?_ ?_ ?_ ?_ ?_ h
  · exact nmX0
  · exact nmX1
  · exact nmX2
  · exact nmX3
  · exact nmX4
  · exact nmX5
  · exact nmX6
theorem tw_big_of {ws : List Cond} (h1 : ∀ w ∈ ws, w ∈ lw_tbl) (h2 : ws.all goodWord = true) : ∀ w ∈ ws, w ∈ tw_big := fun w hw => List.mem_filter.mpr ⟨h1 w hw, List.all_eq_true.mp h2 w hw⟩
theorem tw_cl_w0 : ∀ w ∈ wsX00, w ∈ tw_big := tw_big_of (by decide +kernel) (by decide +kernel)
theorem tw_cl_w1 : ∀ w ∈ wsX10, w ∈ tw_big := tw_big_of (by decide +kernel) (by decide +kernel)
theorem tw_cl_w2 : ∀ w ∈ wsX20, w ∈ tw_big := tw_big_of (by decide +kernel) (by decide +kernel)
theorem tw_cl_w3 : ∀ w ∈ wsX30, w ∈ tw_big := tw_big_of (by decide +kernel) (by decide +kernel)
theorem tw_cl_w4 : ∀ w ∈ wsX40, w ∈ tw_big := tw_big_of (by decide +kernel) (by decide +kernel)
theorem tw_cl_w5 : ∀ w ∈ wsX50, w ∈ tw_big := tw_big_of (by decide +kernel) (by decide +kernel)
theorem tw_cl_w6 : ∀ w ∈ wsX60, w ∈ tw_big := tw_big_of (by decide +kernel) (by decide +kernel)
theorem tw_cl_w {c : Nat} (h : c < 7) : ∀ w ∈ u_ws (tw_cl c).1 (tw_cl c).2.1 (tw_cl c).2.2, w ∈ tw_big := by
  refine tw_lt7 (P := fun c => ∀ w ∈ u_ws (tw_cl c).1 (tw_cl c).2.1 (tw_cl c).2.2, w ∈ tw_big) ?_ ?_ ?_ ?_ ?_ ?_ ?_ h
  · exact tw_cl_w0
  · exact tw_cl_w1
  · exact tw_cl_w2
  · exact tw_cl_w3
  · exact tw_cl_w4
  · exact tw_cl_w5
  · exact tw_cl_w6
theorem tw_cl_own {c j : Nat} (h : c < 7) (hj : j < tw_nf c) : ((tw_cl c).2.1 j).1 = (tw_cl c).1 := by
  have h25 : ∀ c, c < 7 → ∀ j, j < 25 → ((tw_cl c).2.1 j).1 = (tw_cl c).1 := by decide +kernel
  have hn : ∀ c, c < 7 → tw_nf c ≤ 25 := by decide +kernel
  exact h25 c h j (Nat.lt_of_lt_of_le hj (hn c h))
theorem tw_cl_free {c j : Nat} (h : c < 7) (hj : j < tw_nf c) : (tw_fk c j = 2 ∨ ((tw_cl c).2.1 j).2.2.2 = false) ∧ (tw_fk c j = 0 → tw_tyf c j = .int) ∧ (tw_fk c j = 1 → tw_tyf c j = .long) ∧ (tw_fk c j = 3 → tw_tyf c j = .boolean) := by
  have h25 : ∀ c, c < 7 → ∀ j, j < tw_nf c → (tw_fk c j = 2 ∨ ((tw_cl c).2.1 j).2.2.2 = false) ∧ (tw_fk c j = 0 → tw_tyf c j = .int) ∧ (tw_fk c j = 1 → tw_tyf c j = .long) ∧ (tw_fk c j = 3 → tw_tyf c j = .boolean) := by decide +kernel
  exact h25 c h j hj
/-! locals -/
def tw_LR (g : tw_E) (L : tw_L) (ls : Array Slot) : Prop := ls.size = L.length ∧ lv_wf ls ∧ ∀ (i : Nat) (v : tw_V), L[i]? = some (some v) → ls[i]? = some (.val (tw_rv g v))
def tw_as (g : tw_E) (L : tw_L) : List (Nat × Value) := (List.range L.length).filterMap (fun j => match L[j]? with
  | some (some v) => some (j, tw_rv g v)
  | _ => none)
theorem tw_as_in {g : tw_E} {L : tw_L} {q : Nat × Value} : q ∈ tw_as g L ↔ ∃ v, L[q.1]? = some (some v) ∧ q.2 = tw_rv g v := by
  unfold tw_as
  rw [List.mem_filterMap]
  constructor
  · rintro ⟨j, -, hj⟩
    split at hj
    · rename_i v hv
      cases hj
      exact ⟨v, hv, rfl⟩
    · cases hj
  · rintro ⟨v, hv, e⟩
    refine ⟨q.1, List.mem_range.mpr (List.getElem?_eq_some_iff.mp hv).1, ?_⟩
    rw [hv]
    show some (q.1, tw_rv g v) = some q
    rw [← e]
theorem tw_LR_has {g : tw_E} {L : tw_L} {ls : Array Slot} (h : tw_LR g L ls) : lv_has ls L.length (tw_as g L) := by
  refine ⟨h.1, h.2.1, fun q hq => ?_⟩
  obtain ⟨v, hv, e⟩ := tw_as_in.mp hq
  rw [e]
  exact h.2.2 _ _ hv
theorem tw_kl_len : ∀ (i : Nat) (L : tw_L), (tw_kl i L).length = L.length
  | 0, L => by cases L <;> rfl
  | _ + 1, [] => by rw [tw_kl]
  | 1, o :: L => by simp [tw_kl]
  | i + 2, o :: L => by simp [tw_kl, tw_kl_len (i + 1) L]
theorem tw_k_of {o : Option tw_V} {w : tw_V} (h : tw_k o = some w) : o = some w ∧ tw_ca w ≠ 2 := by
  unfold tw_k at h
  split at h
  · cases h
  · subst h
    rename_i h2
    refine ⟨rfl, fun e => ?_⟩
    rcases w with x | x | x
    · cases e
    · exact h2 x rfl
    · cases e
theorem tw_kl_at : ∀ (i : Nat) (L : tw_L) (j : Nat) (w : tw_V), (tw_kl i L)[j]? = some (some w) → L[j]? = some (some w) ∧ ¬ (j + 1 = i ∧ tw_ca w = 2)
  | 0, L, j, w, h => ⟨by cases L <;> exact h, fun e => by omega⟩
  | _ + 1, [], j, w, h => by rw [tw_kl] at h; cases h
  | 1, o :: L, j, w, h => by
    rw [tw_kl] at h
    cases j with
    | zero =>
      have h1 : tw_k o = some w := by simpa using h
      obtain ⟨e1, e2⟩ := tw_k_of h1
      exact ⟨by rw [e1]; rfl, fun e => e2 e.2⟩
    | succ j => exact ⟨by simpa using h, fun e => by omega⟩
  | i + 2, o :: L, j, w, h => by
    rw [tw_kl] at h
    cases j with
    | zero => exact ⟨by simpa using h, fun e => by omega⟩
    | succ j =>
      have h1 : (tw_kl (i + 1) L)[j]? = some (some w) := by simpa using h
      obtain ⟨e1, e2⟩ := tw_kl_at (i + 1) L j w h1
      exact ⟨by simpa using e1, fun e => e2 ⟨by omega, e.2⟩⟩
theorem tw_s1_len (L : tw_L) (i : Nat) (v : tw_V) : (tw_s1 L i v).length = L.length := by simp [tw_s1, tw_kl_len]
theorem tw_s2_len (L : tw_L) (i : Nat) (v : tw_V) : (tw_s2 L i v).length = L.length := by simp [tw_s2, tw_kl_len]
theorem tw_s1_at {L : tw_L} {i j : Nat} {v w : tw_V} (h : (tw_s1 L i v)[j]? = some (some w)) : (j = i ∧ w = v) ∨ (j ≠ i ∧ L[j]? = some (some w) ∧ ¬ (j + 1 = i ∧ tw_ca w = 2)) := by
  unfold tw_s1 at h
  by_cases e : j = i
  · subst e
    rw [List.getElem?_set] at h
    rw [if_pos rfl] at h
    split at h
    · cases h; exact Or.inl ⟨rfl, rfl⟩
    · cases h
  · rw [List.getElem?_set_ne (Ne.symm e)] at h
    exact Or.inr ⟨e, tw_kl_at _ _ _ _ h⟩
theorem tw_s2_at {L : tw_L} {i j : Nat} {v w : tw_V} (h : (tw_s2 L i v)[j]? = some (some w)) : (j = i ∧ w = v) ∨ (j ≠ i ∧ j ≠ i + 1 ∧ L[j]? = some (some w) ∧ ¬ (j + 1 = i ∧ tw_ca w = 2)) := by
  unfold tw_s2 at h
  by_cases e : j = i + 1
  · subst e
    rw [List.getElem?_set] at h
    rw [if_pos rfl] at h
    split at h
    · cases h
    · cases h
  · rw [List.getElem?_set_ne (Ne.symm e)] at h
    by_cases e2 : j = i
    · subst e2
      rw [List.getElem?_set] at h
      rw [if_pos rfl] at h
      split at h
      · cases h; exact Or.inl ⟨rfl, rfl⟩
      · cases h
    · rw [List.getElem?_set_ne (Ne.symm e2)] at h
      exact Or.inr ⟨e2, e, tw_kl_at _ _ _ _ h⟩
theorem tw_LR_s1 {g : tw_E} {s : State} {H : Heap} {L : tw_L} {ls : Array Slot} {i : Nat} {v : tw_V} (hF : tw_F g s H) (h : lv_has ls L.length ((i, tw_rv g v) :: (tw_as g L).filter (fun q => !(q.1 == i) && !(q.1 + 1 == i && q.2.category == 2)))) : tw_LR g (tw_s1 L i v) ls := by
  refine ⟨by rw [tw_s1_len]; exact h.1, h.2.1, fun j w hj => ?_⟩
  rcases tw_s1_at hj with ⟨rfl, rfl⟩ | ⟨n1, h1, n2⟩
  · exact h.2.2 _ List.mem_cons_self
  · refine h.2.2 (j, tw_rv g w) (List.mem_cons_of_mem _ (List.mem_filter.mpr ⟨tw_as_in.mpr ⟨w, h1, rfl⟩, ?_⟩))
    have n3 : ¬ (j + 1 = i ∧ (tw_rv g w).category = 2) := by rw [tw_rv_cat hF]; exact n2
    simp only [Bool.and_eq_true, Bool.not_eq_true', beq_eq_false_iff_ne, ne_eq, Bool.and_eq_false_iff]
    refine ⟨n1, ?_⟩
    by_cases e : j + 1 = i
    · exact Or.inr (fun z => n3 ⟨e, z⟩)
    · exact Or.inl e
theorem tw_LR_s2 {g : tw_E} {s : State} {H : Heap} {L : tw_L} {ls : Array Slot} {i : Nat} {v : tw_V} (hF : tw_F g s H) (h : lv_has ls L.length ((i, tw_rv g v) :: (tw_as g L).filter (fun q => !(q.1 == i) && (!(q.1 == i + 1) && !(q.1 + 1 == i && q.2.category == 2))))) : tw_LR g (tw_s2 L i v) ls := by
  refine ⟨by rw [tw_s2_len]; exact h.1, h.2.1, fun j w hj => ?_⟩
  rcases tw_s2_at hj with ⟨rfl, rfl⟩ | ⟨n1, n0, h1, n2⟩
  · exact h.2.2 _ List.mem_cons_self
  · refine h.2.2 (j, tw_rv g w) (List.mem_cons_of_mem _ (List.mem_filter.mpr ⟨tw_as_in.mpr ⟨w, h1, rfl⟩, ?_⟩))
    have n3 : ¬ (j + 1 = i ∧ (tw_rv g w).category = 2) := by rw [tw_rv_cat hF]; exact n2
    simp only [Bool.and_eq_true, Bool.not_eq_true', beq_eq_false_iff_ne, ne_eq, Bool.and_eq_false_iff]
    refine ⟨n1, n0, ?_⟩
    by_cases e : j + 1 = i
    · exact Or.inr (fun z => n3 ⟨e, z⟩)
    · exact Or.inl e
theorem tw_el_len (g : tw_E) {s : State} {H : Heap} (hF : tw_F g s H) : ∀ l : List tw_V, (lg_sl (l.map (tw_rv g))).length = (tw_el l).length
  | [] => rfl
  | v :: l => by
    have ih := tw_el_len g hF l
    have hc := tw_rv_cat hF v
    rcases v with x | x | x
    · simp [lg_sl, tw_el, hc, tw_ca] at ih ⊢; exact ih
    · simp [lg_sl, tw_el, hc, tw_ca] at ih ⊢; omega
    · simp [lg_sl, tw_el, hc, tw_ca] at ih ⊢; exact ih
theorem tw_el_args (g : tw_E) {s : State} {H : Heap} (hF : tw_F g s H) : ∀ (l : List tw_V) (o j : Nat) (w : tw_V), (tw_el l)[j]? = some (some w) → (o + j, tw_rv g w) ∈ lv_args o (l.map (tw_rv g))
  | [], o, j, w, h => by simp [tw_el] at h
  | v :: l, o, j, w, h => by
    have hc := tw_rv_cat hF v
    have key : ∀ x : tw_V, tw_ca x = 1 → v = x → (tw_el (v :: l) = some v :: tw_el l) → (o + j, tw_rv g w) ∈ lv_args o ((v :: l).map (tw_rv g)) := by
      intro x hx e1 e2
      rw [e2] at h
      rw [List.map_cons, lv_args]
      cases j with
      | zero =>
        have : v = w := by simpa using h
        rw [this]; exact List.mem_cons_self
      | succ j =>
        refine List.mem_cons_of_mem _ ?_
        rw [hc, e1, hx, if_neg (by decide)]
        have h2 : (tw_el l)[j]? = some (some w) := by simpa using h
        have := tw_el_args g hF l (o + 1) j w h2
        rw [show o + (j + 1) = o + 1 + j by omega]
        exact this
    rcases v with x | x | x
    · exact key _ rfl rfl rfl
    · rw [List.map_cons, lv_args]
      have e2 : tw_el (Sum.inr (Sum.inl x) :: l) = some (tw_J x) :: none :: tw_el l := rfl
      rw [e2] at h
      cases j with
      | zero =>
        have : tw_J x = w := by simpa using h
        rw [← this]; exact List.mem_cons_self
      | succ j =>
        cases j with
        | zero => simp at h
        | succ j =>
          refine List.mem_cons_of_mem _ ?_
          rw [hc]
          rw [if_pos (show tw_ca (tw_J x) = 2 from rfl)]
          have h2 : (tw_el l)[j]? = some (some w) := by simpa using h
          have := tw_el_args g hF l (o + 2) j w h2
          rw [show o + (j + 1 + 1) = o + 2 + j by omega]
          exact this
    · exact key _ rfl rfl rfl
theorem tw_LR_en {g : tw_E} {s : State} {H : Heap} (hF : tw_F g s H) {n : Nat} {l : List tw_V} (hn : (tw_el l).length ≤ n) : tw_LR g (tw_en n l) ((lg_sl (l.map (tw_rv g)) ++ List.replicate (n - (lg_sl (l.map (tw_rv g))).length) Slot.unset).toArray) := by
  have hl := lv_entry (l.map (tw_rv g)) (n := n) (by rw [tw_el_len g hF]; exact hn)
  refine ⟨?_, hl.2.1, fun j w hj => ?_⟩
  · rw [hl.1]
    simp [tw_en]
    omega
  · unfold tw_en at hj
    have hj2 : (tw_el l)[j]? = some (some w) := by
      rw [List.getElem?_append] at hj
      split at hj
      · exact hj
      · rw [List.getElem?_replicate] at hj
        split at hj
        · cases hj
        · cases hj
    have := tw_el_args g hF l 0 j w hj2
    rw [Nat.zero_add] at this
    exact hl.2.2 _ this
/-! the cells -/
theorem tw_ws_D {g : tw_E} (h : tw_ap g) (μ : tw_M) : va_D (tw_A g) (tw_ws g μ) := by
  have key : ∀ (k : Nat) (q : Nat × va_E), (tw_ws g μ)[k]? = some q → ∃ x, (tw_vs g)[k]? = some x ∧ q = (tw_ad g x.1 x.2, tw_ent g μ x.1 x.2) := by
    intro k q hk
    unfold tw_ws at hk
    rw [List.getElem?_map] at hk
    cases hx : (tw_vs g)[k]? with
    | none => rw [hx] at hk; cases hk
    | some x => rw [hx] at hk; cases hk; exact ⟨x, rfl, rfl⟩
  refine ⟨fun i j p q hi hj e => ?_, fun k q hk => ?_⟩
  · obtain ⟨x, h1, rfl⟩ := key i p hi
    obtain ⟨y, h2, rfl⟩ := key j q hj
    exact h i j x y h1 h2 e
  · obtain ⟨x, h1, rfl⟩ := key k q hk
    exact ⟨x, List.mem_of_getElem? h1, rfl⟩
theorem tw_ws_at {g : tw_E} {μ : tw_M} {k n : Nat} (h : (k, n) ∈ tw_vs g) : ∃ i : Nat, (tw_vs g)[i]? = some (k, n) ∧ (tw_ws g μ)[i]? = some (tw_ad g k n, tw_ent g μ k n) := by
  obtain ⟨i, hi⟩ := List.getElem?_of_mem h
  exact ⟨i, hi, by unfold tw_ws; rw [List.getElem?_map, hi]; rfl⟩
theorem tw_ws_set {g : tw_E} (ha : tw_ap g) {μ μ' : tw_M} {k n i : Nat} (hi : (tw_vs g)[i]? = some (k, n)) (ho : ∀ x, x ∈ tw_vs g → x ≠ (k, n) → tw_ent g μ' x.1 x.2 = tw_ent g μ x.1 x.2) : (tw_ws g μ).set i (tw_ad g k n, tw_ent g μ' k n) = tw_ws g μ' := by
  apply List.ext_getElem?
  intro j
  unfold tw_ws
  by_cases e : j = i
  · subst e
    rw [List.getElem?_set_self (by rw [List.length_map]; exact (List.getElem?_eq_some_iff.mp hi).1), List.getElem?_map, hi]
    rfl
  · rw [List.getElem?_set_ne (Ne.symm e), List.getElem?_map, List.getElem?_map]
    cases hx : (tw_vs g)[j]? with
    | none => rfl
    | some x =>
      have hne : x ≠ (k, n) := fun z => e (ha j i x (k, n) hx hi (by rw [z]))
      show some (_, _) = some (_, _)
      rw [ho x (List.mem_of_getElem? hx) hne]
theorem tw_ent_si {g : tw_E} {μ : tw_M} {k n j : Nat} {v : Int32} (x : Nat × Nat) (h : x ≠ (k, n)) : tw_ent g (tw_si μ k n j v) x.1 x.2 = tw_ent g μ x.1 x.2 := by
  have e : ∀ j', tw_gi (tw_si μ k n j v) x.1 x.2 j' = tw_gi μ x.1 x.2 j' := by
    intro j'
    unfold tw_gi tw_si
    dsimp only
    rw [if_neg]
    rintro ⟨h1, h2, -⟩
    exact h (Prod.ext h1 h2)
  have e2 : ∀ j', tw_fv (tw_si μ k n j v) x.1 x.2 j' = tw_fv μ x.1 x.2 j' := by
    intro j'
    unfold tw_fv
    rw [e j']
    rfl
  unfold tw_ent
  simp only [e, e2]
  by_cases h38 : x.1 = 38
  · have : ∀ j', tw_gi (tw_si μ k n j v) 38 x.2 j' = tw_gi μ 38 x.2 j' := by
      intro j'
      have := e j'
      rw [h38] at this
      exact this
    simp only [this]
  · simp only [if_neg h38]
theorem tw_map_set {α : Type} (f f' : Nat → α) (n j : Nat) (h : ∀ i, i ≠ j → f' i = f i) : ((List.range n).map f).set j (f' j) = (List.range n).map f' := by
  apply List.ext_getElem?
  intro i
  by_cases e : i = j
  · subst e
    by_cases hl : i < n
    · rw [List.getElem?_set_self (by simpa using hl)]
      simp [hl]
    · rw [List.getElem?_eq_none (by simpa using hl), List.getElem?_eq_none (by simpa using hl)]
  · rw [List.getElem?_set_ne (Ne.symm e)]
    by_cases hl : i < n
    · simp [hl, h i e]
    · rw [List.getElem?_eq_none (by simpa using hl), List.getElem?_eq_none (by simpa using hl)]
theorem tw_gi_si {μ : tw_M} {k n j k' n' j' : Nat} {v : Int32} : tw_gi (tw_si μ k n j v) k' n' j' = if k' = k ∧ n' = n ∧ j' = j then v else tw_gi μ k' n' j' := rfl
theorem tw_gi_sl {μ : tw_M} {k k' n' j' : Nat} {v : Int64} : tw_gi (tw_sl μ k v) k' n' j' = tw_gi μ k' n' j' := rfl
theorem tw_gl_si {μ : tw_M} {k n j k' : Nat} {v : Int32} : tw_gl (tw_si μ k n j v) k' = tw_gl μ k' := rfl
theorem tw_gl_sl {μ : tw_M} {k k' : Nat} {v : Int64} : tw_gl (tw_sl μ k v) k' = if k' = k then v else tw_gl μ k' := rfl
