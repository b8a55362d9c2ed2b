section
variable {g : tw_E} {p : Program} {l : Launch} {e : Env} {s : State} {m : MethodId} {args : Array Value} {below : List Frame} {meth : Method} {c : Code} {i pc q : Nat} {Qf : State → Prop} {L L' : tw_L} {st st' : List tw_V} {μ μ' : tw_M}
theorem tw_rv_r (g : tw_E) {k n : Nat} (h : k ≠ 98) : ∃ t, tw_rv g (tw_R k n) = .ref t := by
  unfold tw_rv
  dsimp only
  split
  · exact ⟨_, rfl⟩
  · split
    · exact ⟨_, rfl⟩
    · exact ⟨_, rfl⟩
theorem tw_tgt {x pc : Nat} : (pc : Int) + ((x : Int) - pc) = (x : Int) := by omega

theorem tw_o47_0 {t : Nat} (C : tw_Cx g p s m args meth c i) (hd : decode (tw_by i) pc = .ok (.ifCond (tw_co 0) ((t : Int) - pc), 3)) (hx : tw_bz 0 t (pc + 3) L st μ = some (Sum.inl (q, L', st', μ'))) (k : tw_Kp g p l e s m args below meth c i Qf q L' st' μ') : tw_Kp g p l e s m args below meth c i Qf pc L st μ := by
  obtain ⟨hx1, hb, hml, -, -, hown, hts, hF, hsh, hap⟩ := C
  unfold tw_bz at hx
  split at hx
  · rename_i v r
    cases hx
    intro ok hl H locs ls hP hS hL
    refine lv_if_eq hx1 hb hd tw_tgt (fun h => ?_) (fun h => ?_)
    · rw [if_pos h] at k
      exact k (tw_ok_tl ok) hl H locs ls hP hS hL
    · rw [if_neg h] at k
      exact k (tw_ok_tl ok) hl H locs ls hP hS hL
  · cases hx

theorem tw_o48_0 {t : Nat} (C : tw_Cx g p s m args meth c i) (hd : decode (tw_by i) pc = .ok (.if_icmp (tw_co 0) ((t : Int) - pc), 3)) (hx : tw_bi 0 t (pc + 3) L st μ = some (Sum.inl (q, L', st', μ'))) (k : tw_Kp g p l e s m args below meth c i Qf q L' st' μ') : tw_Kp g p l e s m args below meth c i Qf pc L st μ := by
  obtain ⟨hx1, hb, hml, -, -, hown, hts, hF, hsh, hap⟩ := C
  unfold tw_bi at hx
  split at hx
  · rename_i w v r
    cases hx
    intro ok hl H locs ls hP hS hL
    refine lv_icmp_eq hx1 hb hd tw_tgt (fun h => ?_) (fun h => ?_)
    · rw [if_pos h] at k
      exact k (tw_ok_tl (tw_ok_tl ok)) hl H locs ls hP hS hL
    · rw [if_neg h] at k
      exact k (tw_ok_tl (tw_ok_tl ok)) hl H locs ls hP hS hL
  · cases hx

theorem tw_o47_1 {t : Nat} (C : tw_Cx g p s m args meth c i) (hd : decode (tw_by i) pc = .ok (.ifCond (tw_co 1) ((t : Int) - pc), 3)) (hx : tw_bz 1 t (pc + 3) L st μ = some (Sum.inl (q, L', st', μ'))) (k : tw_Kp g p l e s m args below meth c i Qf q L' st' μ') : tw_Kp g p l e s m args below meth c i Qf pc L st μ := by
  obtain ⟨hx1, hb, hml, -, -, hown, hts, hF, hsh, hap⟩ := C
  unfold tw_bz at hx
  split at hx
  · rename_i v r
    cases hx
    intro ok hl H locs ls hP hS hL
    refine lv_if_ne hx1 hb hd tw_tgt (fun h => ?_) (fun h => ?_)
    · rw [if_neg h] at k
      exact k (tw_ok_tl ok) hl H locs ls hP hS hL
    · rw [if_pos h] at k
      exact k (tw_ok_tl ok) hl H locs ls hP hS hL
  · cases hx

theorem tw_o48_1 {t : Nat} (C : tw_Cx g p s m args meth c i) (hd : decode (tw_by i) pc = .ok (.if_icmp (tw_co 1) ((t : Int) - pc), 3)) (hx : tw_bi 1 t (pc + 3) L st μ = some (Sum.inl (q, L', st', μ'))) (k : tw_Kp g p l e s m args below meth c i Qf q L' st' μ') : tw_Kp g p l e s m args below meth c i Qf pc L st μ := by
  obtain ⟨hx1, hb, hml, -, -, hown, hts, hF, hsh, hap⟩ := C
  unfold tw_bi at hx
  split at hx
  · rename_i w v r
    cases hx
    intro ok hl H locs ls hP hS hL
    refine lv_icmp_ne hx1 hb hd tw_tgt (fun h => ?_) (fun h => ?_)
    · rw [if_neg h] at k
      exact k (tw_ok_tl (tw_ok_tl ok)) hl H locs ls hP hS hL
    · rw [if_pos h] at k
      exact k (tw_ok_tl (tw_ok_tl ok)) hl H locs ls hP hS hL
  · cases hx

theorem tw_o47_2 {t : Nat} (C : tw_Cx g p s m args meth c i) (hd : decode (tw_by i) pc = .ok (.ifCond (tw_co 2) ((t : Int) - pc), 3)) (hx : tw_bz 2 t (pc + 3) L st μ = some (Sum.inl (q, L', st', μ'))) (k : tw_Kp g p l e s m args below meth c i Qf q L' st' μ') : tw_Kp g p l e s m args below meth c i Qf pc L st μ := by
  obtain ⟨hx1, hb, hml, -, -, hown, hts, hF, hsh, hap⟩ := C
  unfold tw_bz at hx
  split at hx
  · rename_i v r
    cases hx
    intro ok hl H locs ls hP hS hL
    refine lv_if_lt hx1 hb hd tw_tgt (fun h => ?_) (fun h => ?_)
    · rw [if_pos h] at k
      exact k (tw_ok_tl ok) hl H locs ls hP hS hL
    · rw [if_neg h] at k
      exact k (tw_ok_tl ok) hl H locs ls hP hS hL
  · cases hx

theorem tw_o48_2 {t : Nat} (C : tw_Cx g p s m args meth c i) (hd : decode (tw_by i) pc = .ok (.if_icmp (tw_co 2) ((t : Int) - pc), 3)) (hx : tw_bi 2 t (pc + 3) L st μ = some (Sum.inl (q, L', st', μ'))) (k : tw_Kp g p l e s m args below meth c i Qf q L' st' μ') : tw_Kp g p l e s m args below meth c i Qf pc L st μ := by
  obtain ⟨hx1, hb, hml, -, -, hown, hts, hF, hsh, hap⟩ := C
  unfold tw_bi at hx
  split at hx
  · rename_i w v r
    cases hx
    intro ok hl H locs ls hP hS hL
    refine lv_icmp_lt hx1 hb hd tw_tgt (fun h => ?_) (fun h => ?_)
    · rw [if_pos h] at k
      exact k (tw_ok_tl (tw_ok_tl ok)) hl H locs ls hP hS hL
    · rw [if_neg h] at k
      exact k (tw_ok_tl (tw_ok_tl ok)) hl H locs ls hP hS hL
  · cases hx

theorem tw_o47_3 {t : Nat} (C : tw_Cx g p s m args meth c i) (hd : decode (tw_by i) pc = .ok (.ifCond (tw_co 3) ((t : Int) - pc), 3)) (hx : tw_bz 3 t (pc + 3) L st μ = some (Sum.inl (q, L', st', μ'))) (k : tw_Kp g p l e s m args below meth c i Qf q L' st' μ') : tw_Kp g p l e s m args below meth c i Qf pc L st μ := by
  obtain ⟨hx1, hb, hml, -, -, hown, hts, hF, hsh, hap⟩ := C
  unfold tw_bz at hx
  split at hx
  · rename_i v r
    cases hx
    intro ok hl H locs ls hP hS hL
    refine lv_if_ge hx1 hb hd tw_tgt (fun h => ?_) (fun h => ?_)
    · rw [if_pos h] at k
      exact k (tw_ok_tl ok) hl H locs ls hP hS hL
    · rw [if_neg h] at k
      exact k (tw_ok_tl ok) hl H locs ls hP hS hL
  · cases hx

theorem tw_o48_3 {t : Nat} (C : tw_Cx g p s m args meth c i) (hd : decode (tw_by i) pc = .ok (.if_icmp (tw_co 3) ((t : Int) - pc), 3)) (hx : tw_bi 3 t (pc + 3) L st μ = some (Sum.inl (q, L', st', μ'))) (k : tw_Kp g p l e s m args below meth c i Qf q L' st' μ') : tw_Kp g p l e s m args below meth c i Qf pc L st μ := by
  obtain ⟨hx1, hb, hml, -, -, hown, hts, hF, hsh, hap⟩ := C
  unfold tw_bi at hx
  split at hx
  · rename_i w v r
    cases hx
    intro ok hl H locs ls hP hS hL
    refine lv_icmp_ge hx1 hb hd tw_tgt (fun h => ?_) (fun h => ?_)
    · rw [if_pos h] at k
      exact k (tw_ok_tl (tw_ok_tl ok)) hl H locs ls hP hS hL
    · rw [if_neg h] at k
      exact k (tw_ok_tl (tw_ok_tl ok)) hl H locs ls hP hS hL
  · cases hx

theorem tw_o47_4 {t : Nat} (C : tw_Cx g p s m args meth c i) (hd : decode (tw_by i) pc = .ok (.ifCond (tw_co 4) ((t : Int) - pc), 3)) (hx : tw_bz 4 t (pc + 3) L st μ = some (Sum.inl (q, L', st', μ'))) (k : tw_Kp g p l e s m args below meth c i Qf q L' st' μ') : tw_Kp g p l e s m args below meth c i Qf pc L st μ := by
  obtain ⟨hx1, hb, hml, -, -, hown, hts, hF, hsh, hap⟩ := C
  unfold tw_bz at hx
  split at hx
  · rename_i v r
    cases hx
    intro ok hl H locs ls hP hS hL
    refine lv_if_gt hx1 hb hd tw_tgt (fun h => ?_) (fun h => ?_)
    · rw [if_pos h] at k
      exact k (tw_ok_tl ok) hl H locs ls hP hS hL
    · rw [if_neg h] at k
      exact k (tw_ok_tl ok) hl H locs ls hP hS hL
  · cases hx

theorem tw_o48_4 {t : Nat} (C : tw_Cx g p s m args meth c i) (hd : decode (tw_by i) pc = .ok (.if_icmp (tw_co 4) ((t : Int) - pc), 3)) (hx : tw_bi 4 t (pc + 3) L st μ = some (Sum.inl (q, L', st', μ'))) (k : tw_Kp g p l e s m args below meth c i Qf q L' st' μ') : tw_Kp g p l e s m args below meth c i Qf pc L st μ := by
  obtain ⟨hx1, hb, hml, -, -, hown, hts, hF, hsh, hap⟩ := C
  unfold tw_bi at hx
  split at hx
  · rename_i w v r
    cases hx
    intro ok hl H locs ls hP hS hL
    refine lv_icmp_gt hx1 hb hd tw_tgt (fun h => ?_) (fun h => ?_)
    · rw [if_pos h] at k
      exact k (tw_ok_tl (tw_ok_tl ok)) hl H locs ls hP hS hL
    · rw [if_neg h] at k
      exact k (tw_ok_tl (tw_ok_tl ok)) hl H locs ls hP hS hL
  · cases hx

theorem tw_o47_5 {t : Nat} (C : tw_Cx g p s m args meth c i) (hd : decode (tw_by i) pc = .ok (.ifCond (tw_co 5) ((t : Int) - pc), 3)) (hx : tw_bz 5 t (pc + 3) L st μ = some (Sum.inl (q, L', st', μ'))) (k : tw_Kp g p l e s m args below meth c i Qf q L' st' μ') : tw_Kp g p l e s m args below meth c i Qf pc L st μ := by
  obtain ⟨hx1, hb, hml, -, -, hown, hts, hF, hsh, hap⟩ := C
  unfold tw_bz at hx
  split at hx
  · rename_i v r
    cases hx
    intro ok hl H locs ls hP hS hL
    refine lv_if_le hx1 hb hd tw_tgt (fun h => ?_) (fun h => ?_)
    · rw [if_pos h] at k
      exact k (tw_ok_tl ok) hl H locs ls hP hS hL
    · rw [if_neg h] at k
      exact k (tw_ok_tl ok) hl H locs ls hP hS hL
  · cases hx

theorem tw_o48_5 {t : Nat} (C : tw_Cx g p s m args meth c i) (hd : decode (tw_by i) pc = .ok (.if_icmp (tw_co 5) ((t : Int) - pc), 3)) (hx : tw_bi 5 t (pc + 3) L st μ = some (Sum.inl (q, L', st', μ'))) (k : tw_Kp g p l e s m args below meth c i Qf q L' st' μ') : tw_Kp g p l e s m args below meth c i Qf pc L st μ := by
  obtain ⟨hx1, hb, hml, -, -, hown, hts, hF, hsh, hap⟩ := C
  unfold tw_bi at hx
  split at hx
  · rename_i w v r
    cases hx
    intro ok hl H locs ls hP hS hL
    refine lv_icmp_le hx1 hb hd tw_tgt (fun h => ?_) (fun h => ?_)
    · rw [if_pos h] at k
      exact k (tw_ok_tl (tw_ok_tl ok)) hl H locs ls hP hS hL
    · rw [if_neg h] at k
      exact k (tw_ok_tl (tw_ok_tl ok)) hl H locs ls hP hS hL
  · cases hx

theorem tw_o47 {a t : Nat} (ha : a < 6) (C : tw_Cx g p s m args meth c i) (hd : decode (tw_by i) pc = .ok (.ifCond (tw_co a) ((t : Int) - pc), 3)) (hx : tw_bz a t (pc + 3) L st μ = some (Sum.inl (q, L', st', μ'))) (k : tw_Kp g p l e s m args below meth c i Qf q L' st' μ') : tw_Kp g p l e s m args below meth c i Qf pc L st μ := by
  match a, ha with
  | 0, _ => exact tw_o47_0 C hd hx k
  | 1, _ => exact tw_o47_1 C hd hx k
  | 2, _ => exact tw_o47_2 C hd hx k
  | 3, _ => exact tw_o47_3 C hd hx k
  | 4, _ => exact tw_o47_4 C hd hx k
  | 5, _ => exact tw_o47_5 C hd hx k
  | n + 6, h => exact absurd h (by omega)

theorem tw_o48 {a t : Nat} (ha : a < 6) (C : tw_Cx g p s m args meth c i) (hd : decode (tw_by i) pc = .ok (.if_icmp (tw_co a) ((t : Int) - pc), 3)) (hx : tw_bi a t (pc + 3) L st μ = some (Sum.inl (q, L', st', μ'))) (k : tw_Kp g p l e s m args below meth c i Qf q L' st' μ') : tw_Kp g p l e s m args below meth c i Qf pc L st μ := by
  match a, ha with
  | 0, _ => exact tw_o48_0 C hd hx k
  | 1, _ => exact tw_o48_1 C hd hx k
  | 2, _ => exact tw_o48_2 C hd hx k
  | 3, _ => exact tw_o48_3 C hd hx k
  | 4, _ => exact tw_o48_4 C hd hx k
  | 5, _ => exact tw_o48_5 C hd hx k
  | n + 6, h => exact absurd h (by omega)

theorem tw_o49 {t : Nat} (C : tw_Cx g p s m args meth c i) (hd : decode (tw_by i) pc = .ok (.ifnull ((t : Int) - pc), 3)) (hx : tw_bn t (pc + 3) L st μ = some (Sum.inl (q, L', st', μ'))) (k : tw_Kp g p l e s m args below meth c i Qf q L' st' μ') : tw_Kp g p l e s m args below meth c i Qf pc L st μ := by
  obtain ⟨hx1, hb, hml, -, -, hown, hts, hF, hsh, hap⟩ := C
  unfold tw_bn at hx
  split at hx
  · rename_i r
    cases hx
    intro ok hl H locs ls hP hS hL
    exact lv_ifnullN hx1 hb hd tw_tgt (k (tw_ok_tl ok) hl H locs ls hP hS hL)
  · rename_i kk nn r
    split at hx
    · cases hx
    · rename_i hne
      cases hx
      intro ok hl H locs ls hP hS hL
      rw [List.map_cons]
      obtain ⟨t, z⟩ := tw_rv_r g (n := nn) (fun z : kk = 98 => by rw [z] at hne; cases hne)
      rw [z]
      exact lv_ifnull hx1 hb hd (k (tw_ok_tl ok) hl H locs ls hP hS hL)
  · cases hx

theorem tw_o50 {t : Nat} (C : tw_Cx g p s m args meth c i) (hd : decode (tw_by i) pc = .ok (.ifnonnull ((t : Int) - pc), 3)) (hx : tw_bn (pc + 3) t L st μ = some (Sum.inl (q, L', st', μ'))) (k : tw_Kp g p l e s m args below meth c i Qf q L' st' μ') : tw_Kp g p l e s m args below meth c i Qf pc L st μ := by
  obtain ⟨hx1, hb, hml, -, -, hown, hts, hF, hsh, hap⟩ := C
  unfold tw_bn at hx
  split at hx
  · rename_i r
    cases hx
    intro ok hl H locs ls hP hS hL
    exact lv_ifnonnullN hx1 hb hd (k (tw_ok_tl ok) hl H locs ls hP hS hL)
  · rename_i kk nn r
    split at hx
    · cases hx
    · rename_i hne
      cases hx
      intro ok hl H locs ls hP hS hL
      rw [List.map_cons]
      obtain ⟨t, z⟩ := tw_rv_r g (n := nn) (fun z : kk = 98 => by rw [z] at hne; cases hne)
      rw [z]
      exact lv_ifnonnull hx1 hb hd tw_tgt (k (tw_ok_tl ok) hl H locs ls hP hS hL)
  · cases hx

theorem tw_o51 {t : Nat} (C : tw_Cx g p s m args meth c i) (hd : decode (tw_by i) pc = .ok (.goto ((t : Int) - pc), 3)) (hx : tw_nx t L st μ = some (Sum.inl (q, L', st', μ'))) (k : tw_Kp g p l e s m args below meth c i Qf q L' st' μ') : tw_Kp g p l e s m args below meth c i Qf pc L st μ := by
  have C0 := C
  obtain ⟨hx1, hb, hml, -, -, hown, hts, hF, hsh, hap⟩ := C
  cases hx
  intro ok hl H locs ls hP hS hL
  exact lv_goto hx1 hb hd tw_tgt (k ok hl H locs ls hP hS hL)

theorem tw_sw_tab : ∀ (sw : List (Int32 × Nat)) (o d : Nat) (v : Int32), sw.map (fun q => q.1) = (List.range' o sw.length).map nI → o + sw.length < 1000 →
    (v.toInt < o ∨ (o : Int) + sw.length ≤ v.toInt → tw_sw sw d v = d) ∧ (∀ j : Nat, j < sw.length → v.toInt = (o : Int) + j → tw_sw sw d v = (sw.getD j (0, 0)).2)
  | [], o, d, v, h, hl => ⟨fun _ => rfl, fun j hj => by simp at hj⟩
  | (a, x) :: sw, o, d, v, h, hl => by
    rw [List.length_cons] at h hl
    rw [List.range'_succ, List.map_cons, List.map_cons] at h
    injection h with h1 h2
    have ih := tw_sw_tab sw (o + 1) d v h2 (by omega)
    have ea : a.toInt = (o : Int) := by
      have : a = nI o := h1
      rw [this]; exact nI_toInt (by omega)
    refine ⟨fun hv => ?_, fun j hj hv => ?_⟩
    · rw [tw_sw, if_neg]
      · refine ih.1 ?_
        rcases hv with z | z
        · left; omega
        · right; rw [List.length_cons] at z; push_cast at z ⊢; omega
      · intro z
        subst z
        rcases hv with z | z
        · omega
        · rw [List.length_cons] at z; push_cast at z; omega
    · cases j with
      | zero =>
        rw [tw_sw, if_pos]
        · rfl
        · exact Int32.toInt_inj.mp (by rw [ea, hv]; omega)
      | succ j =>
        rw [List.length_cons] at hj
        rw [tw_sw, if_neg]
        · have := ih.2 j (by omega) (by rw [hv]; push_cast; omega)
          rw [this]
          rfl
        · intro z
          subst z
          rw [ea] at hv
          push_cast at hv
          omega
theorem tw_o52 {t : Nat} {sw : List (Int32 × Nat)} {w : Nat} (hs : sw.map (fun q => q.1) = (List.range sw.length).map nI) (hl0 : sw.length < 100) (C : tw_Cx g p s m args meth c i) (hd : decode (tw_by i) pc = .ok (.tableswitch ((t : Int) - pc) 0 ((sw.length : Int) - 1) (sw.map (fun q => (q.2 : Int) - pc)).toArray, w)) (hx : tw_bs sw t L st μ = some (Sum.inl (q, L', st', μ'))) (k : tw_Kp g p l e s m args below meth c i Qf q L' st' μ') : tw_Kp g p l e s m args below meth c i Qf pc L st μ := by
  obtain ⟨hx1, hb, hml, -, -, hown, hts, hF, hsh, hap⟩ := C
  unfold tw_bs at hx
  split at hx
  · rename_i v r
    cases hx
    have hT := tw_sw_tab sw 0 t v (by rw [hs, List.range_eq_range']) (by omega)
    intro ok hl H locs ls hP hS hL
    by_cases hv : v.toInt < (0 : Int) ∨ (sw.length : Int) - 1 < v.toInt
    · have hv2 : v.toInt < ((0 : Nat) : Int) ∨ ((0 : Nat) : Int) + sw.length ≤ v.toInt := by omega
      rw [hT.1 hv2] at k
      exact lv_tableOut hx1 hb hd hv tw_tgt (k (tw_ok_tl ok) hl H locs ls hP hS hL)
    · have h1 : ¬ v.toInt < (0 : Int) := fun z => hv (Or.inl z)
      have h2 : ¬ (sw.length : Int) - 1 < v.toInt := fun z => hv (Or.inr z)
      have hj : v.toInt.toNat < sw.length := by omega
      rw [hT.2 v.toInt.toNat hj (by omega)] at k
      refine lv_tableIn hx1 hb hd h1 h2 (off := ((sw.getD v.toInt.toNat (0, 0)).2 : Int) - pc) ?_ tw_tgt (k (tw_ok_tl ok) hl H locs ls hP hS hL)
      rw [Int.sub_zero]
      generalize v.toInt.toNat = jj at hj ⊢
      rw [List.getElem?_toArray, List.getElem?_map, List.getD_eq_getElem?_getD, List.getElem?_eq_getElem hj]
      rfl
  · cases hx
theorem tw_o53 {t x y : Nat} {w : Nat} (C : tw_Cx g p s m args meth c i) (hd : decode (tw_by i) pc = .ok (.lookupswitch ((t : Int) - pc) #[((0 : Int32).toInt, (x : Int) - pc), ((1 : Int32).toInt, (y : Int) - pc)], w)) (hx : tw_bs [((0 : Int32), x), ((1 : Int32), y)] t L st μ = some (Sum.inl (q, L', st', μ'))) (k : tw_Kp g p l e s m args below meth c i Qf q L' st' μ') : tw_Kp g p l e s m args below meth c i Qf pc L st μ := by
  obtain ⟨hx1, hb, hml, -, -, hown, hts, hF, hsh, hap⟩ := C
  unfold tw_bs at hx
  split at hx
  · rename_i v r
    cases hx
    intro ok hl H locs ls hP hS hL
    have k2 := fun h => k (tw_ok_tl ok) hl H locs ls hP hS h
    by_cases h0 : v = 0
    · subst h0
      exact lv_lookup hx1 hb hd rfl (off := (x : Int) - pc) rfl tw_tgt (k2 hL)
    · by_cases h1 : v = 1
      · subst h1
        exact lv_lookup hx1 hb hd rfl (off := (y : Int) - pc) rfl tw_tgt (k2 hL)
      · simp only [tw_sw, if_neg h0, if_neg h1] at k2
        refine lv_lookup hx1 hb hd rfl (off := (t : Int) - pc) ?_ tw_tgt (k2 hL)
        rw [lv_osw h0 rfl, lv_osw h1 rfl]
        rfl
  · cases hx
theorem tw_nb {a b : Nat} (h : Nat.beq a b = true) : a = b := Nat.eq_of_beq_eq_true h
theorem tw_kind {k n : Nat} (hsh : tw_sh g) (h : (k, n) ∈ tw_vs g) : k ≠ 8 ∧ k ≠ 9 ∧ k ≠ 98 := by
  have := hsh.2.2.2.1 _ h
  dsimp only at this
  unfold tw_ia at this
  simp only [Bool.or_eq_true, Bool.and_eq_true, Nat.ble_eq] at this
  omega
theorem tw_vd_in {k n : Nat} (h : tw_vd g (tw_R k n)) (h8 : k ≠ 8) (h9 : k ≠ 9) (h98 : k ≠ 98) : (k, n) ∈ tw_vs g := by
  rcases h with z | z | z | z
  · exact absurd z.1 h8
  · exact absurd z.1 h9
  · exact absurd z h98
  · exact z
theorem tw_rv_in {k n : Nat} (hsh : tw_sh g) (h : (k, n) ∈ tw_vs g) : tw_rv g (tw_R k n) = .ref (tw_ad g k n) := by
  obtain ⟨h8, h9, h98⟩ := tw_kind hsh h
  unfold tw_rv
  dsimp only
  rw [if_neg h8, if_neg h9, if_neg h98]
theorem tw_vd_of {k n : Nat} (h : (k, n) ∈ tw_vs g) : tw_vd g (tw_R k n) := Or.inr (Or.inr (Or.inr h))
theorem tw_vd_fv {c0 n j : Nat} (hsh : tw_sh g) (h : (c0, n) ∈ tw_vs g) (hc : c0 < 7) (hj : j < tw_nf c0) : tw_vd g (tw_fv μ c0 n j) := by
  unfold tw_fv
  split
  · exact True.intro
  · rename_i h2
    exact tw_vd_of (hsh.1 _ h hc j hj h2)
  · exact True.intro
theorem tw_ent_o {c0 n : Nat} (hc : c0 < 7) : tw_ent g μ c0 n = .inr (c0, (List.range (tw_nf c0)).map (fun j => tw_rv g (tw_fv μ c0 n j))) := by
  unfold tw_ent
  rw [if_pos hc]
theorem tw_ia_of {k : Nat} (h : tw_ia k = true) : ¬ k < 7 ∧ k ≠ 21 ∧ k ≠ 22 ∧ k ≠ 38 ∧ k ≠ 8 ∧ k ≠ 9 ∧ k ≠ 98 := by
  unfold tw_ia at h
  simp only [Bool.or_eq_true, Bool.and_eq_true, Nat.ble_eq] at h
  omega
theorem tw_ent_i {k n : Nat} (h : tw_ia k = true) : tw_ent g μ k n = .inl (tw_cy g 0, (tw_al k, .inl (fun j => tw_gi μ k n j))) := by
  obtain ⟨h1, h2, h3, h4, -⟩ := tw_ia_of h
  unfold tw_ent
  rw [if_neg h1, if_neg h2, if_neg h3, if_neg h4]
theorem tw_ent_s {n : Nat} : tw_ent g μ 21 n = .inl (tw_cy g 3, (8, .inr (.inr (.inr (.inr (fun j => some (tw_ad g 2 (8 * n + j)))))))) := rfl
theorem tw_ent_e {n : Nat} : tw_ent g μ 22 n = .inl (tw_cy g 2, (4, .inr (.inr (.inr (.inr (fun j => some (tw_ad g 1 (4 * n + j)))))))) := rfl
theorem tw_ent_z {n : Nat} : tw_ent g μ 38 n = .inl (tw_cy g 1, (2, .inl (fun j => tw_gi μ 38 n j))) := rfl
theorem tw_cl_bg {i : Nat} {w : Cond} (h : w ∈ tw_big) : w ∈ tw_wm i := List.mem_cons_of_mem _ h
theorem tw_o54 {a c0 j : Nat} (hc : c0 < 7) (hj : j < tw_nf c0) (hw : Cond.fieldLink (tw_nm i).cls a (tw_cl c0).1 ((tw_cl c0).2.1 j).2.1 ((tw_cl c0).2.1 j).2.2.1 ∈ tw_big) (C : tw_Cx g p s m args meth c i) (hd : decode (tw_by i) pc = .ok (.getfield a, 3)) (hx : tw_gf c0 j (pc + 3) L st μ = some (Sum.inl (q, L', st', μ'))) (k : tw_Kp g p l e s m args below meth c i Qf q L' st' μ') : tw_Kp g p l e s m args below meth c i Qf pc L st μ := by
  have C0 := C
  obtain ⟨hx1, hb, hml, -, -, hown, hts, hF, hsh, hap⟩ := C
  unfold tw_gf at hx
  split at hx
  · rename_i k0 n r
    split at hx
    · rename_i hkc
      have hkc := tw_nb hkc
      subst hkc
      cases hx
      intro ok hl H locs ls hP hS hL
      have hin : (k0, n) ∈ tw_vs g := tw_vd_in (tw_ok_hd ok) (by omega) (by omega) (by omega)
      obtain ⟨ix, -, hix⟩ := tw_ws_at (μ := μ) hin
      rw [tw_ent_o hc] at hix
      rw [List.map_cons, tw_rv_in hsh hin]
      have hN := tw_cl_n hc
      exact va_get (C := (tw_cl k0).1) (T := (tw_cl k0).2.1) (N := (tw_cl k0).2.2) (ref := (tw_cl k0).1) (v := tw_rv g (tw_fv μ k0 n j)) hx1 hb hts (fun w h => tw_cl_bg (tw_cl_w hc w h)) hown hF.1 hP ix hix (tw_cl_at hc) j (by rw [hN]; exact hj) (tw_hi hts hw) (fun x h => by rw [tw_cl_own hc hj] at h; exact h) (by simp [hj]) hd (k (tw_ok_cons (tw_vd_fv hsh hin hc hj) (tw_ok_tl ok)) hl H locs ls hP hS hL)
    · cases hx
  · cases hx

theorem tw_put {a k0 n j : Nat} {x : Value} {ty : FieldType} {r : List tw_V} (hc : k0 < 7) (hj : j < tw_nf k0) (hw : Cond.fieldLink (tw_nm i).cls a (tw_cl k0).1 ((tw_cl k0).2.1 j).2.1 ((tw_cl k0).2.1 j).2.2.1 ∈ tw_big) (hfk : tw_fk k0 j ≠ 2) (hty : tw_tyf k0 j = ty) (hn : narrow ty x = x) (hfit : fits ty x = true) (hset : tw_rv g (tw_fv μ' k0 n j) = x) (ho : ∀ y, y ∈ tw_vs g → y ≠ (k0, n) → tw_ent g μ' y.1 y.2 = tw_ent g μ y.1 y.2) (ho2 : ∀ j', j' ≠ j → tw_fv μ' k0 n j' = tw_fv μ k0 n j') (hin : (k0, n) ∈ tw_vs g)
    (C : tw_Cx g p s m args meth c i) (hd : decode (tw_by i) pc = .ok (.putfield a, 3)) (ok : tw_ok g L r) (hl : L.length = tw_ml i) (k : tw_Kp g p l e s m args below meth c i Qf (pc + 3) L r μ') : ∀ (H : Heap) (locs : List Loc) (ls : Array Slot), va_P (tw_D g) vwCl (tw_ws g μ) H → va_S (tw_A g) s.heap H locs → tw_LR g L ls → W p l e (tw_rm i) s m args below meth c H locs 0 0 Qf (F0 m pc ls (x :: .ref (tw_ad g k0 n) :: r.map (tw_rv g))) := by
  intro H locs ls hP hS hL
  obtain ⟨hx1, hb, hml, -, -, hown, hts, hF, hsh, hap⟩ := C
  obtain ⟨ix, hvx, hix⟩ := tw_ws_at (μ := μ) hin
  have hent := tw_ent_o (g := g) (μ := μ) (n := n) hc
  have hent' := tw_ent_o (g := g) (μ := μ') (n := n) hc
  rw [hent] at hix
  have hN := tw_cl_n hc
  have hfr : ((tw_cl k0).2.1 j).2.2.2 = false := by
    rcases (tw_cl_free hc hj).1 with z | z
    · exact absurd z hfk
    · exact z
  refine va_put (C := (tw_cl k0).1) (T := (tw_cl k0).2.1) (N := (tw_cl k0).2.2) (ref := (tw_cl k0).1) (v := x) (ty := ty) hx1 hb hts (fun w h => tw_cl_bg (tw_cl_w hc w h)) (tw_tyf k0) (tw_cl_ty hc) (tw_cl_nm hc) hown hF.1 hP (tw_ws_D hap μ) hS ix hix (tw_cl_at hc) j (by rw [hN]; exact hj) (tw_hi hts hw) (fun x h => by rw [tw_cl_own hc hj] at h; exact h) hfr (by rw [tw_cl_ty hc j (by rw [hN]; exact hj), hty]) hn hfit (by simp [hj]) hd (fun H1 locs1 hP1 hD1 hS1 => ?_)
  have hm := tw_map_set (fun j => tw_rv g (tw_fv μ k0 n j)) (fun j => tw_rv g (tw_fv μ' k0 n j)) (tw_nf k0) j (fun j' hj' => by rw [ho2 j' hj'])
  rw [hset] at hm
  rw [hm, ← hent', tw_ws_set hap hvx ho] at hP1
  exact k ok hl H1 locs1 ls hP1 hS1 hL
theorem tw_ent_sl {μ : tw_M} {k0 : Nat} {v : Int64} (x : Nat × Nat) (h : x.1 ≠ k0) : tw_ent g (tw_sl μ k0 v) x.1 x.2 = tw_ent g μ x.1 x.2 := by
  have e2 : ∀ j', tw_fv (tw_sl μ k0 v) x.1 x.2 j' = tw_fv μ x.1 x.2 j' := by
    intro j'
    unfold tw_fv
    rw [tw_gi_sl, tw_gl_sl, if_neg h]
  unfold tw_ent
  simp only [e2, tw_gi_sl]
theorem tw_fk1 {c0 j : Nat} (h : tw_fk c0 j = 1) : (c0 = 5 ∧ j = 6) ∨ (c0 = 6 ∧ j = 1) := by
  have h7 : ∀ c, c < 7 → ∀ j, j < 25 → tw_fk c j = 1 → (c = 5 ∧ j = 6) ∨ (c = 6 ∧ j = 1) := by decide +kernel
  by_cases hc : c0 < 7
  · by_cases hj : j < 25
    · exact h7 c0 hc j hj h
    · exfalso
      have hz : tw_fk c0 j = 0 := by
        have hl : ∀ c, c < 7 → (tw_fkT.getD c []).length ≤ 25 := by decide +kernel
        have := hl c0 hc
        unfold tw_fk
        rw [List.getD_eq_getElem?_getD, List.getElem?_eq_none (by omega)]
        rfl
      rw [hz] at h; cases h
  · exfalso
    have hz : tw_fk c0 j = 0 := by
      unfold tw_fk
      rw [List.getD_eq_getElem?_getD (l := tw_fkT), List.getElem?_eq_none (by have : tw_fkT.length = 7 := rfl; omega)]
      rfl
    rw [hz] at h; cases h
theorem tw_o55 {a c0 j : Nat} (hc : c0 < 7) (hj : j < tw_nf c0) (hw : Cond.fieldLink (tw_nm i).cls a (tw_cl c0).1 ((tw_cl c0).2.1 j).2.1 ((tw_cl c0).2.1 j).2.2.1 ∈ tw_big) (C : tw_Cx g p s m args meth c i) (hd : decode (tw_by i) pc = .ok (.putfield a, 3)) (hx : tw_pf c0 j (pc + 3) L st μ = some (Sum.inl (q, L', st', μ'))) (k : tw_Kp g p l e s m args below meth c i Qf q L' st' μ') : tw_Kp g p l e s m args below meth c i Qf pc L st μ := by
  have C0 := C
  obtain ⟨hx1, hb, hml, -, -, hown, hts, hF, hsh, hap⟩ := C
  unfold tw_pf at hx
  split at hx
  · rename_i x k0 n r
    split at hx
    · rename_i hkc h0
      have hkc := tw_nb hkc
      subst hkc
      cases hx
      intro ok hl H locs ls hP hS hL
      have hin : (k0, n) ∈ tw_vs g := tw_vd_in (tw_ok_hd (tw_ok_tl ok)) (by omega) (by omega) (by omega)
      rw [List.map_cons, List.map_cons, tw_rv_in hsh hin]
      refine tw_put (x := .int x) (ty := .int) hc hj hw (by rw [h0]; decide) ((tw_cl_free hc hj).2.1 h0) rfl rfl ?_ (fun y _ hy => tw_ent_si y hy) ?_ hin C0 hd (tw_ok_tl (tw_ok_tl ok)) hl k H locs ls hP hS hL
      · simp only [tw_fv, h0, tw_gi_si]
        simp [tw_rv]
      · intro j' hj'
        simp only [tw_fv, tw_gi_si, tw_gl_si]
        simp [hj']
    · rename_i hkc h0
      have hkc := tw_nb hkc
      subst hkc
      split at hx
      · rename_i h01
        cases hx
        intro ok hl H locs ls hP hS hL
        have hin : (k0, n) ∈ tw_vs g := tw_vd_in (tw_ok_hd (tw_ok_tl ok)) (by omega) (by omega) (by omega)
        rw [List.map_cons, List.map_cons, tw_rv_in hsh hin]
        refine tw_put (x := .int x) (ty := .boolean) hc hj hw (by rw [h0]; decide) ((tw_cl_free hc hj).2.2.2 h0) (by rcases h01 with z | z <;> rw [z] <;> rfl) (by rcases h01 with z | z <;> rw [z] <;> rfl) ?_ (fun y _ hy => tw_ent_si y hy) ?_ hin C0 hd (tw_ok_tl (tw_ok_tl ok)) hl k H locs ls hP hS hL
        · simp only [tw_fv, h0, tw_gi_si]
          simp [tw_rv]
        · intro j' hj'
          simp only [tw_fv, tw_gi_si, tw_gl_si]
          simp [hj']
      · cases hx
    · cases hx
  · rename_i x k0 n r
    split at hx
    · rename_i hkc h0
      have hkc := tw_nb hkc
      subst hkc
      cases hx
      intro ok hl H locs ls hP hS hL
      have hin : (k0, n) ∈ tw_vs g := tw_vd_in (tw_ok_hd (tw_ok_tl ok)) (by omega) (by omega) (by omega)
      have h56 : k0 = 5 ∨ k0 = 6 := by rcases tw_fk1 h0 with z | z <;> omega
      have hone : ∀ y, y ∈ tw_vs g → y ≠ (k0, n) → y.1 ≠ k0 := by
        intro y hy hne z
        have e1 := hsh.2.2.2.2 y hy (by rw [z]; exact h56)
        have e2 := hsh.2.2.2.2 _ hin h56
        exact hne (Prod.ext z (e1.trans e2.symm))
      rw [List.map_cons, List.map_cons, tw_rv_in hsh hin]
      refine tw_put (x := .long x) (ty := .long) hc hj hw (by rw [h0]; decide) ((tw_cl_free hc hj).2.2.1 h0) rfl rfl ?_ (fun y hm hy => tw_ent_sl y (hone y hm hy)) ?_ hin C0 hd (tw_ok_tl (tw_ok_tl ok)) hl k H locs ls hP hS hL
      · simp only [tw_fv, h0, tw_gl_sl]
        simp [tw_rv]
      · intro j' hj'
        have h1 : tw_fk k0 j' ≠ 1 := by
          intro z
          rcases tw_fk1 z with z1 | z1 <;> rcases tw_fk1 h0 with z2 | z2 <;> omega
        unfold tw_fv
        split
        · rename_i z; exact absurd z h1
        · rfl
        · rfl
    · cases hx
  · cases hx

theorem tw_o56 (C : tw_Cx g p s m args meth c i) (hd : decode (tw_by i) pc = .ok (.iaload, 1)) (hx : tw_il (pc + 1) L st μ = some (Sum.inl (q, L', st', μ'))) (k : tw_Kp g p l e s m args below meth c i Qf q L' st' μ') : tw_Kp g p l e s m args below meth c i Qf pc L st μ := by
  have C0 := C
  obtain ⟨hx1, hb, hml, -, -, hown, hts, hF, hsh, hap⟩ := C
  unfold tw_il at hx
  split at hx
  · rename_i a k0 n r
    split at hx
    · rename_i hia
      split at hx
      · rename_i hin2
        cases hx
        intro ok hl H locs ls hP hS hL
        have hin : (k0, n) ∈ tw_vs g := tw_vd_in (tw_ok_hd (tw_ok_tl ok)) (tw_ia_of hia).2.2.2.2.1 (tw_ia_of hia).2.2.2.2.2.1 (tw_ia_of hia).2.2.2.2.2.2
        obtain ⟨ix, -, hix⟩ := tw_ws_at (μ := μ) hin
        rw [tw_ent_i hia] at hix
        rw [List.map_cons, List.map_cons, tw_rv_in hsh hin]
        exact va_iald hx1 hb hF.1 hP ix 0 hix rfl hin2 hd (k (tw_ok_cI (tw_ok_tl (tw_ok_tl ok))) hl H locs ls hP hS hL)
      · cases hx
    · cases hx
  · cases hx

theorem tw_o57 (C : tw_Cx g p s m args meth c i) (hd : decode (tw_by i) pc = .ok (.iastore, 1)) (hx : tw_is (pc + 1) L st μ = some (Sum.inl (q, L', st', μ'))) (k : tw_Kp g p l e s m args below meth c i Qf q L' st' μ') : tw_Kp g p l e s m args below meth c i Qf pc L st μ := by
  have C0 := C
  obtain ⟨hx1, hb, hml, -, -, hown, hts, hF, hsh, hap⟩ := C
  unfold tw_is at hx
  split at hx
  · rename_i x a k0 n r
    split at hx
    · rename_i hia
      split at hx
      · rename_i hin2
        cases hx
        intro ok hl H locs ls hP hS hL
        have hin : (k0, n) ∈ tw_vs g := tw_vd_in (tw_ok_hd (tw_ok_tl (tw_ok_tl ok))) (tw_ia_of hia).2.2.2.2.1 (tw_ia_of hia).2.2.2.2.2.1 (tw_ia_of hia).2.2.2.2.2.2
        obtain ⟨ix, hvx, hix⟩ := tw_ws_at (μ := μ) hin
        rw [tw_ent_i hia] at hix
        rw [List.map_cons, List.map_cons, List.map_cons, tw_rv_in hsh hin]
        refine va_iast hx1 hb hF.1 hP (tw_ws_D hap μ) hS ix 0 hix rfl hin2 hd (fun H1 locs1 hP1 hD1 hS1 => ?_)
        have he : (va_E → Prop) := fun _ => True
        have e1 : (.inl (tw_cy g 0, (tw_al k0, .inl (upd (fun j => tw_gi μ k0 n j) a.toNatClampNeg x))) : va_E) = tw_ent g (tw_si μ k0 n a.toNatClampNeg x) k0 n := by
          rw [tw_ent_i hia]
          congr 4
          funext j
          simp [upd, tw_gi_si]
        rw [e1, tw_ws_set hap hvx (fun y _ hy => tw_ent_si y hy)] at hP1
        exact k (tw_ok_tl (tw_ok_tl (tw_ok_tl ok))) hl H1 locs1 ls hP1 hS1 hL
      · cases hx
    · cases hx
  · cases hx

theorem tw_o58 (C : tw_Cx g p s m args meth c i) (hd : decode (tw_by i) pc = .ok (.baload, 1)) (hx : tw_zl (pc + 1) L st μ = some (Sum.inl (q, L', st', μ'))) (k : tw_Kp g p l e s m args below meth c i Qf q L' st' μ') : tw_Kp g p l e s m args below meth c i Qf pc L st μ := by
  have C0 := C
  obtain ⟨hx1, hb, hml, -, -, hown, hts, hF, hsh, hap⟩ := C
  unfold tw_zl at hx
  split at hx
  · rename_i a k0 n r
    split at hx
    · rename_i hia
      have hia := tw_nb hia
      subst hia
      split at hx
      · rename_i hin2
        cases hx
        intro ok hl H locs ls hP hS hL
        have hin : (38, n) ∈ tw_vs g := tw_vd_in (tw_ok_hd (tw_ok_tl ok)) (by decide) (by decide) (by decide)
        obtain ⟨ix, -, hix⟩ := tw_ws_at (μ := μ) hin
        rw [tw_ent_z] at hix
        rw [List.map_cons, List.map_cons, tw_rv_in hsh hin]
        exact va_zald hx1 hb hF.1 hP ix 1 hix rfl hin2 hd (k (tw_ok_cI (tw_ok_tl (tw_ok_tl ok))) hl H locs ls hP hS hL)
      · cases hx
    · cases hx
  · cases hx

theorem tw_o59 (C : tw_Cx g p s m args meth c i) (hd : decode (tw_by i) pc = .ok (.bastore, 1)) (hx : tw_zs (pc + 1) L st μ = some (Sum.inl (q, L', st', μ'))) (k : tw_Kp g p l e s m args below meth c i Qf q L' st' μ') : tw_Kp g p l e s m args below meth c i Qf pc L st μ := by
  have C0 := C
  obtain ⟨hx1, hb, hml, -, -, hown, hts, hF, hsh, hap⟩ := C
  unfold tw_zs at hx
  split at hx
  · rename_i x a k0 n r
    split at hx
    · rename_i hia
      have hia := tw_nb hia
      subst hia
      split at hx
      · rename_i hin2
        cases hx
        intro ok hl H locs ls hP hS hL
        have hin : (38, n) ∈ tw_vs g := tw_vd_in (tw_ok_hd (tw_ok_tl (tw_ok_tl ok))) (by decide) (by decide) (by decide)
        obtain ⟨ix, hvx, hix⟩ := tw_ws_at (μ := μ) hin
        rw [tw_ent_z] at hix
        rw [List.map_cons, List.map_cons, List.map_cons, tw_rv_in hsh hin]
        refine va_zast hx1 hb hF.1 hP (tw_ws_D hap μ) hS ix 1 hix rfl hin2.2 hd (fun H1 locs1 hP1 hD1 hS1 => ?_)
        have e0 : vp_nar .boolean x = x := by rcases hin2.1 with z | z <;> rw [z] <;> rfl
        rw [e0] at hP1
        have e1 : (.inl (tw_cy g 1, (2, .inl (upd (fun j => tw_gi μ 38 n j) a.toNatClampNeg x))) : va_E) = tw_ent g (tw_si μ 38 n a.toNatClampNeg x) 38 n := by
          rw [tw_ent_z]
          congr 4
          funext j
          simp [upd, tw_gi_si]
        rw [e1, tw_ws_set hap hvx (fun y _ hy => tw_ent_si y hy)] at hP1
        exact k (tw_ok_tl (tw_ok_tl (tw_ok_tl ok))) hl H1 locs1 ls hP1 hS1 hL
      · cases hx
    · cases hx
  · cases hx

theorem tw_o60 (C : tw_Cx g p s m args meth c i) (hd : decode (tw_by i) pc = .ok (.aaload, 1)) (hx : tw_ql2 (pc + 1) L st μ = some (Sum.inl (q, L', st', μ'))) (k : tw_Kp g p l e s m args below meth c i Qf q L' st' μ') : tw_Kp g p l e s m args below meth c i Qf pc L st μ := by
  have C0 := C
  obtain ⟨hx1, hb, hml, -, -, hown, hts, hF, hsh, hap⟩ := C
  unfold tw_ql2 at hx
  split at hx
  · rename_i a k0 n r
    split at hx
    · rename_i hia
      have hia := tw_nb hia
      subst hia
      split at hx
      · rename_i hin2
        cases hx
        intro ok hl H locs ls hP hS hL
        have hin : (21, n) ∈ tw_vs g := tw_vd_in (tw_ok_hd (tw_ok_tl ok)) (by decide) (by decide) (by decide)
        obtain ⟨ix, -, hix⟩ := tw_ws_at (μ := μ) hin
        rw [tw_ent_s] at hix
        have hlt : a.toNatClampNeg < 8 := Nat.not_le.mp fun q => hin2 (Or.inr q)
        have hin3 := hsh.2.1 n hin _ hlt
        have k2 := k (tw_ok_cons (tw_vd_of hin3) (tw_ok_tl (tw_ok_tl ok))) hl H locs ls hP hS hL
        rw [List.map_cons, List.map_cons, tw_rv_in hsh hin]
        rw [List.map_cons, tw_rv_in hsh hin3] at k2
        exact va_aldq hx1 hb hF.1 hP ix 3 hix rfl hin2 hd k2
      · cases hx
    · rename_i hia hno
      have hia := tw_nb hia
      subst hia
      split at hx
      · rename_i hin2
        cases hx
        intro ok hl H locs ls hP hS hL
        have hin : (22, n) ∈ tw_vs g := tw_vd_in (tw_ok_hd (tw_ok_tl ok)) (by decide) (by decide) (by decide)
        obtain ⟨ix, -, hix⟩ := tw_ws_at (μ := μ) hin
        rw [tw_ent_e] at hix
        have hlt : a.toNatClampNeg < 4 := Nat.not_le.mp fun q => hin2 (Or.inr q)
        have hin3 := hsh.2.2.1 n hin _ hlt
        have k2 := k (tw_ok_cons (tw_vd_of hin3) (tw_ok_tl (tw_ok_tl ok))) hl H locs ls hP hS hL
        rw [List.map_cons, List.map_cons, tw_rv_in hsh hin]
        rw [List.map_cons, tw_rv_in hsh hin3] at k2
        exact va_aldq hx1 hb hF.1 hP ix 2 hix rfl hin2 hd k2
      · cases hx
    · cases hx
  · cases hx

theorem tw_o61 (C : tw_Cx g p s m args meth c i) (hd : decode (tw_by i) pc = .ok (.arraylength, 1)) (hx : tw_an (pc + 1) L st μ = some (Sum.inl (q, L', st', μ'))) (k : tw_Kp g p l e s m args below meth c i Qf q L' st' μ') : tw_Kp g p l e s m args below meth c i Qf pc L st μ := by
  have C0 := C
  obtain ⟨hx1, hb, hml, -, -, hown, hts, hF, hsh, hap⟩ := C
  unfold tw_an at hx
  split at hx
  · rename_i k0 n r
    split at hx
    · rename_i hia
      cases hx
      intro ok hl H locs ls hP hS hL
      have hin : (k0, n) ∈ tw_vs g := tw_vd_in (tw_ok_hd ok) (tw_ia_of hia).2.2.2.2.1 (tw_ia_of hia).2.2.2.2.2.1 (tw_ia_of hia).2.2.2.2.2.2
      obtain ⟨ix, -, hix⟩ := tw_ws_at (μ := μ) hin
      rw [tw_ent_i hia] at hix
      rw [List.map_cons, tw_rv_in hsh hin]
      exact va_alen hx1 hb hF.1 hP ix 0 hix rfl rfl hd (k (tw_ok_cI (tw_ok_tl ok)) hl H locs ls hP hS hL)
    · rename_i hia hno
      have hia := tw_nb hia
      subst hia
      cases hx
      intro ok hl H locs ls hP hS hL
      have hin : (21, n) ∈ tw_vs g := tw_vd_in (tw_ok_hd ok) (by decide) (by decide) (by decide)
      obtain ⟨ix, -, hix⟩ := tw_ws_at (μ := μ) hin
      rw [tw_ent_s] at hix
      rw [List.map_cons, tw_rv_in hsh hin]
      exact va_alen hx1 hb hF.1 hP ix 3 hix rfl rfl hd (k (tw_ok_cI (tw_ok_tl ok)) hl H locs ls hP hS hL)
    · rename_i hia hno1 hno2
      have hia := tw_nb hia
      subst hia
      cases hx
      intro ok hl H locs ls hP hS hL
      have hin : (22, n) ∈ tw_vs g := tw_vd_in (tw_ok_hd ok) (by decide) (by decide) (by decide)
      obtain ⟨ix, -, hix⟩ := tw_ws_at (μ := μ) hin
      rw [tw_ent_e] at hix
      rw [List.map_cons, tw_rv_in hsh hin]
      exact va_alen hx1 hb hF.1 hP ix 2 hix rfl rfl hd (k (tw_ok_cI (tw_ok_tl ok)) hl H locs ls hP hS hL)
    · cases hx
  · cases hx

theorem tw_o62_0 {a : Nat} (hw : Cond.fieldLink (tw_nm i).cls a "java/lang/String" "COMPACT_STRINGS" "Z" ∈ tw_big) (C : tw_Cx g p s m args meth c i) (hd : decode (tw_by i) pc = .ok (.getstatic a, 3)) (hx : tw_gs 0 (pc + 3) L st μ = some (Sum.inl (q, L', st', μ'))) (k : tw_Kp g p l e s m args below meth c i Qf q L' st' μ') : tw_Kp g p l e s m args below meth c i Qf pc L st μ := by
  have C0 := C
  obtain ⟨hx1, hb, hml, -, -, hown, hts, hF, hsh, hap⟩ := C
  cases hx
  intro ok hl H locs ls hP hS hL
  exact va_gets hx1 hb hF.2.2.1 hS hown (tw_hi hts hw) (fun x h => h) hd (k (tw_ok_cI ok) hl H locs ls hP hS hL)

theorem tw_o62_1 {a : Nat} (hw : Cond.fieldLink (tw_nm i).cls a "jdk/internal/util/Preconditions" "SIOOBE_FORMATTER" "Ljava/util/function/BiFunction;" ∈ tw_big) (C : tw_Cx g p s m args meth c i) (hd : decode (tw_by i) pc = .ok (.getstatic a, 3)) (hx : tw_gs 1 (pc + 3) L st μ = some (Sum.inl (q, L', st', μ'))) (k : tw_Kp g p l e s m args below meth c i Qf q L' st' μ') : tw_Kp g p l e s m args below meth c i Qf pc L st μ := by
  have C0 := C
  obtain ⟨hx1, hb, hml, -, -, hown, hts, hF, hsh, hap⟩ := C
  cases hx
  intro ok hl H locs ls hP hS hL
  exact va_gets hx1 hb hF.2.2.2.1 hS hown (tw_hi hts hw) (fun x h => h) hd (k (tw_ok_cons (v := tw_R 98 0) (Or.inr (Or.inr (Or.inl rfl))) ok) hl H locs ls hP hS hL)

theorem tw_o63 {a t : Nat} (hn : (tw_nm i).cls = "ThawWords$Text") (ht : t < 6) (ha : (tw_stT.getD t (0, "")).1 = a) (C : tw_Cx g p s m args meth c i) (hd : decode (tw_by i) pc = .ok (.ldc a, 2)) (hx : tw_nx (pc + 2) L (tw_R 8 t :: st) μ = some (Sum.inl (q, L', st', μ'))) (k : tw_Kp g p l e s m args below meth c i Qf q L' st' μ') : tw_Kp g p l e s m args below meth c i Qf pc L st μ := by
  have C0 := C
  obtain ⟨hx1, hb, hml, -, -, hown, hts, hF, hsh, hap⟩ := C
  cases hx
  intro ok hl H locs ls hP hS hL
  have h6 := hF.2.2.2.2.2.1 t ht
  rw [ha, ← hn] at h6
  exact va_ldcS hx1 hb hown h6 hd (k (tw_ok_cons (v := tw_R 8 t) (Or.inl ⟨rfl, ht⟩) ok) hl H locs ls hP hS hL)

theorem tw_vd_8 {n : Nat} (hsh : tw_sh g) (h : tw_vd g (tw_R 8 n)) : n < 6 := by
  rcases h with z | z | z | z
  · exact z.2
  · cases z.1
  · cases z
  · exact absurd rfl (tw_kind hsh z).1
theorem tw_vd_9 {n : Nat} (hsh : tw_sh g) (h : tw_vd g (tw_R 9 n)) : n < 6 := by
  rcases h with z | z | z | z
  · cases z.1
  · exact z.2
  · cases z
  · exact absurd rfl (tw_kind hsh z).2.1
theorem tw_o70 {a : Nat} (hw : Cond.fieldLink (tw_nm i).cls a "java/lang/String" "value" "[B" ∈ tw_big) (C : tw_Cx g p s m args meth c i) (hd : decode (tw_by i) pc = .ok (.getfield a, 3)) (hx : tw_sv (pc + 3) L st μ = some (Sum.inl (q, L', st', μ'))) (k : tw_Kp g p l e s m args below meth c i Qf q L' st' μ') : tw_Kp g p l e s m args below meth c i Qf pc L st μ := by
  have C0 := C
  obtain ⟨hx1, hb, hml, -, -, hown, hts, hF, hsh, hap⟩ := C
  unfold tw_sv at hx
  split at hx
  · rename_i k0 n r
    split at hx
    · rename_i hia
      have hia := tw_nb hia
      subst hia
      cases hx
      intro ok hl H locs ls hP hS hL
      have h6 := tw_vd_8 hsh (tw_ok_hd ok)
      exact vk_getf hx1 hb (hF.2.1.1 n h6).2.2.1 hS hown (tw_hi hts hw) (fun x h => h) hd (k (tw_ok_cons (v := tw_R 9 n) (Or.inr (Or.inl ⟨rfl, h6⟩)) (tw_ok_tl ok)) hl H locs ls hP hS hL)
    · cases hx
  · cases hx

theorem tw_o71 {a : Nat} (hw : Cond.fieldLink (tw_nm i).cls a "java/lang/String" "coder" "B" ∈ tw_big) (C : tw_Cx g p s m args meth c i) (hd : decode (tw_by i) pc = .ok (.getfield a, 3)) (hx : tw_sc (pc + 3) L st μ = some (Sum.inl (q, L', st', μ'))) (k : tw_Kp g p l e s m args below meth c i Qf q L' st' μ') : tw_Kp g p l e s m args below meth c i Qf pc L st μ := by
  have C0 := C
  obtain ⟨hx1, hb, hml, -, -, hown, hts, hF, hsh, hap⟩ := C
  unfold tw_sc at hx
  split at hx
  · rename_i k0 n r
    split at hx
    · rename_i hia
      have hia := tw_nb hia
      subst hia
      cases hx
      intro ok hl H locs ls hP hS hL
      have h6 := tw_vd_8 hsh (tw_ok_hd ok)
      exact vk_getf hx1 hb (hF.2.1.1 n h6).2.1 hS hown (tw_hi hts hw) (fun x h => h) hd (k (tw_ok_cI (tw_ok_tl ok)) hl H locs ls hP hS hL)
    · cases hx
  · cases hx

theorem tw_o72 (C : tw_Cx g p s m args meth c i) (hd : decode (tw_by i) pc = .ok (.baload, 1)) (hx : tw_bl (pc + 1) L st μ = some (Sum.inl (q, L', st', μ'))) (k : tw_Kp g p l e s m args below meth c i Qf q L' st' μ') : tw_Kp g p l e s m args below meth c i Qf pc L st μ := by
  have C0 := C
  obtain ⟨hx1, hb, hml, -, -, hown, hts, hF, hsh, hap⟩ := C
  unfold tw_bl at hx
  split at hx
  · rename_i a k0 n r
    split at hx
    · rename_i hia
      have hia := tw_nb hia
      subst hia
      split at hx
      · rename_i hin2
        cases hx
        intro ok hl H locs ls hP hS hL
        have h6 := tw_vd_9 hsh (tw_ok_hd (tw_ok_tl ok))
        exact va_tb hx1 hb (hF.2.1.1 n h6).2.2.2 hS hin2 rfl hd (k (tw_ok_cI (tw_ok_tl (tw_ok_tl ok))) hl H locs ls hP hS hL)
      · cases hx
    · cases hx
  · cases hx

theorem tw_o73 (C : tw_Cx g p s m args meth c i) (hd : decode (tw_by i) pc = .ok (.arraylength, 1)) (hx : tw_bn2 (pc + 1) L st μ = some (Sum.inl (q, L', st', μ'))) (k : tw_Kp g p l e s m args below meth c i Qf q L' st' μ') : tw_Kp g p l e s m args below meth c i Qf pc L st μ := by
  have C0 := C
  obtain ⟨hx1, hb, hml, -, -, hown, hts, hF, hsh, hap⟩ := C
  unfold tw_bn2 at hx
  split at hx
  · rename_i k0 n r
    split at hx
    · rename_i hia
      have hia := tw_nb hia
      subst hia
      cases hx
      intro ok hl H locs ls hP hS hL
      have h6 := tw_vd_9 hsh (tw_ok_hd ok)
      exact va_tlen hx1 hb (hF.2.1.1 n h6).2.2.2 hS rfl hd (k (tw_ok_cI (tw_ok_tl ok)) hl H locs ls hP hS hL)
    · cases hx
  · cases hx

theorem tw_cats {s : State} {H : Heap} (hF : tw_F g s H) (r : List tw_V) : ((r.map (tw_rv g)).map fun v => v.category).sum = (r.map tw_ca).sum := by
  rw [List.map_map]
  congr 1
  apply List.map_congr_left
  intro v _
  exact tw_rv_cat hF v
theorem tw_o76 {a : Nat} (hw1 : Cond.methodLink (tw_nm i).cls a Lib.Math.max.name ∈ tw_big) (hw2 : Cond.static Lib.Math.max.name ∈ tw_big) (hw3 : Cond.initialized "java/lang/Math" ∈ tw_big) (hw4 : Cond.code Lib.Math.max.name Lib.Math.max.code 2 (some .int) ∈ tw_big) (hr1 : 1 ≤ tw_fr i) (hr2 : 21 ≤ tw_lo i) (C : tw_Cx g p s m args meth c i) (hd : decode (tw_by i) pc = .ok (.invokestatic a, 3)) (hx : tw_mx (fun x y => if x < y then y else x) (pc + 3) L st μ = some (Sum.inl (q, L', st', μ'))) (k : tw_Kp g p l e s m args below meth c i Qf q L' st' μ') : tw_Kp g p l e s m args below meth c i Qf pc L st μ := by
  have C0 := C
  obtain ⟨hx1, hb, hml, -, -, hown, hts, hF, hsh, hap⟩ := C
  unfold tw_mx at hx
  split at hx
  · rename_i y x r
    split at hx
    · rename_i h8
      cases hx
      intro ok hl H locs ls hP hS hL
      exact va_mmax hx1 hb (by rw [hml, hL.1, hl]) hown (tw_hi hts hw1) (tw_hi hts hw2) (tw_hi hts hw3) (tw_hi hts hw4) hr1 (by rw [tw_cats hF]; show _ ≤ tw_lo i; omega) (Nat.zero_le _) (Nat.zero_le _) hd (k (tw_ok_cI (tw_ok_tl (tw_ok_tl ok))) hl H locs ls hP hS hL)
    · cases hx
  · cases hx

theorem tw_o77 {a : Nat} (hw1 : Cond.methodLink (tw_nm i).cls a Lib.Math.min.name ∈ tw_big) (hw2 : Cond.static Lib.Math.min.name ∈ tw_big) (hw3 : Cond.initialized "java/lang/Math" ∈ tw_big) (hw4 : Cond.code Lib.Math.min.name Lib.Math.min.code 2 (some .int) ∈ tw_big) (hr1 : 1 ≤ tw_fr i) (hr2 : 21 ≤ tw_lo i) (C : tw_Cx g p s m args meth c i) (hd : decode (tw_by i) pc = .ok (.invokestatic a, 3)) (hx : tw_mx (fun x y => if y < x then y else x) (pc + 3) L st μ = some (Sum.inl (q, L', st', μ'))) (k : tw_Kp g p l e s m args below meth c i Qf q L' st' μ') : tw_Kp g p l e s m args below meth c i Qf pc L st μ := by
  have C0 := C
  obtain ⟨hx1, hb, hml, -, -, hown, hts, hF, hsh, hap⟩ := C
  unfold tw_mx at hx
  split at hx
  · rename_i y x r
    split at hx
    · rename_i h8
      cases hx
      intro ok hl H locs ls hP hS hL
      exact va_mmin hx1 hb (by rw [hml, hL.1, hl]) hown (tw_hi hts hw1) (tw_hi hts hw2) (tw_hi hts hw3) (tw_hi hts hw4) hr1 (by rw [tw_cats hF]; show _ ≤ tw_lo i; omega) (Nat.zero_le _) (Nat.zero_le _) hd (k (tw_ok_cI (tw_ok_tl (tw_ok_tl ok))) hl H locs ls hP hS hL)
    · cases hx
  · cases hx

theorem tw_o78 {a : Nat} (hw1 : Cond.methodLink (tw_nm i).cls a Lib.Math.abs.name ∈ tw_big) (hw2 : Cond.static Lib.Math.abs.name ∈ tw_big) (hw3 : Cond.initialized "java/lang/Math" ∈ tw_big) (hw4 : Cond.code Lib.Math.abs.name Lib.Math.abs.code 1 (some .int) ∈ tw_big) (hr1 : 1 ≤ tw_fr i) (hr2 : 21 ≤ tw_lo i) (C : tw_Cx g p s m args meth c i) (hd : decode (tw_by i) pc = .ok (.invokestatic a, 3)) (hx : tw_ma (pc + 3) L st μ = some (Sum.inl (q, L', st', μ'))) (k : tw_Kp g p l e s m args below meth c i Qf q L' st' μ') : tw_Kp g p l e s m args below meth c i Qf pc L st μ := by
  have C0 := C
  obtain ⟨hx1, hb, hml, -, -, hown, hts, hF, hsh, hap⟩ := C
  unfold tw_ma at hx
  split at hx
  · rename_i x r
    split at hx
    · rename_i h8
      cases hx
      intro ok hl H locs ls hP hS hL
      exact va_mabs hx1 hb (by rw [hml, hL.1, hl]) hown (tw_hi hts hw1) (tw_hi hts hw2) (tw_hi hts hw3) (tw_hi hts hw4) hr1 (by rw [tw_cats hF]; show _ ≤ tw_lo i; omega) (Nat.zero_le _) (Nat.zero_le _) hd (k (tw_ok_cI (tw_ok_tl ok)) hl H locs ls hP hS hL)
    · cases hx
  · cases hx

end
