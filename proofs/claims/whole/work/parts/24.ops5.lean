/-! hours; answers; who spoke; what lanterns -/
theorem tw_fh_iff {q : Nat → Prop} {u : Nat} (hu : u < 2 ^ 31) : ∀ (d t : Nat), t + d < 2 ^ 31 → (tw_fh q d t = nI u ↔ t ≤ u ∧ u < t + d ∧ q u ∧ ∀ v, t ≤ v → v < u → ¬ q v)
  | 0, t, _ => ⟨fun e => absurd e.symm (tn_neg9 u hu), fun ⟨h1, h2, _⟩ => absurd h1 (by omega)⟩
  | d + 1, t, h => by
    by_cases hq : q t
    · rw [tw_fh_t hq, nI_eq (by omega) hu]
      constructor
      · rintro rfl
        exact ⟨by omega, by omega, hq, fun v a b => absurd a (by omega)⟩
      · rintro ⟨a, b, c, e⟩
        by_cases z : t = u
        · exact z
        · exact absurd hq (e t (by omega) (by omega))
    · rw [tw_fh_f hq, tw_fh_iff hu d (t + 1) (by omega)]
      constructor
      · rintro ⟨a, b, c, e⟩
        refine ⟨by omega, by omega, c, fun v h1 h2 => ?_⟩
        by_cases z : v = t
        · rw [z]; exact hq
        · exact e v (by omega) h2
      · rintro ⟨a, b, c, e⟩
        have : t ≠ u := fun z => hq (z ▸ c)
        exact ⟨by omega, by omega, c, fun v h1 h2 => e v (by omega) h2⟩
/-- the bits of those below n that p tells -/
def tw_bb (p : Nat → Bool) : Nat → Int32
  | 0 => 0
  | n + 1 => tw_bb p n ||| (if p n = true then (1 : Int32) <<< (nI n &&& 31) else 0)
theorem tn_or0 (x : Int32) : x ||| (0 : Int32) = x := by simp
theorem tn_0or (x : Int32) : (0 : Int32) ||| x = x := by simp
theorem tn_oa (a b c : Int32) : a ||| b ||| c = a ||| (b ||| c) := by
  apply Int32.toBitVec_inj.mp
  simp only [Int32.toBitVec_or]
  exact BitVec.or_assoc _ _ _
theorem tn_oc (a b : Int32) : a ||| b = b ||| a := by
  apply Int32.toBitVec_inj.mp
  simp only [Int32.toBitVec_or]
  exact BitVec.or_comm _ _
theorem tw_bb_t {p : Nat → Bool} {n : Nat} : ∀ (d : Nat), (∀ k, n ≤ k → k < n + d → ¬ p k = true) → tw_bb p (n + d) = tw_bb p n
  | 0, _ => rfl
  | d + 1, h => by
    rw [← Nat.add_assoc, tw_bb, if_neg (h (n + d) (by omega) (by omega)), tn_or0]
    exact tw_bb_t d (fun k h1 h2 => h k h1 (by omega))
theorem tw_bb_m {p : Nat → Bool} {n m : Nat} (h : n ≤ m) (hp : ∀ k, n ≤ k → k < m → ¬ p k = true) : tw_bb p m = tw_bb p n := by
  obtain ⟨d, rfl⟩ : ∃ d, m = n + d := ⟨m - n, by omega⟩
  exact tw_bb_t d hp
theorem tw_bb_0 {p : Nat → Bool} {m : Nat} (hp : ∀ k, k < m → ¬ p k = true) : tw_bb p m = 0 := tw_bb_m (n := 0) (Nat.zero_le m) (fun k _ h => hp k h)
section
variable {μ ν : tw_M} {x y z : Int32} {s k p h j t w P H S N C : Nat}
theorem op_hours (R0 : tw_Rl μ ν) : tw_Jn 76 147 [tw_I x, tw_I y, tw_I z] μ ν := by
  obtain ⟨P, H, S, N, C, h, T, R, -⟩ := id R0
  have R' := R.th
  obtain ⟨c1, c2, c3, c4, e5, e6, e7, e8, f5, f6, f7, f8⟩ := rn_c R'
  obtain ⟨g1, g2, g3, g4, g5, g6, g7⟩ := rn_0 R'
  have hP : P < 2 ^ 31 := by omega
  have hS : S < 2 ^ 31 := by omega
  by_cases hx : tw_in x S
  · by_cases hy : tw_in y P
    · by_cases hz : tw_in z 100
      · have hxb := tw_ib_t hx
        have hyb := tw_ib_t hy
        have hzb := tw_ib_t hz
        obtain ⟨s, hs, rfl⟩ := tn_of_in hx hS
        obtain ⟨p, hp, rfl⟩ := tn_of_in hy hP
        obtain ⟨u, hu, rfl⟩ := tn_of_in hz (by omega)
        obtain ⟨b, hbd⟩ : ∃ b : Nat → Bool, b = fun k => decide (tw_fh (tw_ta μ H s p) (100 - (h + k)) (h + k) = nI u) := ⟨_, rfl⟩
        have hb : ∀ k, h + k ≤ 100 → (b k = true ↔ h + k ≤ u ∧ tw_ta μ H s p u ∧ ∀ v, h + k ≤ v → v < u → ¬ tw_ta μ H s p v) := by
          intro k hk
          rw [hbd]
          show decide _ = true ↔ _
          rw [decide_eq_true_iff, tw_fh_iff (by omega) _ _ (by omega)]
          constructor
          · rintro ⟨a1, a2, a3, a4⟩
            exact ⟨a1, a3, a4⟩
          · rintro ⟨a1, a3, a4⟩
            exact ⟨a1, by omega, a3, a4⟩
        obtain ⟨M, hM⟩ : ∃ M, M = min 24 (100 - h) := ⟨_, rfl⟩
        have thaw : ∀ t : Nat, t < 100 → tw_ta μ H s p t → tw_call 72 [tw_R 3 0, tw_R 0 0, tw_I (nI s), tw_I (nI p), tw_I (nI t)] μ = some (some (tw_I 1), μ) := by
          intro t ht hq
          rw [s_isThawing R' hs hp (by omega), if_pos hq]
        have frost : ∀ t : Nat, t < 100 → ¬ tw_ta μ H s p t → tw_call 72 [tw_R 3 0, tw_R 0 0, tw_I (nI s), tw_I (nI p), tw_I (nI t)] μ = some (some (tw_I 0), μ) := by
          intro t ht hq
          rw [s_isThawing R' hs hp (by omega), if_neg hq]
        have cl : ∀ (d t : Nat) (B : Int32) (o6 : Option tw_V), t = h + d → t ≤ u → (t < u → tw_ta μ H s p u) → (∀ v, t < v → v < u → ¬ tw_ta μ H s p v) → B ||| tw_bb b (min (d + 1) 24) = tw_bb b M → tw_run 76 37 [some (tw_R 5 0), some (tw_I (nI s)), some (tw_I (nI p)), some (tw_I (nI u)), some (tw_I B), some (tw_I (nI t)), o6] [] μ = some (some (tw_I (tw_bb b M)), μ) := by
          intro d
          induction d with
          | zero =>
            intro t B o6 ht htu h1 h2 hB
            have e1 : ¬ nI t < nI h := nI_nlt (by omega) (by omega)
            have stop : (∀ k, k < 1 → ¬ b k = true) → B = tw_bb b M := by
              intro q
              rw [show min (0 + 1) 24 = 1 from rfl, tw_bb_0 q, tn_or0] at hB
              exact hB
            have next : b 0 = true → ∀ o6, tw_run 76 85 [some (tw_R 5 0), some (tw_I (nI s)), some (tw_I (nI p)), some (tw_I (nI u)), some (tw_I B), some (tw_I (nI t)), o6] [] μ = some (some (tw_I (tw_bb b M)), μ) := by
              intro q o6
              rw [show min (0 + 1) 24 = 0 + 1 from rfl, tw_bb, if_pos q, show tw_bb b 0 = 0 from rfl, tn_0or] at hB
              have e4 : nI t - nI h = nI 0 := by rw [pk_sub (by omega), ht, Nat.add_zero, Nat.sub_self]
              have e6 : nI t + (-1) < nI h := by
                rw [Int32.lt_iff_toInt_lt, show nI t + (-1 : Int32) = nI t - 1 from (Int32.sub_eq_add_neg _ _).symm, tn_p1 (by omega), nI_toInt (by omega)]
                omega
              rw [tb_76_85, g4, e4, if_neg (show ¬ (24 : Int32) ≤ nI 0 by decide), tb_76_100, g4, e4, hB, tb_76_117, tb_76_37, g4, if_pos e6, tb_76_123]
            rw [tb_76_37, g4, if_neg e1, tb_76_49]
            by_cases e : t = u
            · subst e
              by_cases hq : tw_ta μ H s p t
              · rw [thaw t hu hq]
                simp only [Option.bind_some, Option.toList_some, Option.toList_none, List.cons_append, List.nil_append, List.append_nil, tb_76_64, if_pos, tb_76_74, tb_76_79]
                exact next ((hb 0 (by omega)).mpr ⟨by omega, hq, fun v v1 v2 => absurd v1 (by omega)⟩) _
              · rw [frost t hu hq]
                simp only [Option.bind_some, Option.toList_some, Option.toList_none, List.cons_append, List.nil_append, List.append_nil, tb_76_64, if_pos, tb_76_74, tb_76_79]
                rw [if_neg (by decide), tb_76_82, stop (fun k _ q => hq ((hb k (by omega)).mp q).2.1)]
            · have e9 : ¬ nI t = nI u := fun q => e ((nI_eq (by omega) (by omega)).mp q)
              by_cases hq : tw_ta μ H s p t
              · rw [thaw t (by omega) hq]
                simp only [Option.bind_some, Option.toList_some, Option.toList_none, List.cons_append, List.nil_append, List.append_nil, tb_76_64, if_neg e9, tb_76_78, tb_76_79]
                rw [if_neg (by decide), tb_76_82, stop (fun k k1 q => ((hb k (by omega)).mp q).2.2 t (by omega) (by omega) hq)]
              · rw [frost t (by omega) hq]
                simp only [Option.bind_some, Option.toList_some, Option.toList_none, List.cons_append, List.nil_append, List.append_nil, tb_76_64, if_neg e9, tb_76_78, tb_76_79, if_pos]
                refine next ((hb 0 (by omega)).mpr ⟨by omega, h1 (by omega), fun v v1 v2 => ?_⟩) _
                by_cases vt : v = t
                · rw [vt]; exact hq
                · exact h2 v (by omega) v2
          | succ d ih =>
            intro t B o6 ht htu h1 h2 hB
            have e1 : ¬ nI t < nI h := nI_nlt (by omega) (by omega)
            obtain ⟨t', rfl⟩ : ∃ t', t = t' + 1 := ⟨t - 1, by omega⟩
            have stop : (∀ k, k ≤ d + 1 → ¬ b k = true) → B = tw_bb b M := by
              intro q
              rw [tw_bb_0 (fun k hk => q k (by omega)), tn_or0] at hB
              exact hB
            have next : b (d + 1) = true → (t' < u → tw_ta μ H s p u) → (∀ v, t' < v → v < u → ¬ tw_ta μ H s p v) → ∀ o6, tw_run 76 85 [some (tw_R 5 0), some (tw_I (nI s)), some (tw_I (nI p)), some (tw_I (nI u)), some (tw_I B), some (tw_I (nI (t' + 1))), o6] [] μ = some (some (tw_I (tw_bb b M)), μ) := by
              intro q q1 q2 o6
              have e4 : nI (t' + 1) - nI h = nI (d + 1) := by rw [pk_sub (by omega), show t' + 1 - h = d + 1 by omega]
              rw [tb_76_85, g4, e4]
              by_cases z : 24 ≤ d + 1
              · rw [if_pos (show (24 : Int32) ≤ nI (d + 1) from nI_le (a := 24) z (by omega)), tb_76_117, pk_m1]
                refine ih t' B o6 (by omega) (by omega) q1 q2 ?_
                rw [show min (d + 1 + 1) 24 = 24 by omega] at hB
                rw [show min (d + 1) 24 = 24 by omega]
                exact hB
              · rw [if_neg (show ¬ (24 : Int32) ≤ nI (d + 1) from nI_ge (b := 24) (by omega) (by omega)), tb_76_100, g4, e4, tb_76_117, pk_m1]
                refine ih t' _ o6 (by omega) (by omega) q1 q2 ?_
                rw [show min (d + 1 + 1) 24 = d + 1 + 1 by omega, tw_bb, if_pos q] at hB
                rw [show min (d + 1) 24 = d + 1 by omega, tn_oa, tn_oc ((1 : Int32) <<< _) _]
                exact hB
            rw [tb_76_37, g4, if_neg e1, tb_76_49]
            by_cases e : t' + 1 = u
            · subst e
              by_cases hq : tw_ta μ H s p (t' + 1)
              · rw [thaw _ hu hq]
                simp only [Option.bind_some, Option.toList_some, Option.toList_none, List.cons_append, List.nil_append, List.append_nil, tb_76_64, if_pos, tb_76_74, tb_76_79]
                exact next ((hb (d + 1) (by omega)).mpr ⟨by omega, hq, fun v v1 v2 => absurd v1 (by omega)⟩) (fun _ => hq) (fun v v1 v2 => absurd v1 (by omega)) _
              · rw [frost _ hu hq]
                simp only [Option.bind_some, Option.toList_some, Option.toList_none, List.cons_append, List.nil_append, List.append_nil, tb_76_64, if_pos, tb_76_74, tb_76_79]
                rw [if_neg (by decide), tb_76_82, stop (fun k _ q => hq ((hb k (by omega)).mp q).2.1)]
            · have e9 : ¬ nI (t' + 1) = nI u := fun q => e ((nI_eq (by omega) (by omega)).mp q)
              by_cases hq : tw_ta μ H s p (t' + 1)
              · rw [thaw _ (by omega) hq]
                simp only [Option.bind_some, Option.toList_some, Option.toList_none, List.cons_append, List.nil_append, List.append_nil, tb_76_64, if_neg e9, tb_76_78, tb_76_79]
                rw [if_neg (by decide), tb_76_82, stop (fun k k1 q => ((hb k (by omega)).mp q).2.2 (t' + 1) (by omega) (by omega) hq)]
              · rw [frost _ (by omega) hq]
                simp only [Option.bind_some, Option.toList_some, Option.toList_none, List.cons_append, List.nil_append, List.append_nil, tb_76_64, if_neg e9, tb_76_78, tb_76_79, if_pos]
                have h3 : ∀ v, t' < v → v < u → ¬ tw_ta μ H s p v := by
                  intro v v1 v2
                  by_cases vt : v = t' + 1
                  · rw [vt]; exact hq
                  · exact h2 v (by omega) v2
                exact next ((hb (d + 1) (by omega)).mpr ⟨by omega, h1 (by omega), fun v v1 v2 => h3 v (by omega) v2⟩) (fun _ => h1 (by omega)) h3 _
        have rl : ∀ (d k : Nat), k + d = M → tw_run 147 39 [some (tw_R 6 0), some (tw_I (nI s)), some (tw_I (nI p)), some (tw_I (nI u)), some (tw_I (tw_bb b k)), some (tw_I (nI k))] [] (tw_th ν) = some (some (tw_I (tw_bb b M)), tw_th ν) := by
          intro d
          induction d with
          | zero =>
            intro k hk
            have hk2 : k = M := by omega
            subst hk2
            by_cases z : 24 ≤ k
            · rw [tb_147_39, if_pos (show (24 : Int32) ≤ nI k from nI_le (a := 24) z (by omega)), tb_147_98]
            · have z2 : 100 ≤ h + k := by omega
              rw [tb_147_39, if_neg (show ¬ (24 : Int32) ≤ nI k from nI_ge (b := 24) (by omega) (by omega)), tb_147_46, g5, nI_add, if_pos (show (100 : Int32) ≤ nI (h + k) from nI_le (a := 100) z2 (by omega)), tb_147_98]
          | succ d ih =>
            intro k hk
            have ih2 := ih (k + 1) (by omega)
            have hm := m_hourFrom R' hs hp (show h + k ≤ 100 by omega)
            rw [tw_bb] at ih2
            rw [tb_147_39, if_neg (show ¬ (24 : Int32) ≤ nI k from nI_ge (b := 24) (by omega) (by omega)), tb_147_46, g5, nI_add, if_neg (show ¬ (100 : Int32) ≤ nI (h + k) from nI_ge (b := 100) (by omega) (by omega)), tb_147_60, g5, nI_add, hm]
            simp only [Option.bind_some, Option.toList_some, Option.toList_none, List.cons_append, List.nil_append, List.append_nil, tb_147_77]
            by_cases z : tw_fh (tw_ta μ H s p) (100 - (h + k)) (h + k) = nI u
            · have hbk : b k = true := by rw [hbd]; exact decide_eq_true z
              rw [if_pos hbk] at ih2
              rw [if_pos z, tb_147_81, tb_147_89, nI_1]
              exact ih2
            · have hbk : ¬ b k = true := by rw [hbd]; exact fun q => z (of_decide_eq_true q)
              rw [if_neg hbk] at ih2
              rw [if_neg z, tb_147_88, tb_147_89, nI_1]
              exact ih2
        refine tw_J_of R0 (r := tw_I (tw_bb b M)) ?_ ?_
        · simp only [tb_76_0, tb_76_8, tb_76_11, tb_76_19, tb_76_22, tb_76_26, tb_76_31, te_76, s_isSound (c := 0) e7 hS, s_isPlace (c := 0) e5 hP, s_isHour, if_neg hxb, if_neg hyb, if_neg hzb, Option.bind_some, Option.toList_some, Option.toList_none, List.cons_append, List.nil_append, List.append_nil]
          by_cases z : u < h
          · rw [tb_76_37, g4, if_pos (nI_lt z (by omega)), tb_76_123, tw_bb_0 (fun k hk q => absurd ((hb k (by omega)).mp q).1 (by omega))]
          · refine cl (u - h) u 0 none (by omega) (Nat.le_refl _) (fun q => absurd q (by omega)) (fun v v1 v2 => absurd v1 (by omega)) ?_
            rw [tn_0or]
            symm
            refine tw_bb_m (by omega) (fun k k1 k2 q => absurd ((hb k (by omega)).mp q).1 (by omega))
        · simp only [tb_147_0, tb_147_10, tb_147_13, tb_147_18, tb_147_21, tb_147_28, tb_147_33, te_147, tw_thf, m_isSound f7 hS, m_isPlace f5 hP, m_in_99, if_neg hxb, if_neg hyb, if_neg hzb, Option.bind_some, Option.toList_some, Option.toList_none, List.cons_append, List.nil_append, List.append_nil]
          exact rl M 0 (by omega)
      · refine tw_J_of R0 (r := tw_I (-1)) ?_ ?_
        · simp only [tb_76_0, tb_76_8, tb_76_29, tb_76_11, tb_76_19, tb_76_22, tb_76_26, te_76, s_isSound (c := 0) e7 hS, s_isPlace (c := 0) e5 hP, s_isHour, if_neg (tw_ib_t hx), if_neg (tw_ib_t hy), if_pos (tw_ib_f hz), Option.bind_some, Option.toList_some, Option.toList_none, List.cons_append, List.nil_append, List.append_nil]
        · simp only [tb_147_0, tb_147_10, tb_147_31, tb_147_13, tb_147_18, tb_147_21, tb_147_28, te_147, tw_thf, m_isSound f7 hS, m_isPlace f5 hP, m_in_99, if_neg (tw_ib_t hx), if_neg (tw_ib_t hy), if_pos (tw_ib_f hz), Option.bind_some, Option.toList_some, Option.toList_none, List.cons_append, List.nil_append, List.append_nil]
    · refine tw_J_of R0 (r := tw_I (-1)) ?_ ?_
      · simp only [tb_76_0, tb_76_8, tb_76_29, tb_76_11, tb_76_19, tb_76_22, tb_76_26, te_76, s_isSound (c := 0) e7 hS, s_isPlace (c := 0) e5 hP, if_neg (tw_ib_t hx), if_pos (tw_ib_f hy), Option.bind_some, Option.toList_some, Option.toList_none, List.cons_append, List.nil_append, List.append_nil]
      · simp only [tb_147_0, tb_147_10, tb_147_31, tb_147_13, tb_147_18, tb_147_21, tb_147_28, te_147, tw_thf, m_isSound f7 hS, m_isPlace f5 hP, if_neg (tw_ib_t hx), if_pos (tw_ib_f hy), Option.bind_some, Option.toList_some, Option.toList_none, List.cons_append, List.nil_append, List.append_nil]
  · refine tw_J_of R0 (r := tw_I (-1)) ?_ ?_
    · simp only [tb_76_0, tb_76_8, tb_76_29, tb_76_11, tb_76_19, tb_76_22, tb_76_26, te_76, s_isSound (c := 0) e7 hS, if_pos (tw_ib_f hx), Option.bind_some, Option.toList_some, Option.toList_none, List.cons_append, List.nil_append, List.append_nil]
    · simp only [tb_147_0, tb_147_10, tb_147_31, tb_147_13, tb_147_18, tb_147_21, tb_147_28, te_147, tw_thf, m_isSound f7 hS, if_pos (tw_ib_f hx), Option.bind_some, Option.toList_some, Option.toList_none, List.cons_append, List.nil_append, List.append_nil]
theorem tn_abs : ∀ a, a < 10 → ∀ b, b < 10 → (((1 : Int32) < (if 0 ≤ nI a - nI b then nI a - nI b else 0 - (nI a - nI b))) ↔ (if nI a - nI b < -1 then (0 : Int32) else if 1 < nI a - nI b then 0 else 1) = 0) := by decide +kernel
theorem op_spoke (R0 : tw_Rl μ ν) : tw_Jn 83 151 [tw_I x] μ ν := by
  obtain ⟨P, H, S, N, C, h, T, R, -⟩ := id R0
  have R' := R.th
  obtain ⟨c1, c2, c3, c4, e5, e6, e7, e8, f5, f6, f7, f8⟩ := rn_c R'
  obtain ⟨g1, g2, g3, g4, g5, g6, g7⟩ := rn_0 R'
  have hC : C < 2 ^ 31 := by omega
  by_cases hx : tw_in x C
  · have hb := tw_ib_t hx
    obtain ⟨k, hk, rfl⟩ := tn_of_in hx (by omega)
    obtain ⟨k8, q1, q2, q3, q4, q5, q6, -⟩ := rn_k R' hk
    obtain ⟨r0, r1, r2, r3, r4, r5, r6⟩ := rn_ke R' hk
    have es := s_sayingAt_t (i := 0) g3 g1 hk
    rw [Nat.mul_zero, Nat.zero_add] at es
    obtain ⟨w, hw, ew⟩ := q1
    have pit : ∀ p, p < N → ∃ a, a < 10 ∧ tw_gi μ 13 0 p = nI a ∧ tw_gi (tw_th ν) 34 0 p = nI a := by
      intro p hp
      obtain ⟨a, ha, ea⟩ := (R'.1.2.2.2.2.2.2.2.2.2.2.2 p hp).1
      exact ⟨a, ha, ea, (R'.2.1.2.2.2.2.2.2.2 p hp).1.trans ea⟩
    obtain ⟨b, hb10, eb, fb⟩ := pit w hw
    have in34 : ∀ p, p < N → tw_in (nI p) (tw_al 34) := fun p hp => tn_in (show p < 8 by omega) (by decide)
    have cl : ∀ p, p < N → (nI p).toNatClampNeg = p := fun p hp => nI_clamp (by omega)
    have loop : ∀ (d p : Nat) (B : Int32) (o1 o6 o4 : Option tw_V), p + d = N → ∃ r : Int32, tw_run 83 36 [some (tw_R 5 0), o1, some (tw_R 2 k), some (tw_I (nI b)), some (tw_I B), some (tw_I (nI p)), o6] [] μ = some (some (tw_I r), μ) ∧ tw_run 151 19 [some (tw_R 6 0), some (tw_I (nI k)), some (tw_I B), some (tw_I (nI p)), o4] [] (tw_th ν) = some (some (tw_I r), tw_th ν) := by
      intro d
      induction d with
      | zero =>
        intro p B o1 o6 o4 hp
        have hp2 : p = N := by omega
        have e1 : nI N ≤ nI p := nI_le (by omega) (by omega)
        exact ⟨B, by rw [tb_83_36, e8, if_pos e1, tb_83_108], by rw [tb_151_19, f8, if_pos e1, tb_151_88]⟩
      | succ d ih =>
        intro p B o1 o6 o4 hp
        have hp2 : p < N := by omega
        have e1 : ¬ nI N ≤ nI p := nI_ge hp2 (by omega)
        obtain ⟨a, ha, ea, fa⟩ := pit p hp2
        rw [tb_83_36, e8, if_neg e1, tb_83_48, s_at (k := 13) rfl, tw_rd_p (μ := μ) (k := 13) (n := 0) 4 rfl (show p < 4 by omega), ea]
        rw [tb_151_19, f8, if_neg e1, tb_151_27, if_pos (in34 p hp2), cl p hp2, fa, tb_151_33, m_at0 k8, r0, ew]
        simp only [Option.bind_some, Option.toList_some, Option.toList_none, List.cons_append, List.nil_append, List.append_nil, tb_151_43, if_pos (in34 w hw), cl w hw, fb, tb_151_44, m_at13 k8, r5, tb_151_55, tb_83_60, tn_bv1]
        have hab := tn_abs a ha b hb10
        by_cases z1 : tw_bv (tw_gi μ 2 k 7) (nI p) = 0
        · rw [if_neg (show ¬ ¬ tw_bv (tw_gi μ 2 k 7) (nI p) = 0 from fun q => q z1), tb_151_79, tb_151_80, tn_or0, nI_1]
          by_cases z2 : (1 : Int32) < (if 0 ≤ nI a - nI b then nI a - nI b else 0 - (nI a - nI b))
          · rw [if_pos z2, tb_83_73, tb_83_74, if_pos rfl, tb_83_102, nI_1]
            exact ih (p + 1) B _ _ _ (by omega)
          · rw [if_neg z2, tb_83_69, tb_83_74, if_neg (by decide), tb_83_81, s_hasBit]
            simp only [Option.bind_some, Option.toList_some, Option.toList_none, List.cons_append, List.nil_append, List.append_nil, tb_83_90, if_pos z1, tb_83_102, nI_1]
            exact ih (p + 1) B _ _ _ (by omega)
        · rw [if_pos (show ¬ tw_bv (tw_gi μ 2 k 7) (nI p) = 0 from z1), tb_151_63, m_in0]
          simp only [Option.bind_some, Option.toList_some, Option.toList_none, List.cons_append, List.nil_append, List.append_nil, tb_151_70]
          by_cases z2 : (1 : Int32) < (if 0 ≤ nI a - nI b then nI a - nI b else 0 - (nI a - nI b))
          · rw [if_pos z2, tb_83_73, tb_83_74, if_pos rfl, tb_83_102, nI_1, if_pos (hab.mp z2), tb_151_79, tb_151_80, tn_or0, nI_1]
            exact ih (p + 1) B _ _ _ (by omega)
          · rw [if_neg z2, tb_83_69, tb_83_74, if_neg (by decide), tb_83_81, s_hasBit, if_neg (fun q => z2 (hab.mpr q)), tb_151_73, tb_151_80, nI_1]
            simp only [Option.bind_some, Option.toList_some, Option.toList_none, List.cons_append, List.nil_append, List.append_nil, tb_83_90, if_neg z1, tb_83_93, tb_83_102, nI_1]
            exact ih (p + 1) _ _ _ _ (by omega)
    obtain ⟨r, h1, h2⟩ := loop N 0 0 (tw_k (some (tw_I (nI k)))) none none (by omega)
    refine tw_J_of R0 (r := tw_I r) ?_ ?_
    · simp only [tb_83_0, tb_83_8, tb_83_8a, tb_83_15, tb_83_29, te_83, es, s_at (k := 13) rfl, ew, tw_rd_p (μ := μ) (k := 13) (n := 0) 4 rfl (show w < 4 by omega), eb, Option.bind_some, Option.toList_some, Option.toList_none, List.cons_append, List.nil_append, List.append_nil]
      exact h1
    · simp only [tb_151_0, tb_151_10, tb_151_15, te_151, tw_thf, m_isSaying g7 hC, if_neg hb, Option.bind_some, Option.toList_some, Option.toList_none, List.cons_append, List.nil_append, List.append_nil]
      exact h2
  · refine tw_J_of R0 (r := tw_I (-1)) ?_ ?_
    · simp only [tb_83_0, tb_83_8, tb_83_8a, tb_83_13, te_83, s_sayingAt_f g3 g1 hx, Option.bind_some, Option.toList_some, Option.toList_none, List.cons_append, List.nil_append, List.append_nil]
    · simp only [tb_151_0, tb_151_10, tb_151_13, te_151, tw_thf, m_isSaying g7 hC, if_pos (tw_ib_f hx), Option.bind_some, Option.toList_some, Option.toList_none, List.cons_append, List.nil_append, List.append_nil]
theorem op_answers (R0 : tw_Rl μ ν) : tw_Jn 82 150 [tw_I x, tw_I y] μ ν := by
  obtain ⟨P, H, S, N, C, h, T, R, -⟩ := id R0
  have R' := R.th
  obtain ⟨g1, g2, g3, g4, g5, g6, g7⟩ := rn_0 R'
  have hC : C < 2 ^ 31 := by omega
  by_cases hx : tw_in x C
  · by_cases hy : tw_in y C
    · have hxb := tw_ib_t hx
      have hyb := tw_ib_t hy
      obtain ⟨k, hk, rfl⟩ := tn_of_in hx (by omega)
      obtain ⟨l, hl, rfl⟩ := tn_of_in hy (by omega)
      have es := s_sayingAt_t (i := 0) g3 g1 hk
      have et := s_sayingAt_t (i := 0) g3 g1 hl
      rw [Nat.mul_zero, Nat.zero_add] at es et
      by_cases hkl : k = l
      · subst hkl
        refine tw_J_of R0 (r := tw_I (-1)) ?_ ?_
        · simp only [tb_82_0, tb_82_8, tb_82_8a, tb_82_17, tb_82_17a, tb_82_17b, tb_82_17c, tb_82_23, tb_82_23a, tb_82_33, tb_82_28, te_82, es, if_pos, Option.bind_some, Option.toList_some, Option.toList_none, List.cons_append, List.nil_append, List.append_nil]
        · simp only [tb_150_0, tb_150_10, tb_150_26, tb_150_13, tb_150_18, tb_150_21, te_150, tw_thf, m_isSaying g7 hC, if_neg hxb, if_pos, Option.bind_some, Option.toList_some, Option.toList_none, List.cons_append, List.nil_append, List.append_nil]
      · have hne : ¬ nI k = nI l := fun q => hkl ((nI_eq (by omega) (by omega)).mp q)
        obtain ⟨k8, q1, q2, q3, q4, q5, q6, -⟩ := rn_k R' hk
        obtain ⟨r0, r1, r2, r3, r4, r5, r6⟩ := rn_ke R' hk
        obtain ⟨l8, s1, s2, s3, s4, s5, s6, s7⟩ := rn_k R' hl
        obtain ⟨t0, t1, t2, t3, t4, t5, t6⟩ := rn_ke R' hl
        have zero : ∀ (d j : Nat), j + d = tw_ln μ l → tw_run 150 33 [some (tw_R 6 0), some (tw_I (nI k)), some (tw_I (nI l)), some (tw_I 0), some (tw_I (nI j))] [] (tw_th ν) = some (some (tw_I 0), tw_th ν) := by
          intro d
          induction d with
          | zero =>
            intro j hj
            rw [tb_150_33, m_at4 l8]
            simp only [Option.bind_some, Option.toList_some, Option.toList_none, List.cons_append, List.nil_append, List.append_nil, tb_150_41, t4, s4]
            rw [if_pos (nI_le (by omega) (by omega)), tb_150_92, if_pos rfl, tb_150_100, tb_150_101]
          | succ d ih =>
            intro j hj
            rw [tb_150_33, m_at4 l8]
            simp only [Option.bind_some, Option.toList_some, Option.toList_none, List.cons_append, List.nil_append, List.append_nil, tb_150_41, t4, s4]
            rw [if_neg (nI_ge (by omega) (by omega)), tb_150_44, if_pos rfl, tb_150_84, tb_150_85, nI_1]
            exact ih (j + 1) (by omega)
        have loop : ∀ (d j : Nat) (o0 o1 o2 : Option tw_V), j + d = tw_ln μ l → ∃ r : Int32, tw_run 82 38 [o0, o1, o2, some (tw_R 2 k), some (tw_R 2 l), some (tw_I (nI j))] [] μ = some (some (tw_I r), μ) ∧ tw_run 150 33 [some (tw_R 6 0), some (tw_I (nI k)), some (tw_I (nI l)), some (tw_I 1), some (tw_I (nI j))] [] (tw_th ν) = some (some (tw_I r), tw_th ν) := by
          intro d
          induction d with
          | zero =>
            intro j o0 o1 o2 hj
            refine ⟨1, ?_, ?_⟩
            · rw [tb_82_38, s4, if_pos (nI_le (by omega) (by omega)), tb_82_83]
            · rw [tb_150_33, m_at4 l8]
              simp only [Option.bind_some, Option.toList_some, Option.toList_none, List.cons_append, List.nil_append, List.append_nil, tb_150_41, t4, s4]
              rw [if_pos (nI_le (by omega) (by omega)), tb_150_92, if_neg (by decide), tb_150_96, tb_150_101]
          | succ d ih =>
            intro j o0 o1 o2 hj
            have hj2 : j < tw_ln μ l := by omega
            have e1 : ¬ nI (tw_ln μ l) ≤ nI j := nI_ge hj2 (by omega)
            have z0 := zero d (j + 1) (by omega)
            rw [tb_82_38, s4, if_neg e1, tb_82_48, s_hangs (show j < 4 by omega), tb_150_33, m_at4 l8]
            simp only [Option.bind_some, Option.toList_some, Option.toList_none, List.cons_append, List.nil_append, List.append_nil, tb_150_41, t4, s4]
            rw [if_neg e1, tb_150_44, if_neg (show ¬ (1 : Int32) = 0 by decide), tb_150_48, m_at9 l8 (show j < 4 by omega)]
            simp only [Option.bind_some, Option.toList_some, Option.toList_none, List.cons_append, List.nil_append, List.append_nil, tb_150_58, (t6 j hj2).2, tb_82_55, tn_z]
            rcases (s7 j hj2).2 with hh | ⟨t, ht, hh⟩
            · refine ⟨0, ?_, ?_⟩
              · rw [if_neg (fun q => q hh), tb_82_75]
              · rw [hh, if_pos (by decide), tb_150_84, tb_150_85, nI_1]
                exact z0
            · rw [if_pos (by rw [hh]; exact tn_neg1 t (by omega)), tb_82_58, s_at (k := 18) rfl, tw_rd_p (μ := μ) (k := 18) (n := l) 4 rfl (show j < 4 by omega), if_neg (by rw [hh]; exact nI_pos (by omega)), tb_150_61, m_at9 l8 (show j < 4 by omega)]
              simp only [Option.bind_some, Option.toList_some, Option.toList_none, List.cons_append, List.nil_append, List.append_nil, tb_82_68, tb_150_71, m_at2 k8, r2, (t6 j hj2).2, tb_150_77]
              by_cases z : tw_gi μ 2 k 5 ≤ tw_gi μ 18 l j
              · refine ⟨0, ?_, ?_⟩
                · rw [if_neg (tn_l1 z), tb_82_75]
                · rw [if_pos z, tb_150_84, tb_150_85, nI_1]
                  exact z0
              · rw [if_pos (tn_l2 z), tb_82_77, nI_1, if_neg z, tb_150_80, tb_150_85, nI_1]
                exact ih (j + 1) _ _ _ (by omega)
        obtain ⟨r, h1, h2⟩ := loop (tw_ln μ l) 0 (some (tw_R 5 0)) (some (tw_I (nI k))) (some (tw_I (nI l))) (by omega)
        refine tw_J_of R0 (r := tw_I r) ?_ ?_
        · simp only [tb_82_0, tb_82_8, tb_82_8a, tb_82_17, tb_82_17a, tb_82_17b, tb_82_17c, tb_82_23, tb_82_23a, tb_82_28, tb_82_35, te_82, es, et, if_neg hne, Option.bind_some, Option.toList_some, Option.toList_none, List.cons_append, List.nil_append, List.append_nil]
          exact h1
        · simp only [tb_150_0, tb_150_10, tb_150_13, tb_150_18, tb_150_21, tb_150_28, te_150, tw_thf, m_isSaying g7 hC, if_neg hxb, if_neg hyb, if_neg hne, Option.bind_some, Option.toList_some, Option.toList_none, List.cons_append, List.nil_append, List.append_nil]
          exact h2
    · have hxb := tw_ib_t hx
      obtain ⟨k, hk, rfl⟩ := tn_of_in hx (by omega)
      have es := s_sayingAt_t (i := 0) g3 g1 hk
      rw [Nat.mul_zero, Nat.zero_add] at es
      refine tw_J_of R0 (r := tw_I (-1)) ?_ ?_
      · simp only [tb_82_0, tb_82_8, tb_82_8a, tb_82_17, tb_82_17a, tb_82_17b, tb_82_17c, tb_82_23, tb_82_23a, tb_82_33, tb_82_28, te_82, es, s_sayingAt_f g3 g1 hy, Option.bind_some, Option.toList_some, Option.toList_none, List.cons_append, List.nil_append, List.append_nil]
      · simp only [tb_150_0, tb_150_10, tb_150_26, tb_150_13, tb_150_18, tb_150_21, te_150, tw_thf, m_isSaying g7 hC, if_neg hxb, if_pos (tw_ib_f hy), Option.bind_some, Option.toList_some, Option.toList_none, List.cons_append, List.nil_append, List.append_nil]
  · refine tw_J_of R0 (r := tw_I (-1)) ?_ ?_
    · by_cases hy : tw_in y C
      · obtain ⟨l, hl, rfl⟩ := tn_of_in hy (by omega)
        have et := s_sayingAt_t (i := 0) g3 g1 hl
        rw [Nat.mul_zero, Nat.zero_add] at et
        simp only [tb_82_0, tb_82_8, tb_82_8a, tb_82_17, tb_82_17a, tb_82_17b, tb_82_17c, tb_82_23, tb_82_23a, tb_82_33, tb_82_28, te_82, et, s_sayingAt_f g3 g1 hx, Option.bind_some, Option.toList_some, Option.toList_none, List.cons_append, List.nil_append, List.append_nil]
      · simp only [tb_82_0, tb_82_8, tb_82_8a, tb_82_17, tb_82_17a, tb_82_17b, tb_82_17c, tb_82_23, tb_82_23a, tb_82_33, tb_82_28, te_82, s_sayingAt_f g3 g1 hx, s_sayingAt_f g3 g1 hy, Option.bind_some, Option.toList_some, Option.toList_none, List.cons_append, List.nil_append, List.append_nil]
    · simp only [tb_150_0, tb_150_10, tb_150_26, tb_150_13, tb_150_18, tb_150_21, te_150, tw_thf, m_isSaying g7 hC, if_pos (tw_ib_f hx), Option.bind_some, Option.toList_some, Option.toList_none, List.cons_append, List.nil_append, List.append_nil]
end
