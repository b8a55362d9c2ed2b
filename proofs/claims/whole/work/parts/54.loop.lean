/-! the law's loop, and the law from its entry -/
theorem uz_end {i L : Nat} (hL : L ≤ 384) (hi : i ≤ L) (h : ¬ (nI L - 6 < nI i)) : i + 6 ≤ L := by
  rw [Int32.lt_iff_toInt_lt, Int32.toInt_sub, nI_toInt (by omega), nI_toInt (by omega)] at h
  have e : (6 : Int32).toInt = 6 := rfl
  rw [e, Int.bmod_eq_of_le (by omega) (by omega)] at h
  omega
set_option maxRecDepth 20000 in
theorem uz_loop {gc gm : tw_E} {p : Program} {l : Launch} {e : Env} {s : State} {m : MethodId} {below : List Frame} {meth : Method} {c : Code} {b L n1 n2 : Nat} {xs : Nat → Int32} (hr : meth.sig.returnType = ret) (hlocks : meth.locks = false) (C : uz_Cx gc gm p s m c b L xs) (hL : L ≤ 384) (h12 : n1 ≤ 600000 ∧ n2 ≤ 7302250) :
    ∀ (n i : Nat), i ≤ L → L + 1 ≤ i + n → ∀ (μ ν : tw_M) (H : Heap) (locs : List Loc) (ls : Array Slot), tw_Rl μ ν → uz_St gc gm s μ ν H locs → uz_Lo gc gm b i ls → W p l e room_1 s m #[Value.ref b] below meth c H locs n1 n2 (lw_Z below #[Value.ref b] s) (F0 m 18 ls []) := by
  obtain ⟨hx, hb, hml, hown, hts, hX, hbl, -⟩ := id C
  intro n
  induction n with
  | zero =>
    intro i h1 h2
    exact absurd h2 (by omega)
  | succ n ih =>
    intro i hiL hin μ ν H locs ls R S hl
    refine lv_iload_n hx hb dL_18 rfl (lv_at hl 0 rfl) ?_
    refine lv_aload_n hx hb dL_19 rfl (lv_at hl 3 rfl) ?_
    refine va_slen hx hb hX hbl (Nat.not_le.mpr hbl) S.2.2 dL_20 ?_
    refine lv_bipush (v := 6) hx hb dL_21 (by decide) ?_
    refine lv_isub hx hb dL_23 ?_
    refine lv_icmp_gt (tgt := 1029) hx hb dL_24 (by decide) (fun _ => ?_) (fun c1 => ?_)
    · refine lv_iconst (v := 1) hx hb dL_1029 (by decide) ?_
      refine va_forget (fun q hq => S.2.2.2.2 q hq) ?_
      refine W.widen (k := 600000) (n := 7302250) h12.1 h12.2 ?_
      exact lw_ret hx hb hr hlocks dL_1030
    · have hi : i + 6 ≤ L := uz_end hL hiL c1
      have K : ∀ (μ' ν' : tw_M) (H1 : Heap) (locs1 : List Loc), tw_Rl μ' ν' → uz_St gc gm s μ' ν' H1 locs1 → W p l e room_1 s m #[Value.ref b] below meth c H1 locs1 n1 n2 (lw_Z below #[Value.ref b] s) (F0 m 1023 ls []) := by
        intro μ' ν' H1 locs1 R1 S1
        refine lv_iinc (v := nI (i + 6)) (lv' := [(3, .int (nI (i + 6))), (2, .ref (tw_ad gm 6 0)), (1, .ref (tw_ad gc 5 0)), (0, .ref b)]) hx hb dL_1023 hl (k := 0) rfl (nI_add i 6) (by decide) rfl (fun ls hl => ?_)
        refine lv_goto (tgt := 18) hx hb dL_1026 (by decide) ?_
        exact ih (i + 6) hi (by omega) μ' ν' H1 locs1 ls R1 S1 hl
      refine lv_aload_n hx hb dL_27 rfl (lv_at hl 3 rfl) ?_
      refine lv_iload_n hx hb dL_28 rfl (lv_at hl 0 rfl) ?_
      refine va_sld hx hb hX hbl (Nat.not_le.mpr hbl) S.2.2 (vp_in_nI (show i < L by omega) (by omega)) dL_29 ?_
      refine lv_bipush (v := 31) hx hb dL_30 (by decide) ?_
      refine lv_iand hx hb dL_32 ?_
      refine lv_topi (fun z _ => ?_)
      by_cases hz : z.toInt < 0 ∨ 28 < z.toInt
      · exact lv_tableOut (tgt := 1023) hx hb dL_33 hz (by decide) (K μ ν H locs R S)
      · obtain ⟨k, hk⟩ : ∃ k : Nat, z.toInt = (k : Int) := ⟨z.toInt.toNat, by omega⟩
        match k, hk with
        | 0, hk => exact lv_tableIn (off := 131) (tgt := 164) hx hb dL_33 (by omega) (by omega) (by rw [hk]; rfl) (by decide) (uz_k0 C S R hl hi hL h12 K)
        | 1, hk => exact lv_tableIn (off := 194) (tgt := 227) hx hb dL_33 (by omega) (by omega) (by rw [hk]; rfl) (by decide) (uz_k1 C S R hl hi hL h12 K)
        | 2, hk => exact lv_tableIn (off := 207) (tgt := 240) hx hb dL_33 (by omega) (by omega) (by rw [hk]; rfl) (by decide) (uz_k2 C S R hl hi hL h12 K)
        | 3, hk => exact lv_tableIn (off := 220) (tgt := 253) hx hb dL_33 (by omega) (by omega) (by rw [hk]; rfl) (by decide) (uz_k3 C S R hl hi hL h12 K)
        | 4, hk => exact lv_tableIn (off := 253) (tgt := 286) hx hb dL_33 (by omega) (by omega) (by rw [hk]; rfl) (by decide) (uz_k4 C S R hl hi hL h12 K)
        | 5, hk => exact lv_tableIn (off := 276) (tgt := 309) hx hb dL_33 (by omega) (by omega) (by rw [hk]; rfl) (by decide) (uz_k5 C S R hl hi hL h12 K)
        | 6, hk => exact lv_tableIn (off := 299) (tgt := 332) hx hb dL_33 (by omega) (by omega) (by rw [hk]; rfl) (by decide) (uz_k6 C S R hl hi hL h12 K)
        | 7, hk => exact lv_tableIn (off := 332) (tgt := 365) hx hb dL_33 (by omega) (by omega) (by rw [hk]; rfl) (by decide) (uz_k7 C S R hl hi hL h12 K)
        | 8, hk => exact lv_tableIn (off := 375) (tgt := 408) hx hb dL_33 (by omega) (by omega) (by rw [hk]; rfl) (by decide) (uz_k8 C S R hl hi hL h12 K)
        | 9, hk => exact lv_tableIn (off := 408) (tgt := 441) hx hb dL_33 (by omega) (by omega) (by rw [hk]; rfl) (by decide) (uz_k9 C S R hl hi hL h12 K)
        | 10, hk => exact lv_tableIn (off := 431) (tgt := 464) hx hb dL_33 (by omega) (by omega) (by rw [hk]; rfl) (by decide) (uz_k10 C S R hl hi hL h12 K)
        | 11, hk => exact lv_tableIn (off := 454) (tgt := 487) hx hb dL_33 (by omega) (by omega) (by rw [hk]; rfl) (by decide) (uz_k11 C S R hl hi hL h12 K)
        | 12, hk => exact lv_tableIn (off := 487) (tgt := 520) hx hb dL_33 (by omega) (by omega) (by rw [hk]; rfl) (by decide) (uz_k12 C S R hl hi hL h12 K)
        | 13, hk => exact lv_tableIn (off := 520) (tgt := 553) hx hb dL_33 (by omega) (by omega) (by rw [hk]; rfl) (by decide) (uz_k13 C S R hl hi hL h12 K)
        | 14, hk => exact lv_tableIn (off := 563) (tgt := 596) hx hb dL_33 (by omega) (by omega) (by rw [hk]; rfl) (by decide) (uz_k14 C S R hl hi hL h12 K)
        | 15, hk => exact lv_tableIn (off := 586) (tgt := 619) hx hb dL_33 (by omega) (by omega) (by rw [hk]; rfl) (by decide) (uz_k15 C S R hl hi hL h12 K)
        | 16, hk => exact lv_tableIn (off := 599) (tgt := 632) hx hb dL_33 (by omega) (by omega) (by rw [hk]; rfl) (by decide) (uz_k16 C S R hl hi hL h12 K)
        | 17, hk => exact lv_tableIn (off := 632) (tgt := 665) hx hb dL_33 (by omega) (by omega) (by rw [hk]; rfl) (by decide) (uz_k17 C S R hl hi hL h12 K)
        | 18, hk => exact lv_tableIn (off := 655) (tgt := 688) hx hb dL_33 (by omega) (by omega) (by rw [hk]; rfl) (by decide) (uz_k18 C S R hl hi hL h12 K)
        | 19, hk => exact lv_tableIn (off := 698) (tgt := 731) hx hb dL_33 (by omega) (by omega) (by rw [hk]; rfl) (by decide) (uz_k19 C S R hl hi hL h12 K)
        | 20, hk => exact lv_tableIn (off := 721) (tgt := 754) hx hb dL_33 (by omega) (by omega) (by rw [hk]; rfl) (by decide) (uz_k20 C S R hl hi hL h12 K)
        | 21, hk => exact lv_tableIn (off := 754) (tgt := 787) hx hb dL_33 (by omega) (by omega) (by rw [hk]; rfl) (by decide) (uz_k21 C S R hl hi hL h12 K)
        | 22, hk => exact lv_tableIn (off := 787) (tgt := 820) hx hb dL_33 (by omega) (by omega) (by rw [hk]; rfl) (by decide) (uz_k22 C S R hl hi hL h12 K)
        | 23, hk => exact lv_tableIn (off := 810) (tgt := 843) hx hb dL_33 (by omega) (by omega) (by rw [hk]; rfl) (by decide) (uz_k23 C S R hl hi hL h12 K)
        | 24, hk => exact lv_tableIn (off := 874) (tgt := 907) hx hb dL_33 (by omega) (by omega) (by rw [hk]; rfl) (by decide) (uz_k24 C S R hl hi hL h12 K)
        | 25, hk => exact lv_tableIn (off := 907) (tgt := 940) hx hb dL_33 (by omega) (by omega) (by rw [hk]; rfl) (by decide) (uz_k25 C S R hl hi hL h12 K)
        | 26, hk => exact lv_tableIn (off := 930) (tgt := 963) hx hb dL_33 (by omega) (by omega) (by rw [hk]; rfl) (by decide) (uz_k26 C S R hl hi hL h12 K)
        | 27, hk => exact lv_tableIn (off := 953) (tgt := 986) hx hb dL_33 (by omega) (by omega) (by rw [hk]; rfl) (by decide) (uz_k27 C S R hl hi hL h12 K)
        | 28, hk => exact lv_tableIn (off := 976) (tgt := 1009) hx hb dL_33 (by omega) (by omega) (by rw [hk]; rfl) (by decide) (uz_k28 C S R hl hi hL h12 K)
        | k + 29, hk => exact absurd hk (by omega)
