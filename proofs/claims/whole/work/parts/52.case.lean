/-! the law, case by case -/
def uz_na (v : tw_V) : Bool := match v with
  | Sum.inr (Sum.inr _) => false
  | _ => true
theorem uz_vd {g : tw_E} {as : List tw_V} (h : as.all uz_na = true) : ∀ v, v ∈ as → tw_vd g v := by
  intro v hv
  have := List.all_eq_true.mp h v hv
  rcases v with x | x | x
  · exact True.intro
  · exact True.intro
  · cases this
theorem uz_cmp (x : Int64) : lg_cmp x x = 0 := by
  unfold lg_cmp
  rw [if_neg (show ¬ x > x from Int64.lt_irrefl), if_pos rfl]
section
variable {gc gm : tw_E} {p : Program} {l : Launch} {e : Env} {s : State} {m : MethodId} {below : List Frame} {meth : Method} {c : Code} {b L i n1 n2 : Nat} {xs : Nat → Int32} {Qf : State → Prop} {μ ν : tw_M} {H : Heap} {locs : List Loc} {ls : Array Slot}
set_option maxRecDepth 20000 in
theorem uz_k0 (C : uz_Cx gc gm p s m c b L xs) (S : uz_St gc gm s μ ν H locs) (R : tw_Rl μ ν) (hl : uz_Lo gc gm b i ls) (hi : i + 6 ≤ L) (hL : L ≤ 384) (h12 : n1 ≤ 600000 ∧ n2 ≤ 7302250)
    (kk : ∀ (μ' ν' : tw_M) (H1 : Heap) (locs1 : List Loc), tw_Rl μ' ν' → uz_St gc gm s μ' ν' H1 locs1 → W p l e room_1 s m #[Value.ref b] below meth c H1 locs1 n1 n2 Qf (F0 m 1023 ls [])) : W p l e room_1 s m #[Value.ref b] below meth c H locs n1 n2 Qf (F0 m 164 ls []) := by
  obtain ⟨r, μ', ν', h1, h2, R2⟩ : tw_Jn 2 104 [tw_J ((xs (i + 1)).toInt64 <<< ((32 : Int32).toInt64 &&& 63) ||| (xs (i + 2)).toInt64 &&& 4294967295), tw_I (xs (i + 3))] μ ν := op_type R
  obtain ⟨v, rfl⟩ := uz_tyI (i := 2) (by decide) (by decide +kernel) h1
  obtain ⟨hx, hb, hml, hown, hts, -⟩ := id C
  refine lv_aload_n hx hb dL_164 rfl (lv_at hl 2 rfl) ?_
  refine uz_arg C S hl (k := 1) (kn := 1) (by decide) (by omega) hL dL_165 dL_166 dL_167 dL_168 dL_169 ?_
  refine lv_i2l (v := (xs (i + 1)).toInt64) hx hb dL_170 rfl ?_
  refine lv_bipush (v := 32) hx hb dL_171 (by decide) ?_
  refine lv_lshl (v := (xs (i + 1)).toInt64 <<< ((32 : Int32).toInt64 &&& 63)) hx hb dL_173 rfl ?_
  refine uz_arg C S hl (k := 2) (kn := 2) (by decide) (by omega) hL dL_174 dL_175 dL_176 dL_177 dL_178 ?_
  refine lv_i2l (v := (xs (i + 2)).toInt64) hx hb dL_179 rfl ?_
  refine lv_ldc2 (v := 4294967295) hx hb hown (hts _ (List.mem_of_getElem? (i := 1056) (by decide +kernel))) dL_180 ?_
  refine lv_land hx hb dL_183 ?_
  refine lv_lor hx hb dL_184 ?_
  refine uz_arg C S hl (k := 3) (kn := 3) (by decide) (by omega) hL dL_185 dL_186 dL_187 dL_188 dL_189 ?_
  refine uz_cc (j := 2) (as := [tw_J ((xs (i + 1)).toInt64 <<< ((32 : Int32).toInt64 &&& 63) ||| (xs (i + 2)).toInt64 &&& 4294967295), tw_I (xs (i + 3))]) (rest := []) (i1 := 269) (i2 := 270) (i3 := 271) (i4 := 48) (i5 := 272) (na := 2) C S hl (by decide +kernel) (Nat.le_of_ble_eq_true rfl) (uz_vd rfl) h1 rfl dL_190 (Nat.le_of_ble_eq_true rfl) rfl h12 (fun H locs S => ?_)
  refine lv_aload_n hx hb dL_193 rfl (lv_at hl 1 rfl) ?_
  refine uz_arg C S hl (k := 1) (kn := 1) (by decide) (by omega) hL dL_194 dL_195 dL_196 dL_197 dL_198 ?_
  refine lv_i2l (v := (xs (i + 1)).toInt64) hx hb dL_199 rfl ?_
  refine lv_bipush (v := 32) hx hb dL_200 (by decide) ?_
  refine lv_lshl (v := (xs (i + 1)).toInt64 <<< ((32 : Int32).toInt64 &&& 63)) hx hb dL_202 rfl ?_
  refine uz_arg C S hl (k := 2) (kn := 2) (by decide) (by omega) hL dL_203 dL_204 dL_205 dL_206 dL_207 ?_
  refine lv_i2l (v := (xs (i + 2)).toInt64) hx hb dL_208 rfl ?_
  refine lv_ldc2 (v := 4294967295) hx hb hown (hts _ (List.mem_of_getElem? (i := 1056) (by decide +kernel))) dL_209 ?_
  refine lv_land hx hb dL_212 ?_
  refine lv_lor hx hb dL_213 ?_
  refine uz_arg C S hl (k := 3) (kn := 3) (by decide) (by omega) hL dL_214 dL_215 dL_216 dL_217 dL_218 ?_
  refine uz_cm (j := 104) (as := [tw_J ((xs (i + 1)).toInt64 <<< ((32 : Int32).toInt64 &&& 63) ||| (xs (i + 2)).toInt64 &&& 4294967295), tw_I (xs (i + 3))]) (rest := [tw_rv gc (tw_I v)]) (i1 := 828) (i2 := 829) (i3 := 830) (i4 := 54) (i5 := 831) (na := 2) C S hl (by decide +kernel) (Nat.le_of_ble_eq_true rfl) (uz_vd rfl) h2 rfl dL_219 (Nat.le_of_ble_eq_true rfl) rfl h12 (fun H locs S => ?_)
  exact lv_icmp_eq (x := v) (y := v) (tgt := 1023) hx hb dL_222 (by decide) (fun _ => kk _ _ H locs R2 S) (fun h => absurd rfl h)
set_option maxRecDepth 20000 in
theorem uz_k1 (C : uz_Cx gc gm p s m c b L xs) (S : uz_St gc gm s μ ν H locs) (R : tw_Rl μ ν) (hl : uz_Lo gc gm b i ls) (hi : i + 6 ≤ L) (hL : L ≤ 384) (h12 : n1 ≤ 600000 ∧ n2 ≤ 7302250)
    (kk : ∀ (μ' ν' : tw_M) (H1 : Heap) (locs1 : List Loc), tw_Rl μ' ν' → uz_St gc gm s μ' ν' H1 locs1 → W p l e room_1 s m #[Value.ref b] below meth c H1 locs1 n1 n2 Qf (F0 m 1023 ls [])) : W p l e room_1 s m #[Value.ref b] below meth c H locs n1 n2 Qf (F0 m 227 ls []) := by
  obtain ⟨r, μ', ν', h1, h2, R2⟩ : tw_Jn 3 105 [] μ ν := op_clear R
  obtain ⟨v, rfl⟩ := uz_tyI (i := 3) (by decide) (by decide +kernel) h1
  obtain ⟨hx, hb, hml, hown, hts, -⟩ := id C
  refine lv_aload_n hx hb dL_227 rfl (lv_at hl 2 rfl) ?_
  refine uz_cc (j := 3) (as := []) (rest := []) (i1 := 280) (i2 := 281) (i3 := 282) (i4 := 48) (i5 := 283) (na := 0) C S hl (by decide +kernel) (Nat.le_of_ble_eq_true rfl) (uz_vd rfl) h1 rfl dL_228 (Nat.le_of_ble_eq_true rfl) rfl h12 (fun H locs S => ?_)
  refine lv_aload_n hx hb dL_231 rfl (lv_at hl 1 rfl) ?_
  refine uz_cm (j := 105) (as := []) (rest := [tw_rv gc (tw_I v)]) (i1 := 836) (i2 := 837) (i3 := 838) (i4 := 54) (i5 := 839) (na := 0) C S hl (by decide +kernel) (Nat.le_of_ble_eq_true rfl) (uz_vd rfl) h2 rfl dL_232 (Nat.le_of_ble_eq_true rfl) rfl h12 (fun H locs S => ?_)
  exact lv_icmp_eq (x := v) (y := v) (tgt := 1023) hx hb dL_235 (by decide) (fun _ => kk _ _ H locs R2 S) (fun h => absurd rfl h)
set_option maxRecDepth 20000 in
theorem uz_k2 (C : uz_Cx gc gm p s m c b L xs) (S : uz_St gc gm s μ ν H locs) (R : tw_Rl μ ν) (hl : uz_Lo gc gm b i ls) (hi : i + 6 ≤ L) (hL : L ≤ 384) (h12 : n1 ≤ 600000 ∧ n2 ≤ 7302250)
    (kk : ∀ (μ' ν' : tw_M) (H1 : Heap) (locs1 : List Loc), tw_Rl μ' ν' → uz_St gc gm s μ' ν' H1 locs1 → W p l e room_1 s m #[Value.ref b] below meth c H1 locs1 n1 n2 Qf (F0 m 1023 ls [])) : W p l e room_1 s m #[Value.ref b] below meth c H locs n1 n2 Qf (F0 m 240 ls []) := by
  obtain ⟨r, μ', ν', h1, h2, R2⟩ : tw_Jn 33 116 [] μ ν := op_cape R
  obtain ⟨v, rfl⟩ := uz_tyI (i := 33) (by decide) (by decide +kernel) h1
  obtain ⟨hx, hb, hml, hown, hts, -⟩ := id C
  refine lv_aload_n hx hb dL_240 rfl (lv_at hl 2 rfl) ?_
  refine uz_cc (j := 33) (as := []) (rest := []) (i1 := 284) (i2 := 285) (i3 := 286) (i4 := 48) (i5 := 287) (na := 0) C S hl (by decide +kernel) (Nat.le_of_ble_eq_true rfl) (uz_vd rfl) h1 rfl dL_241 (Nat.le_of_ble_eq_true rfl) rfl h12 (fun H locs S => ?_)
  refine lv_aload_n hx hb dL_244 rfl (lv_at hl 1 rfl) ?_
  refine uz_cm (j := 116) (as := []) (rest := [tw_rv gc (tw_I v)]) (i1 := 840) (i2 := 841) (i3 := 842) (i4 := 54) (i5 := 843) (na := 0) C S hl (by decide +kernel) (Nat.le_of_ble_eq_true rfl) (uz_vd rfl) h2 rfl dL_245 (Nat.le_of_ble_eq_true rfl) rfl h12 (fun H locs S => ?_)
  exact lv_icmp_eq (x := v) (y := v) (tgt := 1023) hx hb dL_248 (by decide) (fun _ => kk _ _ H locs R2 S) (fun h => absurd rfl h)
set_option maxRecDepth 20000 in
theorem uz_k3 (C : uz_Cx gc gm p s m c b L xs) (S : uz_St gc gm s μ ν H locs) (R : tw_Rl μ ν) (hl : uz_Lo gc gm b i ls) (hi : i + 6 ≤ L) (hL : L ≤ 384) (h12 : n1 ≤ 600000 ∧ n2 ≤ 7302250)
    (kk : ∀ (μ' ν' : tw_M) (H1 : Heap) (locs1 : List Loc), tw_Rl μ' ν' → uz_St gc gm s μ' ν' H1 locs1 → W p l e room_1 s m #[Value.ref b] below meth c H1 locs1 n1 n2 Qf (F0 m 1023 ls [])) : W p l e room_1 s m #[Value.ref b] below meth c H locs n1 n2 Qf (F0 m 253 ls []) := by
  obtain ⟨r, μ', ν', h1, h2, R2⟩ : tw_Jn 44 125 [tw_I (xs (i + 1)), tw_I (xs (i + 2))] μ ν := op_place R
  obtain ⟨v, rfl⟩ := uz_tyI (i := 44) (by decide) (by decide +kernel) h1
  obtain ⟨hx, hb, hml, hown, hts, -⟩ := id C
  refine lv_aload_n hx hb dL_253 rfl (lv_at hl 2 rfl) ?_
  refine uz_arg C S hl (k := 1) (kn := 1) (by decide) (by omega) hL dL_254 dL_255 dL_256 dL_257 dL_258 ?_
  refine uz_arg C S hl (k := 2) (kn := 2) (by decide) (by omega) hL dL_259 dL_260 dL_261 dL_262 dL_263 ?_
  refine uz_cc (j := 44) (as := [tw_I (xs (i + 1)), tw_I (xs (i + 2))]) (rest := []) (i1 := 435) (i2 := 436) (i3 := 437) (i4 := 48) (i5 := 438) (na := 2) C S hl (by decide +kernel) (Nat.le_of_ble_eq_true rfl) (uz_vd rfl) h1 rfl dL_264 (Nat.le_of_ble_eq_true rfl) rfl h12 (fun H locs S => ?_)
  refine lv_aload_n hx hb dL_267 rfl (lv_at hl 1 rfl) ?_
  refine uz_arg C S hl (k := 1) (kn := 1) (by decide) (by omega) hL dL_268 dL_269 dL_270 dL_271 dL_272 ?_
  refine uz_arg C S hl (k := 2) (kn := 2) (by decide) (by omega) hL dL_273 dL_274 dL_275 dL_276 dL_277 ?_
  refine uz_cm (j := 125) (as := [tw_I (xs (i + 1)), tw_I (xs (i + 2))]) (rest := [tw_rv gc (tw_I v)]) (i1 := 882) (i2 := 883) (i3 := 884) (i4 := 54) (i5 := 885) (na := 2) C S hl (by decide +kernel) (Nat.le_of_ble_eq_true rfl) (uz_vd rfl) h2 rfl dL_278 (Nat.le_of_ble_eq_true rfl) rfl h12 (fun H locs S => ?_)
  exact lv_icmp_eq (x := v) (y := v) (tgt := 1023) hx hb dL_281 (by decide) (fun _ => kk _ _ H locs R2 S) (fun h => absurd rfl h)
set_option maxRecDepth 20000 in
theorem uz_k4 (C : uz_Cx gc gm p s m c b L xs) (S : uz_St gc gm s μ ν H locs) (R : tw_Rl μ ν) (hl : uz_Lo gc gm b i ls) (hi : i + 6 ≤ L) (hL : L ≤ 384) (h12 : n1 ≤ 600000 ∧ n2 ≤ 7302250)
    (kk : ∀ (μ' ν' : tw_M) (H1 : Heap) (locs1 : List Loc), tw_Rl μ' ν' → uz_St gc gm s μ' ν' H1 locs1 → W p l e room_1 s m #[Value.ref b] below meth c H1 locs1 n1 n2 Qf (F0 m 1023 ls [])) : W p l e room_1 s m #[Value.ref b] below meth c H locs n1 n2 Qf (F0 m 286 ls []) := by
  obtain ⟨r, μ', ν', h1, h2, R2⟩ : tw_Jn 46 126 [tw_I (xs (i + 1))] μ ν := op_warmth R
  obtain ⟨v, rfl⟩ := uz_tyI (i := 46) (by decide) (by decide +kernel) h1
  obtain ⟨hx, hb, hml, hown, hts, -⟩ := id C
  refine lv_aload_n hx hb dL_286 rfl (lv_at hl 2 rfl) ?_
  refine uz_arg C S hl (k := 1) (kn := 1) (by decide) (by omega) hL dL_287 dL_288 dL_289 dL_290 dL_291 ?_
  refine uz_cc (j := 46) (as := [tw_I (xs (i + 1))]) (rest := []) (i1 := 486) (i2 := 487) (i3 := 488) (i4 := 48) (i5 := 489) (na := 1) C S hl (by decide +kernel) (Nat.le_of_ble_eq_true rfl) (uz_vd rfl) h1 rfl dL_292 (Nat.le_of_ble_eq_true rfl) rfl h12 (fun H locs S => ?_)
  refine lv_aload_n hx hb dL_295 rfl (lv_at hl 1 rfl) ?_
  refine uz_arg C S hl (k := 1) (kn := 1) (by decide) (by omega) hL dL_296 dL_297 dL_298 dL_299 dL_300 ?_
  refine uz_cm (j := 126) (as := [tw_I (xs (i + 1))]) (rest := [tw_rv gc (tw_I v)]) (i1 := 919) (i2 := 920) (i3 := 921) (i4 := 54) (i5 := 922) (na := 1) C S hl (by decide +kernel) (Nat.le_of_ble_eq_true rfl) (uz_vd rfl) h2 rfl dL_301 (Nat.le_of_ble_eq_true rfl) rfl h12 (fun H locs S => ?_)
  exact lv_icmp_eq (x := v) (y := v) (tgt := 1023) hx hb dL_304 (by decide) (fun _ => kk _ _ H locs R2 S) (fun h => absurd rfl h)
set_option maxRecDepth 20000 in
theorem uz_k5 (C : uz_Cx gc gm p s m c b L xs) (S : uz_St gc gm s μ ν H locs) (R : tw_Rl μ ν) (hl : uz_Lo gc gm b i ls) (hi : i + 6 ≤ L) (hL : L ≤ 384) (h12 : n1 ≤ 600000 ∧ n2 ≤ 7302250)
    (kk : ∀ (μ' ν' : tw_M) (H1 : Heap) (locs1 : List Loc), tw_Rl μ' ν' → uz_St gc gm s μ' ν' H1 locs1 → W p l e room_1 s m #[Value.ref b] below meth c H1 locs1 n1 n2 Qf (F0 m 1023 ls [])) : W p l e room_1 s m #[Value.ref b] below meth c H locs n1 n2 Qf (F0 m 309 ls []) := by
  obtain ⟨r, μ', ν', h1, h2, R2⟩ : tw_Jn 48 128 [tw_I (xs (i + 1))] μ ν := op_melts R
  obtain ⟨v, rfl⟩ := uz_tyI (i := 48) (by decide) (by decide +kernel) h1
  obtain ⟨hx, hb, hml, hown, hts, -⟩ := id C
  refine lv_aload_n hx hb dL_309 rfl (lv_at hl 2 rfl) ?_
  refine uz_arg C S hl (k := 1) (kn := 1) (by decide) (by omega) hL dL_310 dL_311 dL_312 dL_313 dL_314 ?_
  refine uz_cc (j := 48) (as := [tw_I (xs (i + 1))]) (rest := []) (i1 := 494) (i2 := 495) (i3 := 496) (i4 := 48) (i5 := 497) (na := 1) C S hl (by decide +kernel) (Nat.le_of_ble_eq_true rfl) (uz_vd rfl) h1 rfl dL_315 (Nat.le_of_ble_eq_true rfl) rfl h12 (fun H locs S => ?_)
  refine lv_aload_n hx hb dL_318 rfl (lv_at hl 1 rfl) ?_
  refine uz_arg C S hl (k := 1) (kn := 1) (by decide) (by omega) hL dL_319 dL_320 dL_321 dL_322 dL_323 ?_
  refine uz_cm (j := 128) (as := [tw_I (xs (i + 1))]) (rest := [tw_rv gc (tw_I v)]) (i1 := 923) (i2 := 924) (i3 := 925) (i4 := 54) (i5 := 926) (na := 1) C S hl (by decide +kernel) (Nat.le_of_ble_eq_true rfl) (uz_vd rfl) h2 rfl dL_324 (Nat.le_of_ble_eq_true rfl) rfl h12 (fun H locs S => ?_)
  exact lv_icmp_eq (x := v) (y := v) (tgt := 1023) hx hb dL_327 (by decide) (fun _ => kk _ _ H locs R2 S) (fun h => absurd rfl h)
set_option maxRecDepth 20000 in
theorem uz_k6 (C : uz_Cx gc gm p s m c b L xs) (S : uz_St gc gm s μ ν H locs) (R : tw_Rl μ ν) (hl : uz_Lo gc gm b i ls) (hi : i + 6 ≤ L) (hL : L ≤ 384) (h12 : n1 ≤ 600000 ∧ n2 ≤ 7302250)
    (kk : ∀ (μ' ν' : tw_M) (H1 : Heap) (locs1 : List Loc), tw_Rl μ' ν' → uz_St gc gm s μ' ν' H1 locs1 → W p l e room_1 s m #[Value.ref b] below meth c H1 locs1 n1 n2 Qf (F0 m 1023 ls [])) : W p l e room_1 s m #[Value.ref b] below meth c H locs n1 n2 Qf (F0 m 332 ls []) := by
  obtain ⟨r, μ', ν', h1, h2, R2⟩ : tw_Jn 51 130 [tw_I (xs (i + 1)), tw_I (xs (i + 2))] μ ν := op_person R
  obtain ⟨v, rfl⟩ := uz_tyI (i := 51) (by decide) (by decide +kernel) h1
  obtain ⟨hx, hb, hml, hown, hts, -⟩ := id C
  refine lv_aload_n hx hb dL_332 rfl (lv_at hl 2 rfl) ?_
  refine uz_arg C S hl (k := 1) (kn := 1) (by decide) (by omega) hL dL_333 dL_334 dL_335 dL_336 dL_337 ?_
  refine uz_arg C S hl (k := 2) (kn := 2) (by decide) (by omega) hL dL_338 dL_339 dL_340 dL_341 dL_342 ?_
  refine uz_cc (j := 51) (as := [tw_I (xs (i + 1)), tw_I (xs (i + 2))]) (rest := []) (i1 := 502) (i2 := 503) (i3 := 504) (i4 := 48) (i5 := 505) (na := 2) C S hl (by decide +kernel) (Nat.le_of_ble_eq_true rfl) (uz_vd rfl) h1 rfl dL_343 (Nat.le_of_ble_eq_true rfl) rfl h12 (fun H locs S => ?_)
  refine lv_aload_n hx hb dL_346 rfl (lv_at hl 1 rfl) ?_
  refine uz_arg C S hl (k := 1) (kn := 1) (by decide) (by omega) hL dL_347 dL_348 dL_349 dL_350 dL_351 ?_
  refine uz_arg C S hl (k := 2) (kn := 2) (by decide) (by omega) hL dL_352 dL_353 dL_354 dL_355 dL_356 ?_
  refine uz_cm (j := 130) (as := [tw_I (xs (i + 1)), tw_I (xs (i + 2))]) (rest := [tw_rv gc (tw_I v)]) (i1 := 931) (i2 := 932) (i3 := 933) (i4 := 54) (i5 := 934) (na := 2) C S hl (by decide +kernel) (Nat.le_of_ble_eq_true rfl) (uz_vd rfl) h2 rfl dL_357 (Nat.le_of_ble_eq_true rfl) rfl h12 (fun H locs S => ?_)
  exact lv_icmp_eq (x := v) (y := v) (tgt := 1023) hx hb dL_360 (by decide) (fun _ => kk _ _ H locs R2 S) (fun h => absurd rfl h)
set_option maxRecDepth 20000 in
theorem uz_k7 (C : uz_Cx gc gm p s m c b L xs) (S : uz_St gc gm s μ ν H locs) (R : tw_Rl μ ν) (hl : uz_Lo gc gm b i ls) (hi : i + 6 ≤ L) (hL : L ≤ 384) (h12 : n1 ≤ 600000 ∧ n2 ≤ 7302250)
    (kk : ∀ (μ' ν' : tw_M) (H1 : Heap) (locs1 : List Loc), tw_Rl μ' ν' → uz_St gc gm s μ' ν' H1 locs1 → W p l e room_1 s m #[Value.ref b] below meth c H1 locs1 n1 n2 Qf (F0 m 1023 ls [])) : W p l e room_1 s m #[Value.ref b] below meth c H locs n1 n2 Qf (F0 m 365 ls []) := by
  obtain ⟨r, μ', ν', h1, h2, R2⟩ : tw_Jn 59 132 [tw_I (xs (i + 1)), tw_I (xs (i + 2)), tw_I (xs (i + 3))] μ ν := op_says R
  obtain ⟨v, rfl⟩ := uz_tyI (i := 59) (by decide) (by decide +kernel) h1
  obtain ⟨hx, hb, hml, hown, hts, -⟩ := id C
  refine lv_aload_n hx hb dL_365 rfl (lv_at hl 2 rfl) ?_
  refine uz_arg C S hl (k := 1) (kn := 1) (by decide) (by omega) hL dL_366 dL_367 dL_368 dL_369 dL_370 ?_
  refine uz_arg C S hl (k := 2) (kn := 2) (by decide) (by omega) hL dL_371 dL_372 dL_373 dL_374 dL_375 ?_
  refine uz_arg C S hl (k := 3) (kn := 3) (by decide) (by omega) hL dL_376 dL_377 dL_378 dL_379 dL_380 ?_
  refine uz_cc (j := 59) (as := [tw_I (xs (i + 1)), tw_I (xs (i + 2)), tw_I (xs (i + 3))]) (rest := []) (i1 := 515) (i2 := 516) (i3 := 517) (i4 := 48) (i5 := 518) (na := 3) C S hl (by decide +kernel) (Nat.le_of_ble_eq_true rfl) (uz_vd rfl) h1 rfl dL_381 (Nat.le_of_ble_eq_true rfl) rfl h12 (fun H locs S => ?_)
  refine lv_aload_n hx hb dL_384 rfl (lv_at hl 1 rfl) ?_
  refine uz_arg C S hl (k := 1) (kn := 1) (by decide) (by omega) hL dL_385 dL_386 dL_387 dL_388 dL_389 ?_
  refine uz_arg C S hl (k := 2) (kn := 2) (by decide) (by omega) hL dL_390 dL_391 dL_392 dL_393 dL_394 ?_
  refine uz_arg C S hl (k := 3) (kn := 3) (by decide) (by omega) hL dL_395 dL_396 dL_397 dL_398 dL_399 ?_
  refine uz_cm (j := 132) (as := [tw_I (xs (i + 1)), tw_I (xs (i + 2)), tw_I (xs (i + 3))]) (rest := [tw_rv gc (tw_I v)]) (i1 := 939) (i2 := 940) (i3 := 941) (i4 := 54) (i5 := 942) (na := 3) C S hl (by decide +kernel) (Nat.le_of_ble_eq_true rfl) (uz_vd rfl) h2 rfl dL_400 (Nat.le_of_ble_eq_true rfl) rfl h12 (fun H locs S => ?_)
  exact lv_icmp_eq (x := v) (y := v) (tgt := 1023) hx hb dL_403 (by decide) (fun _ => kk _ _ H locs R2 S) (fun h => absurd rfl h)
set_option maxRecDepth 20000 in
theorem uz_k8 (C : uz_Cx gc gm p s m c b L xs) (S : uz_St gc gm s μ ν H locs) (R : tw_Rl μ ν) (hl : uz_Lo gc gm b i ls) (hi : i + 6 ≤ L) (hL : L ≤ 384) (h12 : n1 ≤ 600000 ∧ n2 ≤ 7302250)
    (kk : ∀ (μ' ν' : tw_M) (H1 : Heap) (locs1 : List Loc), tw_Rl μ' ν' → uz_St gc gm s μ' ν' H1 locs1 → W p l e room_1 s m #[Value.ref b] below meth c H1 locs1 n1 n2 Qf (F0 m 1023 ls [])) : W p l e room_1 s m #[Value.ref b] below meth c H locs n1 n2 Qf (F0 m 408 ls []) := by
  obtain ⟨r, μ', ν', h1, h2, R2⟩ : tw_Jn 60 133 [tw_I (xs (i + 1)), tw_I (xs (i + 2))] μ ν := op_goes R
  obtain ⟨v, rfl⟩ := uz_tyI (i := 60) (by decide) (by decide +kernel) h1
  obtain ⟨hx, hb, hml, hown, hts, -⟩ := id C
  refine lv_aload_n hx hb dL_408 rfl (lv_at hl 2 rfl) ?_
  refine uz_arg C S hl (k := 1) (kn := 1) (by decide) (by omega) hL dL_409 dL_410 dL_411 dL_412 dL_413 ?_
  refine uz_arg C S hl (k := 2) (kn := 2) (by decide) (by omega) hL dL_414 dL_415 dL_416 dL_417 dL_418 ?_
  refine uz_cc (j := 60) (as := [tw_I (xs (i + 1)), tw_I (xs (i + 2))]) (rest := []) (i1 := 552) (i2 := 553) (i3 := 554) (i4 := 48) (i5 := 555) (na := 2) C S hl (by decide +kernel) (Nat.le_of_ble_eq_true rfl) (uz_vd rfl) h1 rfl dL_419 (Nat.le_of_ble_eq_true rfl) rfl h12 (fun H locs S => ?_)
  refine lv_aload_n hx hb dL_422 rfl (lv_at hl 1 rfl) ?_
  refine uz_arg C S hl (k := 1) (kn := 1) (by decide) (by omega) hL dL_423 dL_424 dL_425 dL_426 dL_427 ?_
  refine uz_arg C S hl (k := 2) (kn := 2) (by decide) (by omega) hL dL_428 dL_429 dL_430 dL_431 dL_432 ?_
  refine uz_cm (j := 133) (as := [tw_I (xs (i + 1)), tw_I (xs (i + 2))]) (rest := [tw_rv gc (tw_I v)]) (i1 := 947) (i2 := 948) (i3 := 949) (i4 := 54) (i5 := 950) (na := 2) C S hl (by decide +kernel) (Nat.le_of_ble_eq_true rfl) (uz_vd rfl) h2 rfl dL_433 (Nat.le_of_ble_eq_true rfl) rfl h12 (fun H locs S => ?_)
  exact lv_icmp_eq (x := v) (y := v) (tgt := 1023) hx hb dL_436 (by decide) (fun _ => kk _ _ H locs R2 S) (fun h => absurd rfl h)
set_option maxRecDepth 20000 in
theorem uz_k9 (C : uz_Cx gc gm p s m c b L xs) (S : uz_St gc gm s μ ν H locs) (R : tw_Rl μ ν) (hl : uz_Lo gc gm b i ls) (hi : i + 6 ≤ L) (hL : L ≤ 384) (h12 : n1 ≤ 600000 ∧ n2 ≤ 7302250)
    (kk : ∀ (μ' ν' : tw_M) (H1 : Heap) (locs1 : List Loc), tw_Rl μ' ν' → uz_St gc gm s μ' ν' H1 locs1 → W p l e room_1 s m #[Value.ref b] below meth c H1 locs1 n1 n2 Qf (F0 m 1023 ls [])) : W p l e room_1 s m #[Value.ref b] below meth c H locs n1 n2 Qf (F0 m 441 ls []) := by
  obtain ⟨r, μ', ν', h1, h2, R2⟩ : tw_Jn 63 135 [tw_I (xs (i + 1))] μ ν := op_lantern R
  obtain ⟨v, rfl⟩ := uz_tyI (i := 63) (by decide) (by decide +kernel) h1
  obtain ⟨hx, hb, hml, hown, hts, -⟩ := id C
  refine lv_aload_n hx hb dL_441 rfl (lv_at hl 2 rfl) ?_
  refine uz_arg C S hl (k := 1) (kn := 1) (by decide) (by omega) hL dL_442 dL_443 dL_444 dL_445 dL_446 ?_
  refine uz_cc (j := 63) (as := [tw_I (xs (i + 1))]) (rest := []) (i1 := 557) (i2 := 558) (i3 := 559) (i4 := 48) (i5 := 560) (na := 1) C S hl (by decide +kernel) (Nat.le_of_ble_eq_true rfl) (uz_vd rfl) h1 rfl dL_447 (Nat.le_of_ble_eq_true rfl) rfl h12 (fun H locs S => ?_)
  refine lv_aload_n hx hb dL_450 rfl (lv_at hl 1 rfl) ?_
  refine uz_arg C S hl (k := 1) (kn := 1) (by decide) (by omega) hL dL_451 dL_452 dL_453 dL_454 dL_455 ?_
  refine uz_cm (j := 135) (as := [tw_I (xs (i + 1))]) (rest := [tw_rv gc (tw_I v)]) (i1 := 951) (i2 := 952) (i3 := 953) (i4 := 54) (i5 := 954) (na := 1) C S hl (by decide +kernel) (Nat.le_of_ble_eq_true rfl) (uz_vd rfl) h2 rfl dL_456 (Nat.le_of_ble_eq_true rfl) rfl h12 (fun H locs S => ?_)
  exact lv_icmp_eq (x := v) (y := v) (tgt := 1023) hx hb dL_459 (by decide) (fun _ => kk _ _ H locs R2 S) (fun h => absurd rfl h)
set_option maxRecDepth 20000 in
theorem uz_k10 (C : uz_Cx gc gm p s m c b L xs) (S : uz_St gc gm s μ ν H locs) (R : tw_Rl μ ν) (hl : uz_Lo gc gm b i ls) (hi : i + 6 ≤ L) (hL : L ≤ 384) (h12 : n1 ≤ 600000 ∧ n2 ≤ 7302250)
    (kk : ∀ (μ' ν' : tw_M) (H1 : Heap) (locs1 : List Loc), tw_Rl μ' ν' → uz_St gc gm s μ' ν' H1 locs1 → W p l e room_1 s m #[Value.ref b] below meth c H1 locs1 n1 n2 Qf (F0 m 1023 ls [])) : W p l e room_1 s m #[Value.ref b] below meth c H locs n1 n2 Qf (F0 m 464 ls []) := by
  obtain ⟨r, μ', ν', h1, h2, R2⟩ : tw_Jn 65 136 [tw_I (xs (i + 1))] μ ν := op_go R
  obtain ⟨v, rfl⟩ := uz_tyI (i := 65) (by decide) (by decide +kernel) h1
  obtain ⟨hx, hb, hml, hown, hts, -⟩ := id C
  refine lv_aload_n hx hb dL_464 rfl (lv_at hl 2 rfl) ?_
  refine uz_arg C S hl (k := 1) (kn := 1) (by decide) (by omega) hL dL_465 dL_466 dL_467 dL_468 dL_469 ?_
  refine uz_cc (j := 65) (as := [tw_I (xs (i + 1))]) (rest := []) (i1 := 569) (i2 := 570) (i3 := 571) (i4 := 48) (i5 := 572) (na := 1) C S hl (by decide +kernel) (Nat.le_of_ble_eq_true rfl) (uz_vd rfl) h1 rfl dL_470 (Nat.le_of_ble_eq_true rfl) rfl h12 (fun H locs S => ?_)
  refine lv_aload_n hx hb dL_473 rfl (lv_at hl 1 rfl) ?_
  refine uz_arg C S hl (k := 1) (kn := 1) (by decide) (by omega) hL dL_474 dL_475 dL_476 dL_477 dL_478 ?_
  refine uz_cm (j := 136) (as := [tw_I (xs (i + 1))]) (rest := [tw_rv gc (tw_I v)]) (i1 := 959) (i2 := 960) (i3 := 961) (i4 := 54) (i5 := 962) (na := 1) C S hl (by decide +kernel) (Nat.le_of_ble_eq_true rfl) (uz_vd rfl) h2 rfl dL_479 (Nat.le_of_ble_eq_true rfl) rfl h12 (fun H locs S => ?_)
  exact lv_icmp_eq (x := v) (y := v) (tgt := 1023) hx hb dL_482 (by decide) (fun _ => kk _ _ H locs R2 S) (fun h => absurd rfl h)
set_option maxRecDepth 20000 in
theorem uz_k11 (C : uz_Cx gc gm p s m c b L xs) (S : uz_St gc gm s μ ν H locs) (R : tw_Rl μ ν) (hl : uz_Lo gc gm b i ls) (hi : i + 6 ≤ L) (hL : L ≤ 384) (h12 : n1 ≤ 600000 ∧ n2 ≤ 7302250)
    (kk : ∀ (μ' ν' : tw_M) (H1 : Heap) (locs1 : List Loc), tw_Rl μ' ν' → uz_St gc gm s μ' ν' H1 locs1 → W p l e room_1 s m #[Value.ref b] below meth c H1 locs1 n1 n2 Qf (F0 m 1023 ls [])) : W p l e room_1 s m #[Value.ref b] below meth c H locs n1 n2 Qf (F0 m 487 ls []) := by
  obtain ⟨r, μ', ν', h1, h2, R2⟩ : tw_Jn 66 138 [tw_I (xs (i + 1)), tw_I (xs (i + 2))] μ ν := op_saying R
  obtain ⟨v, rfl⟩ := uz_tyI (i := 66) (by decide) (by decide +kernel) h1
  obtain ⟨hx, hb, hml, hown, hts, -⟩ := id C
  refine lv_aload_n hx hb dL_487 rfl (lv_at hl 2 rfl) ?_
  refine uz_arg C S hl (k := 1) (kn := 1) (by decide) (by omega) hL dL_488 dL_489 dL_490 dL_491 dL_492 ?_
  refine uz_arg C S hl (k := 2) (kn := 2) (by decide) (by omega) hL dL_493 dL_494 dL_495 dL_496 dL_497 ?_
  refine uz_cc (j := 66) (as := [tw_I (xs (i + 1)), tw_I (xs (i + 2))]) (rest := []) (i1 := 577) (i2 := 578) (i3 := 579) (i4 := 48) (i5 := 580) (na := 2) C S hl (by decide +kernel) (Nat.le_of_ble_eq_true rfl) (uz_vd rfl) h1 rfl dL_498 (Nat.le_of_ble_eq_true rfl) rfl h12 (fun H locs S => ?_)
  refine lv_aload_n hx hb dL_501 rfl (lv_at hl 1 rfl) ?_
  refine uz_arg C S hl (k := 1) (kn := 1) (by decide) (by omega) hL dL_502 dL_503 dL_504 dL_505 dL_506 ?_
  refine uz_arg C S hl (k := 2) (kn := 2) (by decide) (by omega) hL dL_507 dL_508 dL_509 dL_510 dL_511 ?_
  refine uz_cm (j := 138) (as := [tw_I (xs (i + 1)), tw_I (xs (i + 2))]) (rest := [tw_rv gc (tw_I v)]) (i1 := 963) (i2 := 964) (i3 := 965) (i4 := 54) (i5 := 966) (na := 2) C S hl (by decide +kernel) (Nat.le_of_ble_eq_true rfl) (uz_vd rfl) h2 rfl dL_512 (Nat.le_of_ble_eq_true rfl) rfl h12 (fun H locs S => ?_)
  exact lv_icmp_eq (x := v) (y := v) (tgt := 1023) hx hb dL_515 (by decide) (fun _ => kk _ _ H locs R2 S) (fun h => absurd rfl h)
set_option maxRecDepth 20000 in
theorem uz_k12 (C : uz_Cx gc gm p s m c b L xs) (S : uz_St gc gm s μ ν H locs) (R : tw_Rl μ ν) (hl : uz_Lo gc gm b i ls) (hi : i + 6 ≤ L) (hL : L ≤ 384) (h12 : n1 ≤ 600000 ∧ n2 ≤ 7302250)
    (kk : ∀ (μ' ν' : tw_M) (H1 : Heap) (locs1 : List Loc), tw_Rl μ' ν' → uz_St gc gm s μ' ν' H1 locs1 → W p l e room_1 s m #[Value.ref b] below meth c H1 locs1 n1 n2 Qf (F0 m 1023 ls [])) : W p l e room_1 s m #[Value.ref b] below meth c H locs n1 n2 Qf (F0 m 520 ls []) := by
  obtain ⟨r, μ', ν', h1, h2, R2⟩ : tw_Jn 67 139 [tw_I (xs (i + 1)), tw_I (xs (i + 2))] μ ν := op_soundOf R
  obtain ⟨v, rfl⟩ := uz_tyI (i := 67) (by decide) (by decide +kernel) h1
  obtain ⟨hx, hb, hml, hown, hts, -⟩ := id C
  refine lv_aload_n hx hb dL_520 rfl (lv_at hl 2 rfl) ?_
  refine uz_arg C S hl (k := 1) (kn := 1) (by decide) (by omega) hL dL_521 dL_522 dL_523 dL_524 dL_525 ?_
  refine uz_arg C S hl (k := 2) (kn := 2) (by decide) (by omega) hL dL_526 dL_527 dL_528 dL_529 dL_530 ?_
  refine uz_cc (j := 67) (as := [tw_I (xs (i + 1)), tw_I (xs (i + 2))]) (rest := []) (i1 := 583) (i2 := 584) (i3 := 585) (i4 := 48) (i5 := 586) (na := 2) C S hl (by decide +kernel) (Nat.le_of_ble_eq_true rfl) (uz_vd rfl) h1 rfl dL_531 (Nat.le_of_ble_eq_true rfl) rfl h12 (fun H locs S => ?_)
  refine lv_aload_n hx hb dL_534 rfl (lv_at hl 1 rfl) ?_
  refine uz_arg C S hl (k := 1) (kn := 1) (by decide) (by omega) hL dL_535 dL_536 dL_537 dL_538 dL_539 ?_
  refine uz_arg C S hl (k := 2) (kn := 2) (by decide) (by omega) hL dL_540 dL_541 dL_542 dL_543 dL_544 ?_
  refine uz_cm (j := 139) (as := [tw_I (xs (i + 1)), tw_I (xs (i + 2))]) (rest := [tw_rv gc (tw_I v)]) (i1 := 971) (i2 := 972) (i3 := 973) (i4 := 54) (i5 := 974) (na := 2) C S hl (by decide +kernel) (Nat.le_of_ble_eq_true rfl) (uz_vd rfl) h2 rfl dL_545 (Nat.le_of_ble_eq_true rfl) rfl h12 (fun H locs S => ?_)
  exact lv_icmp_eq (x := v) (y := v) (tgt := 1023) hx hb dL_548 (by decide) (fun _ => kk _ _ H locs R2 S) (fun h => absurd rfl h)
set_option maxRecDepth 20000 in
theorem uz_k13 (C : uz_Cx gc gm p s m c b L xs) (S : uz_St gc gm s μ ν H locs) (R : tw_Rl μ ν) (hl : uz_Lo gc gm b i ls) (hi : i + 6 ≤ L) (hL : L ≤ 384) (h12 : n1 ≤ 600000 ∧ n2 ≤ 7302250)
    (kk : ∀ (μ' ν' : tw_M) (H1 : Heap) (locs1 : List Loc), tw_Rl μ' ν' → uz_St gc gm s μ' ν' H1 locs1 → W p l e room_1 s m #[Value.ref b] below meth c H1 locs1 n1 n2 Qf (F0 m 1023 ls [])) : W p l e room_1 s m #[Value.ref b] below meth c H locs n1 n2 Qf (F0 m 553 ls []) := by
  obtain ⟨r, μ', ν', h1, h2, R2⟩ : tw_Jn 68 140 [tw_I (xs (i + 1)), tw_I (xs (i + 2)), tw_I (xs (i + 3))] μ ν := op_heard R
  obtain ⟨v, rfl⟩ := uz_tyI (i := 68) (by decide) (by decide +kernel) h1
  obtain ⟨hx, hb, hml, hown, hts, -⟩ := id C
  refine lv_aload_n hx hb dL_553 rfl (lv_at hl 2 rfl) ?_
  refine uz_arg C S hl (k := 1) (kn := 1) (by decide) (by omega) hL dL_554 dL_555 dL_556 dL_557 dL_558 ?_
  refine uz_arg C S hl (k := 2) (kn := 2) (by decide) (by omega) hL dL_559 dL_560 dL_561 dL_562 dL_563 ?_
  refine uz_arg C S hl (k := 3) (kn := 3) (by decide) (by omega) hL dL_564 dL_565 dL_566 dL_567 dL_568 ?_
  refine uz_cc (j := 68) (as := [tw_I (xs (i + 1)), tw_I (xs (i + 2)), tw_I (xs (i + 3))]) (rest := []) (i1 := 587) (i2 := 588) (i3 := 589) (i4 := 48) (i5 := 590) (na := 3) C S hl (by decide +kernel) (Nat.le_of_ble_eq_true rfl) (uz_vd rfl) h1 rfl dL_569 (Nat.le_of_ble_eq_true rfl) rfl h12 (fun H locs S => ?_)
  refine lv_aload_n hx hb dL_572 rfl (lv_at hl 1 rfl) ?_
  refine uz_arg C S hl (k := 1) (kn := 1) (by decide) (by omega) hL dL_573 dL_574 dL_575 dL_576 dL_577 ?_
  refine uz_arg C S hl (k := 2) (kn := 2) (by decide) (by omega) hL dL_578 dL_579 dL_580 dL_581 dL_582 ?_
  refine uz_arg C S hl (k := 3) (kn := 3) (by decide) (by omega) hL dL_583 dL_584 dL_585 dL_586 dL_587 ?_
  refine uz_cm (j := 140) (as := [tw_I (xs (i + 1)), tw_I (xs (i + 2)), tw_I (xs (i + 3))]) (rest := [tw_rv gc (tw_I v)]) (i1 := 975) (i2 := 976) (i3 := 977) (i4 := 54) (i5 := 978) (na := 3) C S hl (by decide +kernel) (Nat.le_of_ble_eq_true rfl) (uz_vd rfl) h2 rfl dL_588 (Nat.le_of_ble_eq_true rfl) rfl h12 (fun H locs S => ?_)
  exact lv_icmp_eq (x := v) (y := v) (tgt := 1023) hx hb dL_591 (by decide) (fun _ => kk _ _ H locs R2 S) (fun h => absurd rfl h)
set_option maxRecDepth 20000 in
theorem uz_k14 (C : uz_Cx gc gm p s m c b L xs) (S : uz_St gc gm s μ ν H locs) (R : tw_Rl μ ν) (hl : uz_Lo gc gm b i ls) (hi : i + 6 ≤ L) (hL : L ≤ 384) (h12 : n1 ≤ 600000 ∧ n2 ≤ 7302250)
    (kk : ∀ (μ' ν' : tw_M) (H1 : Heap) (locs1 : List Loc), tw_Rl μ' ν' → uz_St gc gm s μ' ν' H1 locs1 → W p l e room_1 s m #[Value.ref b] below meth c H1 locs1 n1 n2 Qf (F0 m 1023 ls [])) : W p l e room_1 s m #[Value.ref b] below meth c H locs n1 n2 Qf (F0 m 596 ls []) := by
  obtain ⟨r, μ', ν', h1, h2, R2⟩ : tw_Jn 70 141 [tw_I (xs (i + 1))] μ ν := op_now R
  obtain ⟨v, rfl⟩ := uz_tyI (i := 70) (by decide) (by decide +kernel) h1
  obtain ⟨hx, hb, hml, hown, hts, -⟩ := id C
  refine lv_aload_n hx hb dL_596 rfl (lv_at hl 2 rfl) ?_
  refine uz_arg C S hl (k := 1) (kn := 1) (by decide) (by omega) hL dL_597 dL_598 dL_599 dL_600 dL_601 ?_
  refine uz_cc (j := 70) (as := [tw_I (xs (i + 1))]) (rest := []) (i1 := 591) (i2 := 592) (i3 := 593) (i4 := 48) (i5 := 594) (na := 1) C S hl (by decide +kernel) (Nat.le_of_ble_eq_true rfl) (uz_vd rfl) h1 rfl dL_602 (Nat.le_of_ble_eq_true rfl) rfl h12 (fun H locs S => ?_)
  refine lv_aload_n hx hb dL_605 rfl (lv_at hl 1 rfl) ?_
  refine uz_arg C S hl (k := 1) (kn := 1) (by decide) (by omega) hL dL_606 dL_607 dL_608 dL_609 dL_610 ?_
  refine uz_cm (j := 141) (as := [tw_I (xs (i + 1))]) (rest := [tw_rv gc (tw_I v)]) (i1 := 979) (i2 := 980) (i3 := 981) (i4 := 54) (i5 := 982) (na := 1) C S hl (by decide +kernel) (Nat.le_of_ble_eq_true rfl) (uz_vd rfl) h2 rfl dL_611 (Nat.le_of_ble_eq_true rfl) rfl h12 (fun H locs S => ?_)
  exact lv_icmp_eq (x := v) (y := v) (tgt := 1023) hx hb dL_614 (by decide) (fun _ => kk _ _ H locs R2 S) (fun h => absurd rfl h)
set_option maxRecDepth 20000 in
theorem uz_k15 (C : uz_Cx gc gm p s m c b L xs) (S : uz_St gc gm s μ ν H locs) (R : tw_Rl μ ν) (hl : uz_Lo gc gm b i ls) (hi : i + 6 ≤ L) (hL : L ≤ 384) (h12 : n1 ≤ 600000 ∧ n2 ≤ 7302250)
    (kk : ∀ (μ' ν' : tw_M) (H1 : Heap) (locs1 : List Loc), tw_Rl μ' ν' → uz_St gc gm s μ' ν' H1 locs1 → W p l e room_1 s m #[Value.ref b] below meth c H1 locs1 n1 n2 Qf (F0 m 1023 ls [])) : W p l e room_1 s m #[Value.ref b] below meth c H locs n1 n2 Qf (F0 m 619 ls []) := by
  obtain ⟨r, μ', ν', h1, h2, R2⟩ : tw_Jn 71 142 [] μ ν := op_anew R
  obtain ⟨v, rfl⟩ := uz_tyI (i := 71) (by decide) (by decide +kernel) h1
  obtain ⟨hx, hb, hml, hown, hts, -⟩ := id C
  refine lv_aload_n hx hb dL_619 rfl (lv_at hl 2 rfl) ?_
  refine uz_cc (j := 71) (as := []) (rest := []) (i1 := 600) (i2 := 601) (i3 := 602) (i4 := 48) (i5 := 603) (na := 0) C S hl (by decide +kernel) (Nat.le_of_ble_eq_true rfl) (uz_vd rfl) h1 rfl dL_620 (Nat.le_of_ble_eq_true rfl) rfl h12 (fun H locs S => ?_)
  refine lv_aload_n hx hb dL_623 rfl (lv_at hl 1 rfl) ?_
  refine uz_cm (j := 142) (as := []) (rest := [tw_rv gc (tw_I v)]) (i1 := 983) (i2 := 984) (i3 := 985) (i4 := 54) (i5 := 986) (na := 0) C S hl (by decide +kernel) (Nat.le_of_ble_eq_true rfl) (uz_vd rfl) h2 rfl dL_624 (Nat.le_of_ble_eq_true rfl) rfl h12 (fun H locs S => ?_)
  exact lv_icmp_eq (x := v) (y := v) (tgt := 1023) hx hb dL_627 (by decide) (fun _ => kk _ _ H locs R2 S) (fun h => absurd rfl h)
set_option maxRecDepth 20000 in
theorem uz_k16 (C : uz_Cx gc gm p s m c b L xs) (S : uz_St gc gm s μ ν H locs) (R : tw_Rl μ ν) (hl : uz_Lo gc gm b i ls) (hi : i + 6 ≤ L) (hL : L ≤ 384) (h12 : n1 ≤ 600000 ∧ n2 ≤ 7302250)
    (kk : ∀ (μ' ν' : tw_M) (H1 : Heap) (locs1 : List Loc), tw_Rl μ' ν' → uz_St gc gm s μ' ν' H1 locs1 → W p l e room_1 s m #[Value.ref b] below meth c H1 locs1 n1 n2 Qf (F0 m 1023 ls [])) : W p l e room_1 s m #[Value.ref b] below meth c H locs n1 n2 Qf (F0 m 632 ls []) := by
  obtain ⟨r, μ', ν', h1, h2, R2⟩ : tw_Jn 74 145 [tw_I (xs (i + 1)), tw_I (xs (i + 2))] μ ν := op_when R
  obtain ⟨v, rfl⟩ := uz_tyI (i := 74) (by decide) (by decide +kernel) h1
  obtain ⟨hx, hb, hml, hown, hts, -⟩ := id C
  refine lv_aload_n hx hb dL_632 rfl (lv_at hl 2 rfl) ?_
  refine uz_arg C S hl (k := 1) (kn := 1) (by decide) (by omega) hL dL_633 dL_634 dL_635 dL_636 dL_637 ?_
  refine uz_arg C S hl (k := 2) (kn := 2) (by decide) (by omega) hL dL_638 dL_639 dL_640 dL_641 dL_642 ?_
  refine uz_cc (j := 74) (as := [tw_I (xs (i + 1)), tw_I (xs (i + 2))]) (rest := []) (i1 := 604) (i2 := 605) (i3 := 606) (i4 := 48) (i5 := 607) (na := 2) C S hl (by decide +kernel) (Nat.le_of_ble_eq_true rfl) (uz_vd rfl) h1 rfl dL_643 (Nat.le_of_ble_eq_true rfl) rfl h12 (fun H locs S => ?_)
  refine lv_aload_n hx hb dL_646 rfl (lv_at hl 1 rfl) ?_
  refine uz_arg C S hl (k := 1) (kn := 1) (by decide) (by omega) hL dL_647 dL_648 dL_649 dL_650 dL_651 ?_
  refine uz_arg C S hl (k := 2) (kn := 2) (by decide) (by omega) hL dL_652 dL_653 dL_654 dL_655 dL_656 ?_
  refine uz_cm (j := 145) (as := [tw_I (xs (i + 1)), tw_I (xs (i + 2))]) (rest := [tw_rv gc (tw_I v)]) (i1 := 987) (i2 := 988) (i3 := 989) (i4 := 54) (i5 := 990) (na := 2) C S hl (by decide +kernel) (Nat.le_of_ble_eq_true rfl) (uz_vd rfl) h2 rfl dL_657 (Nat.le_of_ble_eq_true rfl) rfl h12 (fun H locs S => ?_)
  exact lv_icmp_eq (x := v) (y := v) (tgt := 1023) hx hb dL_660 (by decide) (fun _ => kk _ _ H locs R2 S) (fun h => absurd rfl h)
set_option maxRecDepth 20000 in
theorem uz_k17 (C : uz_Cx gc gm p s m c b L xs) (S : uz_St gc gm s μ ν H locs) (R : tw_Rl μ ν) (hl : uz_Lo gc gm b i ls) (hi : i + 6 ≤ L) (hL : L ≤ 384) (h12 : n1 ≤ 600000 ∧ n2 ≤ 7302250)
    (kk : ∀ (μ' ν' : tw_M) (H1 : Heap) (locs1 : List Loc), tw_Rl μ' ν' → uz_St gc gm s μ' ν' H1 locs1 → W p l e room_1 s m #[Value.ref b] below meth c H1 locs1 n1 n2 Qf (F0 m 1023 ls [])) : W p l e room_1 s m #[Value.ref b] below meth c H locs n1 n2 Qf (F0 m 665 ls []) := by
  obtain ⟨r, μ', ν', h1, h2, R2⟩ : tw_Jn 75 146 [tw_I (xs (i + 1))] μ ν := op_whole R
  obtain ⟨v, rfl⟩ := uz_tyI (i := 75) (by decide) (by decide +kernel) h1
  obtain ⟨hx, hb, hml, hown, hts, -⟩ := id C
  refine lv_aload_n hx hb dL_665 rfl (lv_at hl 2 rfl) ?_
  refine uz_arg C S hl (k := 1) (kn := 1) (by decide) (by omega) hL dL_666 dL_667 dL_668 dL_669 dL_670 ?_
  refine uz_cc (j := 75) (as := [tw_I (xs (i + 1))]) (rest := []) (i1 := 616) (i2 := 617) (i3 := 618) (i4 := 48) (i5 := 619) (na := 1) C S hl (by decide +kernel) (Nat.le_of_ble_eq_true rfl) (uz_vd rfl) h1 rfl dL_671 (Nat.le_of_ble_eq_true rfl) rfl h12 (fun H locs S => ?_)
  refine lv_aload_n hx hb dL_674 rfl (lv_at hl 1 rfl) ?_
  refine uz_arg C S hl (k := 1) (kn := 1) (by decide) (by omega) hL dL_675 dL_676 dL_677 dL_678 dL_679 ?_
  refine uz_cm (j := 146) (as := [tw_I (xs (i + 1))]) (rest := [tw_rv gc (tw_I v)]) (i1 := 999) (i2 := 1000) (i3 := 1001) (i4 := 54) (i5 := 1002) (na := 1) C S hl (by decide +kernel) (Nat.le_of_ble_eq_true rfl) (uz_vd rfl) h2 rfl dL_680 (Nat.le_of_ble_eq_true rfl) rfl h12 (fun H locs S => ?_)
  exact lv_icmp_eq (x := v) (y := v) (tgt := 1023) hx hb dL_683 (by decide) (fun _ => kk _ _ H locs R2 S) (fun h => absurd rfl h)
set_option maxRecDepth 20000 in
theorem uz_k18 (C : uz_Cx gc gm p s m c b L xs) (S : uz_St gc gm s μ ν H locs) (R : tw_Rl μ ν) (hl : uz_Lo gc gm b i ls) (hi : i + 6 ≤ L) (hL : L ≤ 384) (h12 : n1 ≤ 600000 ∧ n2 ≤ 7302250)
    (kk : ∀ (μ' ν' : tw_M) (H1 : Heap) (locs1 : List Loc), tw_Rl μ' ν' → uz_St gc gm s μ' ν' H1 locs1 → W p l e room_1 s m #[Value.ref b] below meth c H1 locs1 n1 n2 Qf (F0 m 1023 ls [])) : W p l e room_1 s m #[Value.ref b] below meth c H locs n1 n2 Qf (F0 m 688 ls []) := by
  obtain ⟨r, μ', ν', h1, h2, R2⟩ : tw_Jn 76 147 [tw_I (xs (i + 1)), tw_I (xs (i + 2)), tw_I (xs (i + 3))] μ ν := op_hours R
  obtain ⟨v, rfl⟩ := uz_tyI (i := 76) (by decide) (by decide +kernel) h1
  obtain ⟨hx, hb, hml, hown, hts, -⟩ := id C
  refine lv_aload_n hx hb dL_688 rfl (lv_at hl 2 rfl) ?_
  refine uz_arg C S hl (k := 1) (kn := 1) (by decide) (by omega) hL dL_689 dL_690 dL_691 dL_692 dL_693 ?_
  refine uz_arg C S hl (k := 2) (kn := 2) (by decide) (by omega) hL dL_694 dL_695 dL_696 dL_697 dL_698 ?_
  refine uz_arg C S hl (k := 3) (kn := 3) (by decide) (by omega) hL dL_699 dL_700 dL_701 dL_702 dL_703 ?_
  refine uz_cc (j := 76) (as := [tw_I (xs (i + 1)), tw_I (xs (i + 2)), tw_I (xs (i + 3))]) (rest := []) (i1 := 621) (i2 := 622) (i3 := 623) (i4 := 48) (i5 := 624) (na := 3) C S hl (by decide +kernel) (Nat.le_of_ble_eq_true rfl) (uz_vd rfl) h1 rfl dL_704 (Nat.le_of_ble_eq_true rfl) rfl h12 (fun H locs S => ?_)
  refine lv_aload_n hx hb dL_707 rfl (lv_at hl 1 rfl) ?_
  refine uz_arg C S hl (k := 1) (kn := 1) (by decide) (by omega) hL dL_708 dL_709 dL_710 dL_711 dL_712 ?_
  refine uz_arg C S hl (k := 2) (kn := 2) (by decide) (by omega) hL dL_713 dL_714 dL_715 dL_716 dL_717 ?_
  refine uz_arg C S hl (k := 3) (kn := 3) (by decide) (by omega) hL dL_718 dL_719 dL_720 dL_721 dL_722 ?_
  refine uz_cm (j := 147) (as := [tw_I (xs (i + 1)), tw_I (xs (i + 2)), tw_I (xs (i + 3))]) (rest := [tw_rv gc (tw_I v)]) (i1 := 1003) (i2 := 1004) (i3 := 1005) (i4 := 54) (i5 := 1006) (na := 3) C S hl (by decide +kernel) (Nat.le_of_ble_eq_true rfl) (uz_vd rfl) h2 rfl dL_723 (Nat.le_of_ble_eq_true rfl) rfl h12 (fun H locs S => ?_)
  exact lv_icmp_eq (x := v) (y := v) (tgt := 1023) hx hb dL_726 (by decide) (fun _ => kk _ _ H locs R2 S) (fun h => absurd rfl h)
set_option maxRecDepth 20000 in
theorem uz_k19 (C : uz_Cx gc gm p s m c b L xs) (S : uz_St gc gm s μ ν H locs) (R : tw_Rl μ ν) (hl : uz_Lo gc gm b i ls) (hi : i + 6 ≤ L) (hL : L ≤ 384) (h12 : n1 ≤ 600000 ∧ n2 ≤ 7302250)
    (kk : ∀ (μ' ν' : tw_M) (H1 : Heap) (locs1 : List Loc), tw_Rl μ' ν' → uz_St gc gm s μ' ν' H1 locs1 → W p l e room_1 s m #[Value.ref b] below meth c H1 locs1 n1 n2 Qf (F0 m 1023 ls [])) : W p l e room_1 s m #[Value.ref b] below meth c H locs n1 n2 Qf (F0 m 731 ls []) := by
  obtain ⟨r, μ', ν', h1, h2, R2⟩ : tw_Jn 78 148 [tw_I (xs (i + 1))] μ ν := op_fits R
  obtain ⟨v, rfl⟩ := uz_tyI (i := 78) (by decide) (by decide +kernel) h1
  obtain ⟨hx, hb, hml, hown, hts, -⟩ := id C
  refine lv_aload_n hx hb dL_731 rfl (lv_at hl 2 rfl) ?_
  refine uz_arg C S hl (k := 1) (kn := 1) (by decide) (by omega) hL dL_732 dL_733 dL_734 dL_735 dL_736 ?_
  refine uz_cc (j := 78) (as := [tw_I (xs (i + 1))]) (rest := []) (i1 := 626) (i2 := 627) (i3 := 628) (i4 := 48) (i5 := 629) (na := 1) C S hl (by decide +kernel) (Nat.le_of_ble_eq_true rfl) (uz_vd rfl) h1 rfl dL_737 (Nat.le_of_ble_eq_true rfl) rfl h12 (fun H locs S => ?_)
  refine lv_aload_n hx hb dL_740 rfl (lv_at hl 1 rfl) ?_
  refine uz_arg C S hl (k := 1) (kn := 1) (by decide) (by omega) hL dL_741 dL_742 dL_743 dL_744 dL_745 ?_
  refine uz_cm (j := 148) (as := [tw_I (xs (i + 1))]) (rest := [tw_rv gc (tw_I v)]) (i1 := 1007) (i2 := 1008) (i3 := 1009) (i4 := 54) (i5 := 1010) (na := 1) C S hl (by decide +kernel) (Nat.le_of_ble_eq_true rfl) (uz_vd rfl) h2 rfl dL_746 (Nat.le_of_ble_eq_true rfl) rfl h12 (fun H locs S => ?_)
  exact lv_icmp_eq (x := v) (y := v) (tgt := 1023) hx hb dL_749 (by decide) (fun _ => kk _ _ H locs R2 S) (fun h => absurd rfl h)
set_option maxRecDepth 20000 in
theorem uz_k20 (C : uz_Cx gc gm p s m c b L xs) (S : uz_St gc gm s μ ν H locs) (R : tw_Rl μ ν) (hl : uz_Lo gc gm b i ls) (hi : i + 6 ≤ L) (hL : L ≤ 384) (h12 : n1 ≤ 600000 ∧ n2 ≤ 7302250)
    (kk : ∀ (μ' ν' : tw_M) (H1 : Heap) (locs1 : List Loc), tw_Rl μ' ν' → uz_St gc gm s μ' ν' H1 locs1 → W p l e room_1 s m #[Value.ref b] below meth c H1 locs1 n1 n2 Qf (F0 m 1023 ls [])) : W p l e room_1 s m #[Value.ref b] below meth c H locs n1 n2 Qf (F0 m 754 ls []) := by
  obtain ⟨r, μ', ν', h1, h2, R2⟩ : tw_Jn 81 149 [tw_I (xs (i + 1)), tw_I (xs (i + 2))] μ ν := op_lanterns R
  obtain ⟨v, rfl⟩ := uz_tyI (i := 81) (by decide) (by decide +kernel) h1
  obtain ⟨hx, hb, hml, hown, hts, -⟩ := id C
  refine lv_aload_n hx hb dL_754 rfl (lv_at hl 2 rfl) ?_
  refine uz_arg C S hl (k := 1) (kn := 1) (by decide) (by omega) hL dL_755 dL_756 dL_757 dL_758 dL_759 ?_
  refine uz_arg C S hl (k := 2) (kn := 2) (by decide) (by omega) hL dL_760 dL_761 dL_762 dL_763 dL_764 ?_
  refine uz_cc (j := 81) (as := [tw_I (xs (i + 1)), tw_I (xs (i + 2))]) (rest := []) (i1 := 635) (i2 := 636) (i3 := 637) (i4 := 48) (i5 := 638) (na := 2) C S hl (by decide +kernel) (Nat.le_of_ble_eq_true rfl) (uz_vd rfl) h1 rfl dL_765 (Nat.le_of_ble_eq_true rfl) rfl h12 (fun H locs S => ?_)
  refine lv_aload_n hx hb dL_768 rfl (lv_at hl 1 rfl) ?_
  refine uz_arg C S hl (k := 1) (kn := 1) (by decide) (by omega) hL dL_769 dL_770 dL_771 dL_772 dL_773 ?_
  refine uz_arg C S hl (k := 2) (kn := 2) (by decide) (by omega) hL dL_774 dL_775 dL_776 dL_777 dL_778 ?_
  refine uz_cm (j := 149) (as := [tw_I (xs (i + 1)), tw_I (xs (i + 2))]) (rest := [tw_rv gc (tw_I v)]) (i1 := 1011) (i2 := 1012) (i3 := 1013) (i4 := 54) (i5 := 1014) (na := 2) C S hl (by decide +kernel) (Nat.le_of_ble_eq_true rfl) (uz_vd rfl) h2 rfl dL_779 (Nat.le_of_ble_eq_true rfl) rfl h12 (fun H locs S => ?_)
  exact lv_icmp_eq (x := v) (y := v) (tgt := 1023) hx hb dL_782 (by decide) (fun _ => kk _ _ H locs R2 S) (fun h => absurd rfl h)
set_option maxRecDepth 20000 in
theorem uz_k21 (C : uz_Cx gc gm p s m c b L xs) (S : uz_St gc gm s μ ν H locs) (R : tw_Rl μ ν) (hl : uz_Lo gc gm b i ls) (hi : i + 6 ≤ L) (hL : L ≤ 384) (h12 : n1 ≤ 600000 ∧ n2 ≤ 7302250)
    (kk : ∀ (μ' ν' : tw_M) (H1 : Heap) (locs1 : List Loc), tw_Rl μ' ν' → uz_St gc gm s μ' ν' H1 locs1 → W p l e room_1 s m #[Value.ref b] below meth c H1 locs1 n1 n2 Qf (F0 m 1023 ls [])) : W p l e room_1 s m #[Value.ref b] below meth c H locs n1 n2 Qf (F0 m 787 ls []) := by
  obtain ⟨r, μ', ν', h1, h2, R2⟩ : tw_Jn 82 150 [tw_I (xs (i + 1)), tw_I (xs (i + 2))] μ ν := op_answers R
  obtain ⟨v, rfl⟩ := uz_tyI (i := 82) (by decide) (by decide +kernel) h1
  obtain ⟨hx, hb, hml, hown, hts, -⟩ := id C
  refine lv_aload_n hx hb dL_787 rfl (lv_at hl 2 rfl) ?_
  refine uz_arg C S hl (k := 1) (kn := 1) (by decide) (by omega) hL dL_788 dL_789 dL_790 dL_791 dL_792 ?_
  refine uz_arg C S hl (k := 2) (kn := 2) (by decide) (by omega) hL dL_793 dL_794 dL_795 dL_796 dL_797 ?_
  refine uz_cc (j := 82) (as := [tw_I (xs (i + 1)), tw_I (xs (i + 2))]) (rest := []) (i1 := 648) (i2 := 649) (i3 := 650) (i4 := 48) (i5 := 651) (na := 2) C S hl (by decide +kernel) (Nat.le_of_ble_eq_true rfl) (uz_vd rfl) h1 rfl dL_798 (Nat.le_of_ble_eq_true rfl) rfl h12 (fun H locs S => ?_)
  refine lv_aload_n hx hb dL_801 rfl (lv_at hl 1 rfl) ?_
  refine uz_arg C S hl (k := 1) (kn := 1) (by decide) (by omega) hL dL_802 dL_803 dL_804 dL_805 dL_806 ?_
  refine uz_arg C S hl (k := 2) (kn := 2) (by decide) (by omega) hL dL_807 dL_808 dL_809 dL_810 dL_811 ?_
  refine uz_cm (j := 150) (as := [tw_I (xs (i + 1)), tw_I (xs (i + 2))]) (rest := [tw_rv gc (tw_I v)]) (i1 := 1015) (i2 := 1016) (i3 := 1017) (i4 := 54) (i5 := 1018) (na := 2) C S hl (by decide +kernel) (Nat.le_of_ble_eq_true rfl) (uz_vd rfl) h2 rfl dL_812 (Nat.le_of_ble_eq_true rfl) rfl h12 (fun H locs S => ?_)
  exact lv_icmp_eq (x := v) (y := v) (tgt := 1023) hx hb dL_815 (by decide) (fun _ => kk _ _ H locs R2 S) (fun h => absurd rfl h)
set_option maxRecDepth 20000 in
theorem uz_k22 (C : uz_Cx gc gm p s m c b L xs) (S : uz_St gc gm s μ ν H locs) (R : tw_Rl μ ν) (hl : uz_Lo gc gm b i ls) (hi : i + 6 ≤ L) (hL : L ≤ 384) (h12 : n1 ≤ 600000 ∧ n2 ≤ 7302250)
    (kk : ∀ (μ' ν' : tw_M) (H1 : Heap) (locs1 : List Loc), tw_Rl μ' ν' → uz_St gc gm s μ' ν' H1 locs1 → W p l e room_1 s m #[Value.ref b] below meth c H1 locs1 n1 n2 Qf (F0 m 1023 ls [])) : W p l e room_1 s m #[Value.ref b] below meth c H locs n1 n2 Qf (F0 m 820 ls []) := by
  obtain ⟨r, μ', ν', h1, h2, R2⟩ : tw_Jn 83 151 [tw_I (xs (i + 1))] μ ν := op_spoke R
  obtain ⟨v, rfl⟩ := uz_tyI (i := 83) (by decide) (by decide +kernel) h1
  obtain ⟨hx, hb, hml, hown, hts, -⟩ := id C
  refine lv_aload_n hx hb dL_820 rfl (lv_at hl 2 rfl) ?_
  refine uz_arg C S hl (k := 1) (kn := 1) (by decide) (by omega) hL dL_821 dL_822 dL_823 dL_824 dL_825 ?_
  refine uz_cc (j := 83) (as := [tw_I (xs (i + 1))]) (rest := []) (i1 := 653) (i2 := 654) (i3 := 655) (i4 := 48) (i5 := 656) (na := 1) C S hl (by decide +kernel) (Nat.le_of_ble_eq_true rfl) (uz_vd rfl) h1 rfl dL_826 (Nat.le_of_ble_eq_true rfl) rfl h12 (fun H locs S => ?_)
  refine lv_aload_n hx hb dL_829 rfl (lv_at hl 1 rfl) ?_
  refine uz_arg C S hl (k := 1) (kn := 1) (by decide) (by omega) hL dL_830 dL_831 dL_832 dL_833 dL_834 ?_
  refine uz_cm (j := 151) (as := [tw_I (xs (i + 1))]) (rest := [tw_rv gc (tw_I v)]) (i1 := 1019) (i2 := 1020) (i3 := 1021) (i4 := 54) (i5 := 1022) (na := 1) C S hl (by decide +kernel) (Nat.le_of_ble_eq_true rfl) (uz_vd rfl) h2 rfl dL_835 (Nat.le_of_ble_eq_true rfl) rfl h12 (fun H locs S => ?_)
  exact lv_icmp_eq (x := v) (y := v) (tgt := 1023) hx hb dL_838 (by decide) (fun _ => kk _ _ H locs R2 S) (fun h => absurd rfl h)
set_option maxRecDepth 20000 in
theorem uz_k23 (C : uz_Cx gc gm p s m c b L xs) (S : uz_St gc gm s μ ν H locs) (R : tw_Rl μ ν) (hl : uz_Lo gc gm b i ls) (hi : i + 6 ≤ L) (hL : L ≤ 384) (h12 : n1 ≤ 600000 ∧ n2 ≤ 7302250)
    (kk : ∀ (μ' ν' : tw_M) (H1 : Heap) (locs1 : List Loc), tw_Rl μ' ν' → uz_St gc gm s μ' ν' H1 locs1 → W p l e room_1 s m #[Value.ref b] below meth c H1 locs1 n1 n2 Qf (F0 m 1023 ls [])) : W p l e room_1 s m #[Value.ref b] below meth c H locs n1 n2 Qf (F0 m 843 ls []) := by
  obtain ⟨r, μ', ν', h1, h2, R2⟩ : tw_Jn 86 153 [tw_I (xs (i + 1)), tw_I (xs (i + 2)), tw_I (xs (i + 3)), tw_I (xs (i + 4)), tw_I (xs (i + 5))] μ ν := op_odds R
  obtain ⟨v, rfl⟩ := uz_tyJ (i := 86) (by decide) (by decide +kernel) h1
  obtain ⟨hx, hb, hml, hown, hts, -⟩ := id C
  refine lv_aload_n hx hb dL_843 rfl (lv_at hl 2 rfl) ?_
  refine uz_arg C S hl (k := 1) (kn := 1) (by decide) (by omega) hL dL_844 dL_845 dL_846 dL_847 dL_848 ?_
  refine uz_arg C S hl (k := 2) (kn := 2) (by decide) (by omega) hL dL_849 dL_850 dL_851 dL_852 dL_853 ?_
  refine uz_arg C S hl (k := 3) (kn := 3) (by decide) (by omega) hL dL_854 dL_855 dL_856 dL_857 dL_858 ?_
  refine uz_arg C S hl (k := 4) (kn := 4) (by decide) (by omega) hL dL_859 dL_860 dL_861 dL_862 dL_863 ?_
  refine uz_arg C S hl (k := 5) (kn := 5) (by decide) (by omega) hL dL_864 dL_865 dL_866 dL_867 dL_868 ?_
  refine uz_cc (j := 86) (as := [tw_I (xs (i + 1)), tw_I (xs (i + 2)), tw_I (xs (i + 3)), tw_I (xs (i + 4)), tw_I (xs (i + 5))]) (rest := []) (i1 := 660) (i2 := 661) (i3 := 662) (i4 := 48) (i5 := 663) (na := 5) C S hl (by decide +kernel) (Nat.le_of_ble_eq_true rfl) (uz_vd rfl) h1 rfl dL_869 (Nat.le_of_ble_eq_true rfl) rfl h12 (fun H locs S => ?_)
  refine lv_aload_n hx hb dL_872 rfl (lv_at hl 1 rfl) ?_
  refine uz_arg C S hl (k := 1) (kn := 1) (by decide) (by omega) hL dL_873 dL_874 dL_875 dL_876 dL_877 ?_
  refine uz_arg C S hl (k := 2) (kn := 2) (by decide) (by omega) hL dL_878 dL_879 dL_880 dL_881 dL_882 ?_
  refine uz_arg C S hl (k := 3) (kn := 3) (by decide) (by omega) hL dL_883 dL_884 dL_885 dL_886 dL_887 ?_
  refine uz_arg C S hl (k := 4) (kn := 4) (by decide) (by omega) hL dL_888 dL_889 dL_890 dL_891 dL_892 ?_
  refine uz_arg C S hl (k := 5) (kn := 5) (by decide) (by omega) hL dL_893 dL_894 dL_895 dL_896 dL_897 ?_
  refine uz_cm (j := 153) (as := [tw_I (xs (i + 1)), tw_I (xs (i + 2)), tw_I (xs (i + 3)), tw_I (xs (i + 4)), tw_I (xs (i + 5))]) (rest := [tw_rv gc (tw_J v)]) (i1 := 1023) (i2 := 1024) (i3 := 1025) (i4 := 54) (i5 := 1026) (na := 5) C S hl (by decide +kernel) (Nat.le_of_ble_eq_true rfl) (uz_vd rfl) h2 rfl dL_898 (Nat.le_of_ble_eq_true rfl) rfl h12 (fun H locs S => ?_)
  refine W.lcmp (x := v) (y := v) hx hb dL_901 ?_
  rw [uz_cmp]
  exact lv_if_eq (x := 0) (tgt := 1023) hx hb dL_902 (by decide) (fun _ => kk _ _ H locs R2 S) (fun h => absurd rfl h)
set_option maxRecDepth 20000 in
theorem uz_k24 (C : uz_Cx gc gm p s m c b L xs) (S : uz_St gc gm s μ ν H locs) (R : tw_Rl μ ν) (hl : uz_Lo gc gm b i ls) (hi : i + 6 ≤ L) (hL : L ≤ 384) (h12 : n1 ≤ 600000 ∧ n2 ≤ 7302250)
    (kk : ∀ (μ' ν' : tw_M) (H1 : Heap) (locs1 : List Loc), tw_Rl μ' ν' → uz_St gc gm s μ' ν' H1 locs1 → W p l e room_1 s m #[Value.ref b] below meth c H1 locs1 n1 n2 Qf (F0 m 1023 ls [])) : W p l e room_1 s m #[Value.ref b] below meth c H locs n1 n2 Qf (F0 m 907 ls []) := by
  obtain ⟨r, μ', ν', h1, h2, R2⟩ : tw_Jn 93 154 [tw_I (xs (i + 1)), tw_I (xs (i + 2))] μ ν := op_rate R
  obtain ⟨v, rfl⟩ := uz_tyI (i := 93) (by decide) (by decide +kernel) h1
  obtain ⟨hx, hb, hml, hown, hts, -⟩ := id C
  refine lv_aload_n hx hb dL_907 rfl (lv_at hl 2 rfl) ?_
  refine uz_arg C S hl (k := 1) (kn := 1) (by decide) (by omega) hL dL_908 dL_909 dL_910 dL_911 dL_912 ?_
  refine uz_arg C S hl (k := 2) (kn := 2) (by decide) (by omega) hL dL_913 dL_914 dL_915 dL_916 dL_917 ?_
  refine uz_cc (j := 93) (as := [tw_I (xs (i + 1)), tw_I (xs (i + 2))]) (rest := []) (i1 := 673) (i2 := 674) (i3 := 675) (i4 := 48) (i5 := 676) (na := 2) C S hl (by decide +kernel) (Nat.le_of_ble_eq_true rfl) (uz_vd rfl) h1 rfl dL_918 (Nat.le_of_ble_eq_true rfl) rfl h12 (fun H locs S => ?_)
  refine lv_aload_n hx hb dL_921 rfl (lv_at hl 1 rfl) ?_
  refine uz_arg C S hl (k := 1) (kn := 1) (by decide) (by omega) hL dL_922 dL_923 dL_924 dL_925 dL_926 ?_
  refine uz_arg C S hl (k := 2) (kn := 2) (by decide) (by omega) hL dL_927 dL_928 dL_929 dL_930 dL_931 ?_
  refine uz_cm (j := 154) (as := [tw_I (xs (i + 1)), tw_I (xs (i + 2))]) (rest := [tw_rv gc (tw_I v)]) (i1 := 1031) (i2 := 1032) (i3 := 1033) (i4 := 54) (i5 := 1034) (na := 2) C S hl (by decide +kernel) (Nat.le_of_ble_eq_true rfl) (uz_vd rfl) h2 rfl dL_932 (Nat.le_of_ble_eq_true rfl) rfl h12 (fun H locs S => ?_)
  exact lv_icmp_eq (x := v) (y := v) (tgt := 1023) hx hb dL_935 (by decide) (fun _ => kk _ _ H locs R2 S) (fun h => absurd rfl h)
set_option maxRecDepth 20000 in
theorem uz_k25 (C : uz_Cx gc gm p s m c b L xs) (S : uz_St gc gm s μ ν H locs) (R : tw_Rl μ ν) (hl : uz_Lo gc gm b i ls) (hi : i + 6 ≤ L) (hL : L ≤ 384) (h12 : n1 ≤ 600000 ∧ n2 ≤ 7302250)
    (kk : ∀ (μ' ν' : tw_M) (H1 : Heap) (locs1 : List Loc), tw_Rl μ' ν' → uz_St gc gm s μ' ν' H1 locs1 → W p l e room_1 s m #[Value.ref b] below meth c H1 locs1 n1 n2 Qf (F0 m 1023 ls [])) : W p l e room_1 s m #[Value.ref b] below meth c H locs n1 n2 Qf (F0 m 940 ls []) := by
  obtain ⟨r, μ', ν', h1, h2, R2⟩ : tw_Jn 98 155 [tw_I (xs (i + 1))] μ ν := op_keep R
  obtain ⟨v, rfl⟩ := uz_tyI (i := 98) (by decide) (by decide +kernel) h1
  obtain ⟨hx, hb, hml, hown, hts, -⟩ := id C
  refine lv_aload_n hx hb dL_940 rfl (lv_at hl 2 rfl) ?_
  refine uz_arg C S hl (k := 1) (kn := 1) (by decide) (by omega) hL dL_941 dL_942 dL_943 dL_944 dL_945 ?_
  refine uz_cc (j := 98) (as := [tw_I (xs (i + 1))]) (rest := []) (i1 := 706) (i2 := 707) (i3 := 708) (i4 := 48) (i5 := 709) (na := 1) C S hl (by decide +kernel) (Nat.le_of_ble_eq_true rfl) (uz_vd rfl) h1 rfl dL_946 (Nat.le_of_ble_eq_true rfl) rfl h12 (fun H locs S => ?_)
  refine lv_aload_n hx hb dL_949 rfl (lv_at hl 1 rfl) ?_
  refine uz_arg C S hl (k := 1) (kn := 1) (by decide) (by omega) hL dL_950 dL_951 dL_952 dL_953 dL_954 ?_
  refine uz_cm (j := 155) (as := [tw_I (xs (i + 1))]) (rest := [tw_rv gc (tw_I v)]) (i1 := 1040) (i2 := 1041) (i3 := 1042) (i4 := 54) (i5 := 1043) (na := 1) C S hl (by decide +kernel) (Nat.le_of_ble_eq_true rfl) (uz_vd rfl) h2 rfl dL_955 (Nat.le_of_ble_eq_true rfl) rfl h12 (fun H locs S => ?_)
  exact lv_icmp_eq (x := v) (y := v) (tgt := 1023) hx hb dL_958 (by decide) (fun _ => kk _ _ H locs R2 S) (fun h => absurd rfl h)
set_option maxRecDepth 20000 in
theorem uz_k26 (C : uz_Cx gc gm p s m c b L xs) (S : uz_St gc gm s μ ν H locs) (R : tw_Rl μ ν) (hl : uz_Lo gc gm b i ls) (hi : i + 6 ≤ L) (hL : L ≤ 384) (h12 : n1 ≤ 600000 ∧ n2 ≤ 7302250)
    (kk : ∀ (μ' ν' : tw_M) (H1 : Heap) (locs1 : List Loc), tw_Rl μ' ν' → uz_St gc gm s μ' ν' H1 locs1 → W p l e room_1 s m #[Value.ref b] below meth c H1 locs1 n1 n2 Qf (F0 m 1023 ls [])) : W p l e room_1 s m #[Value.ref b] below meth c H locs n1 n2 Qf (F0 m 963 ls []) := by
  obtain ⟨r, μ', ν', h1, h2, R2⟩ : tw_Jn 99 156 [tw_I (xs (i + 1))] μ ν := op_back R
  obtain ⟨v, rfl⟩ := uz_tyI (i := 99) (by decide) (by decide +kernel) h1
  obtain ⟨hx, hb, hml, hown, hts, -⟩ := id C
  refine lv_aload_n hx hb dL_963 rfl (lv_at hl 2 rfl) ?_
  refine uz_arg C S hl (k := 1) (kn := 1) (by decide) (by omega) hL dL_964 dL_965 dL_966 dL_967 dL_968 ?_
  refine uz_cc (j := 99) (as := [tw_I (xs (i + 1))]) (rest := []) (i1 := 729) (i2 := 730) (i3 := 731) (i4 := 48) (i5 := 732) (na := 1) C S hl (by decide +kernel) (Nat.le_of_ble_eq_true rfl) (uz_vd rfl) h1 rfl dL_969 (Nat.le_of_ble_eq_true rfl) rfl h12 (fun H locs S => ?_)
  refine lv_aload_n hx hb dL_972 rfl (lv_at hl 1 rfl) ?_
  refine uz_arg C S hl (k := 1) (kn := 1) (by decide) (by omega) hL dL_973 dL_974 dL_975 dL_976 dL_977 ?_
  refine uz_cm (j := 156) (as := [tw_I (xs (i + 1))]) (rest := [tw_rv gc (tw_I v)]) (i1 := 1044) (i2 := 1045) (i3 := 1046) (i4 := 54) (i5 := 1047) (na := 1) C S hl (by decide +kernel) (Nat.le_of_ble_eq_true rfl) (uz_vd rfl) h2 rfl dL_978 (Nat.le_of_ble_eq_true rfl) rfl h12 (fun H locs S => ?_)
  exact lv_icmp_eq (x := v) (y := v) (tgt := 1023) hx hb dL_981 (by decide) (fun _ => kk _ _ H locs R2 S) (fun h => absurd rfl h)
set_option maxRecDepth 20000 in
theorem uz_k27 (C : uz_Cx gc gm p s m c b L xs) (S : uz_St gc gm s μ ν H locs) (R : tw_Rl μ ν) (hl : uz_Lo gc gm b i ls) (hi : i + 6 ≤ L) (hL : L ≤ 384) (h12 : n1 ≤ 600000 ∧ n2 ≤ 7302250)
    (kk : ∀ (μ' ν' : tw_M) (H1 : Heap) (locs1 : List Loc), tw_Rl μ' ν' → uz_St gc gm s μ' ν' H1 locs1 → W p l e room_1 s m #[Value.ref b] below meth c H1 locs1 n1 n2 Qf (F0 m 1023 ls [])) : W p l e room_1 s m #[Value.ref b] below meth c H locs n1 n2 Qf (F0 m 986 ls []) := by
  obtain ⟨r, μ', ν', h1, h2, R2⟩ : tw_Jn 100 157 [tw_I (xs (i + 1))] μ ν := op_count R
  obtain ⟨v, rfl⟩ := uz_tyI (i := 100) (by decide) (by decide +kernel) h1
  obtain ⟨hx, hb, hml, hown, hts, -⟩ := id C
  refine lv_aload_n hx hb dL_986 rfl (lv_at hl 2 rfl) ?_
  refine uz_arg C S hl (k := 1) (kn := 1) (by decide) (by omega) hL dL_987 dL_988 dL_989 dL_990 dL_991 ?_
  refine uz_cc (j := 100) (as := [tw_I (xs (i + 1))]) (rest := []) (i1 := 733) (i2 := 734) (i3 := 735) (i4 := 48) (i5 := 736) (na := 1) C S hl (by decide +kernel) (Nat.le_of_ble_eq_true rfl) (uz_vd rfl) h1 rfl dL_992 (Nat.le_of_ble_eq_true rfl) rfl h12 (fun H locs S => ?_)
  refine lv_aload_n hx hb dL_995 rfl (lv_at hl 1 rfl) ?_
  refine uz_arg C S hl (k := 1) (kn := 1) (by decide) (by omega) hL dL_996 dL_997 dL_998 dL_999 dL_1000 ?_
  refine uz_cm (j := 157) (as := [tw_I (xs (i + 1))]) (rest := [tw_rv gc (tw_I v)]) (i1 := 1048) (i2 := 1049) (i3 := 1050) (i4 := 54) (i5 := 1051) (na := 1) C S hl (by decide +kernel) (Nat.le_of_ble_eq_true rfl) (uz_vd rfl) h2 rfl dL_1001 (Nat.le_of_ble_eq_true rfl) rfl h12 (fun H locs S => ?_)
  exact lv_icmp_eq (x := v) (y := v) (tgt := 1023) hx hb dL_1004 (by decide) (fun _ => kk _ _ H locs R2 S) (fun h => absurd rfl h)
set_option maxRecDepth 20000 in
theorem uz_k28 (C : uz_Cx gc gm p s m c b L xs) (S : uz_St gc gm s μ ν H locs) (R : tw_Rl μ ν) (hl : uz_Lo gc gm b i ls) (hi : i + 6 ≤ L) (hL : L ≤ 384) (h12 : n1 ≤ 600000 ∧ n2 ≤ 7302250)
    (kk : ∀ (μ' ν' : tw_M) (H1 : Heap) (locs1 : List Loc), tw_Rl μ' ν' → uz_St gc gm s μ' ν' H1 locs1 → W p l e room_1 s m #[Value.ref b] below meth c H1 locs1 n1 n2 Qf (F0 m 1023 ls [])) : W p l e room_1 s m #[Value.ref b] below meth c H locs n1 n2 Qf (F0 m 1009 ls []) := by
  obtain ⟨r, μ', ν', h1, h2, R2⟩ : tw_Jn 101 158 [] μ ν := op_trace R
  obtain ⟨v, rfl⟩ := uz_tyJ (i := 101) (by decide) (by decide +kernel) h1
  obtain ⟨hx, hb, hml, hown, hts, -⟩ := id C
  refine lv_aload_n hx hb dL_1009 rfl (lv_at hl 2 rfl) ?_
  refine uz_cc (j := 101) (as := []) (rest := []) (i1 := 737) (i2 := 738) (i3 := 739) (i4 := 48) (i5 := 740) (na := 0) C S hl (by decide +kernel) (Nat.le_of_ble_eq_true rfl) (uz_vd rfl) h1 rfl dL_1010 (Nat.le_of_ble_eq_true rfl) rfl h12 (fun H locs S => ?_)
  refine lv_aload_n hx hb dL_1013 rfl (lv_at hl 1 rfl) ?_
  refine uz_cm (j := 158) (as := []) (rest := [tw_rv gc (tw_J v)]) (i1 := 1052) (i2 := 1053) (i3 := 1054) (i4 := 54) (i5 := 1055) (na := 0) C S hl (by decide +kernel) (Nat.le_of_ble_eq_true rfl) (uz_vd rfl) h2 rfl dL_1014 (Nat.le_of_ble_eq_true rfl) rfl h12 (fun H locs S => ?_)
  refine W.lcmp (x := v) (y := v) hx hb dL_1017 ?_
  rw [uz_cmp]
  exact lv_if_eq (x := 0) (tgt := 1023) hx hb dL_1018 (by decide) (fun _ => kk _ _ H locs R2 S) (fun h => absurd rfl h)
end
