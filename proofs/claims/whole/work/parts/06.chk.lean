def tw_big : List Cond := lw_tbl.filter goodWord
/-- the word w stands at place i, and is one that a callee may ask for -/
def tw_g (i : Nat) (w : Cond) : Bool := (match lw_tbl[i]? with
  | some v => decide (v = w)
  | none => false) && goodWord w
theorem tw_g_in {i : Nat} {w : Cond} (h : tw_g i w = true) : w ∈ tw_big := by
  unfold tw_g at h
  rw [Bool.and_eq_true] at h
  obtain ⟨h1, h2⟩ := h
  split at h1
  · rename_i v hv
    have e : v = w := of_decide_eq_true h1
    subst e
    exact List.mem_filter.mpr ⟨List.mem_of_getElem? hv, h2⟩
  · cases h1
def tw_co (a : Nat) : Jvm.ClassFile.Cond := match a with
  | 0 => .eq
  | 1 => .ne
  | 2 => .lt
  | 3 => .ge
  | 4 => .gt
  | _ => .le
/-- the machine's own instruction -/
def tw_ins (pc : Nat) (o : tw_Op) : Instr :=
  match o with
  | (n, _, a, b, _, _, t, sw) =>
  match n with
  | 0 => .iconst b
  | 1 => .bipush b
  | 2 => .sipush b
  | 3 => .ldc a
  | 4 => .lconst (Fin.ofNat 2 a)
  | 5 => .ldc2_w a
  | 6 => .aconst_null
  | 7 => .iload_n (Fin.ofNat 4 a)
  | 8 => .iload a
  | 9 => .lload_n (Fin.ofNat 4 a)
  | 10 => .lload a
  | 11 => .aload_n (Fin.ofNat 4 a)
  | 12 => .aload a
  | 13 => .istore_n (Fin.ofNat 4 a)
  | 14 => .istore a
  | 15 => .lstore_n (Fin.ofNat 4 a)
  | 16 => .lstore a
  | 17 => .astore_n (Fin.ofNat 4 a)
  | 18 => .astore a
  | 19 => .iinc a b
  | 20 => .iadd
  | 21 => .isub
  | 22 => .imul
  | 23 => .idiv
  | 24 => .irem
  | 25 => .iand
  | 26 => .ior
  | 28 => .ishl
  | 29 => .ishr
  | 30 => .ineg
  | 31 => .ladd
  | 32 => .lsub
  | 33 => .lmul
  | 34 => .ldiv
  | 35 => .lrem
  | 36 => .land
  | 37 => .lor
  | 38 => .lshl
  | 39 => .lshr
  | 40 => .lcmp
  | 41 => .i2l
  | 42 => .l2i
  | 43 => .i2c
  | 44 => .dup
  | 45 => .dup2
  | 46 => .pop
  | 47 => .ifCond (tw_co a) ((tw_t t 0 : Int) - pc)
  | 48 => .if_icmp (tw_co a) ((tw_t t 0 : Int) - pc)
  | 49 => .ifnull ((tw_t t 0 : Int) - pc)
  | 50 => .ifnonnull ((tw_t t 0 : Int) - pc)
  | 51 => .goto ((tw_t t 0 : Int) - pc)
  | 52 => .tableswitch ((tw_t t 0 : Int) - pc) 0 ((sw.length : Int) - 1) (sw.map (fun q => (q.2 : Int) - pc)).toArray
  | 53 => .lookupswitch ((tw_t t 0 : Int) - pc) (sw.map (fun q => (q.1.toInt, (q.2 : Int) - pc))).toArray
  | 54 | 70 | 71 => .getfield a
  | 55 => .putfield a
  | 56 => .iaload
  | 57 => .iastore
  | 58 | 72 => .baload
  | 59 => .bastore
  | 60 => .aaload
  | 61 | 73 => .arraylength
  | 62 => .getstatic a
  | 63 => .ldc a
  | 64 => .invokevirtual a
  | 65 | 74 | 76 | 77 | 78 => .invokestatic a
  | 66 | 75 => .ireturn
  | 67 => .lreturn
  | 68 => .areturn
  | 69 => .return_
  | _ => .nop
def tw_cl (k : Nat) : vw_C := vwCl.getD k ("", TX0, 0)
def tw_mh (y : MethodName) : Bool := decide (y.cls ≠ "java/lang/invoke/MethodHandle") && decide (y.cls ≠ "java/lang/invoke/VarHandle")
def tw_np (y : MethodName) (n : Nat) : Bool := decide ((parseMethodDescriptor y.desc).map (fun d => d.parameters.length) = some n)
/-- room for a callee -/
def tw_rmk (i j : Nat) : Bool := decide (tw_fr j + 1 ≤ tw_fr i) && decide (8 + (tw_ml j + 11) + tw_lo j ≤ tw_lo i)
def tw_kdk (k : Nat) (C : String) : Bool := if k < 7 then decide ((tw_cl k).1 = C) else decide (k = 8) && decide (C = "java/lang/String")
/-- the names of the String constants, by their places -/
def tw_stT : List (Nat × String) := [(47, "place"), (56, "frost"), (62, "warm"), (64, "cold"), (69, "sound"), (71, "person")]
def tw_len (n : Nat) : Nat := match n with
  | 0 => 1
  | 1 => 2
  | 2 => 3
  | 3 => 2
  | 4 => 1
  | 5 => 3
  | 6 | 7 | 9 | 11 | 13 | 15 | 17 => 1
  | 8 | 10 | 12 | 14 | 16 | 18 => 2
  | 19 | 47 | 48 | 49 | 50 | 51 | 54 | 55 | 62 | 64 | 65 | 70 | 71 | 74 | 76 | 77 | 78 => 3
  | 63 => 2
  | _ => 1
/-- what must hold of an operation, at a place of a method -/
def tw_opk (i pc : Nat) (o : tw_Op) : Bool :=
  (match o with
  | (n, w, a, b, c, d, t, sw) =>
  (match n with
  | 52 => true
  | 53 => decide (sw.length = 2 ∧ (sw.getD 0 (0, 0)).1 = 0 ∧ (sw.getD 1 (0, 0)).1 = 1)
  | _ => decide (w = tw_len n)) &&
  (match n with
  | 0 => decide (Int32.ofInt b = c)
  | 1 => decide ((Int8.ofInt b).toInt32 = c)
  | 2 => decide ((Int16.ofInt b).toInt32 = c)
  | 3 => tw_g (tw_t t 0) (.constant (tw_nm i).cls a c)
  | 4 => decide (a < 2) && decide (Int64.ofNat a = d)
  | 5 => tw_g (tw_t t 0) (.constantLong (tw_nm i).cls a d)
  | 7 | 9 | 11 | 13 | 15 | 17 => decide (a < 4)
  | 19 => decide (Int32.ofInt b = c)
  | 47 | 48 => decide (a < 6)
  | 52 => decide (sw.map (fun q => q.1) = (List.range sw.length).map nI) && decide (sw.length < 100)
  | 54 | 55 => decide (tw_t t 0 < 7) && decide (tw_t t 1 < tw_nf (tw_t t 0)) && tw_g (tw_t t 2) (.fieldLink (tw_nm i).cls a (tw_cl (tw_t t 0)).1 ((tw_cl (tw_t t 0)).2.1 (tw_t t 1)).2.1 ((tw_cl (tw_t t 0)).2.1 (tw_t t 1)).2.2.1)
  | 62 => decide (tw_t t 0 < 2) && (match tw_t t 0 with
    | 0 => tw_g (tw_t t 1) (.fieldLink (tw_nm i).cls a "java/lang/String" "COMPACT_STRINGS" "Z")
    | _ => tw_g (tw_t t 1) (.fieldLink (tw_nm i).cls a "jdk/internal/util/Preconditions" "SIOOBE_FORMATTER" "Ljava/util/function/BiFunction;"))
  | 63 => decide ((tw_nm i).cls = "ThawWords$Text") && decide (tw_t t 0 < 6) && decide ((tw_stT.getD (tw_t t 0) (0, "")).1 = a)
  | 64 => decide (tw_t t 0 < tw_tab.length) && tw_g (tw_t t 3) (.methodLink (tw_nm i).cls a (tw_nm (tw_t t 0))) && tw_g (tw_t t 4) (.instanceMethod (tw_nm (tw_t t 0))) && tw_g (tw_t t 5) (.selects (tw_nm (tw_t t 0)).cls (tw_nm (tw_t t 0)) (tw_nm (tw_t t 0))) && tw_g (tw_t t 6) (.initialized (tw_nm (tw_t t 0)).cls) && tw_g (tw_t t 7) (.code (tw_nm (tw_t t 0)) (tw_by (tw_t t 0)) (tw_ml (tw_t t 0)) (tw_re (tw_t t 0))) && tw_mh (tw_nm (tw_t t 0)) && tw_np (tw_nm (tw_t t 0)) (tw_t t 1 - 1) && decide (0 < tw_t t 1) && tw_rmk i (tw_t t 0) && tw_kdk (tw_t t 2) (tw_nm (tw_t t 0)).cls
  | 65 => decide (tw_t t 0 < tw_tab.length) && tw_g (tw_t t 3) (.methodLink (tw_nm i).cls a (tw_nm (tw_t t 0))) && tw_g (tw_t t 4) (.static (tw_nm (tw_t t 0))) && tw_g (tw_t t 5) (.initialized (tw_nm (tw_t t 0)).cls) && tw_g (tw_t t 6) (.code (tw_nm (tw_t t 0)) (tw_by (tw_t t 0)) (tw_ml (tw_t t 0)) (tw_re (tw_t t 0))) && tw_mh (tw_nm (tw_t t 0)) && tw_np (tw_nm (tw_t t 0)) (tw_t t 1) && tw_rmk i (tw_t t 0)
  | 74 => decide (tw_t t 0 < tw_tab.length) && decide (tw_nest[tw_t t 2]? = some ((tw_nm i).cls, a, tw_nm (tw_t t 0))) && tw_g (tw_t t 3) (.static (tw_nm (tw_t t 0))) && tw_g (tw_t t 4) (.initialized (tw_nm (tw_t t 0)).cls) && tw_g (tw_t t 5) (.code (tw_nm (tw_t t 0)) (tw_by (tw_t t 0)) (tw_ml (tw_t t 0)) (tw_re (tw_t t 0))) && tw_mh (tw_nm (tw_t t 0)) && tw_np (tw_nm (tw_t t 0)) (tw_t t 1) && tw_rmk i (tw_t t 0)
  | 66 => decide (tw_re i = some .int)
  | 67 => decide (tw_re i = some .long)
  | 68 => (match tw_re i with
    | some (.object _) => true
    | some (.array _) => true
    | _ => false)
  | 69 => decide (tw_re i = none)
  | 70 => tw_g (tw_t t 0) (.fieldLink (tw_nm i).cls a "java/lang/String" "value" "[B")
  | 71 => tw_g (tw_t t 0) (.fieldLink (tw_nm i).cls a "java/lang/String" "coder" "B")
  | 75 => decide (tw_re i = some (tw_ty a))
  | 76 => tw_g (tw_t t 0) (.methodLink (tw_nm i).cls a Lib.Math.max.name) && tw_g (tw_t t 1) (.static Lib.Math.max.name) && tw_g (tw_t t 2) (.initialized "java/lang/Math") && tw_g (tw_t t 3) (.code Lib.Math.max.name Lib.Math.max.code 2 (some .int)) && decide (1 ≤ tw_fr i) && decide (21 ≤ tw_lo i)
  | 77 => tw_g (tw_t t 0) (.methodLink (tw_nm i).cls a Lib.Math.min.name) && tw_g (tw_t t 1) (.static Lib.Math.min.name) && tw_g (tw_t t 2) (.initialized "java/lang/Math") && tw_g (tw_t t 3) (.code Lib.Math.min.name Lib.Math.min.code 2 (some .int)) && decide (1 ≤ tw_fr i) && decide (21 ≤ tw_lo i)
  | 78 => tw_g (tw_t t 0) (.methodLink (tw_nm i).cls a Lib.Math.abs.name) && tw_g (tw_t t 1) (.static Lib.Math.abs.name) && tw_g (tw_t t 2) (.initialized "java/lang/Math") && tw_g (tw_t t 3) (.code Lib.Math.abs.name Lib.Math.abs.code 1 (some .int)) && decide (1 ≤ tw_fr i) && decide (21 ≤ tw_lo i)
  | _ => true) && decide (decode (tw_by i) pc = .ok (tw_ins pc o, w)))
/-- the method's own code is a word -/
def tw_mk (i : Nat) : Bool := (tw_cd i).all (fun q => tw_opk i q.1 q.2) && plainName (tw_nm i).cls
