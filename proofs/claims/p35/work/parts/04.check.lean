/-! every instruction of every method is what the printed bytes decode to, and every link stands in the tables -/
def p_f4 (a : Nat) : Fin 4 := ⟨a % 4, Nat.mod_lt _ (by decide)⟩
def p_cnd (a : Nat) : Jvm.ClassFile.Cond := match a with
  | 0 => .eq | 1 => .ne | 2 => .lt | 3 => .ge | 4 => .gt | _ => .le
def p_at (a : Nat) : Jvm.ClassFile.ArrayType := match a with
  | 10 => .int | 11 => .char | _ => .long
def p_pc (k i : Nat) : Nat := (p_pcs.getD k []).getD i 0
def p_dj (k i : Nat) (ins : Jvm.ClassFile.Instr) (len : Nat) : Bool := decide (decode (p_by k) (p_pc k i) = .ok (ins, len))
def p_de (k i : Nat) (ins : Jvm.ClassFile.Instr) (len : Nat) : Bool := p_dj k i ins len && p_pc k (i + 1) == p_pc k i + len
def p_off (k i b : Nat) : Int := (p_pc k b : Int) - (p_pc k i : Int)
def p_inv (k i a b idx : Nat) (kd : Nat) : Bool := p_ML.any (fun q => q.1 == p_ow k && q.2.1 == idx && q.2.2.1 == a) && p_kd a == kd && b == p_na a && decide (p_fr a + 1 ≤ p_fr k) && decide (8 + (p_ml a + 11) + p_lo a ≤ p_lo k) && decide (a < 105)
def p_fl (k a b idx : Nat) : Bool := p_FL.any (fun q => q.1 == p_ow k && q.2.1 == idx && q.2.2.1 == a && q.2.2.2.1 == b)
def p_ck (k i o a b : Nat) (z : Int32) (t : List Nat) : Bool := match o with
  | 0 => match a with
    | 0 => p_de k i (.iconst z.toInt) 1 && decide (Int32.ofInt z.toInt = z)
    | 1 => p_de k i (.bipush z.toInt) 2 && decide ((Int8.ofInt z.toInt).toInt32 = z)
    | 2 => p_de k i (.sipush z.toInt) 3 && decide ((Int16.ofInt z.toInt).toInt32 = z)
    | 3 => p_de k i (.ldc (t.getD 0 0)) 2 && decide (lw_tbl[t.getD 1 0]? = some (.constant (p_cn (p_ow k)) (t.getD 0 0) z))
    | _ => p_de k i (.ldc_w (t.getD 0 0)) 3 && decide (lw_tbl[t.getD 1 0]? = some (.constant (p_cn (p_ow k)) (t.getD 0 0) z))
  | 1 => if b = 0 then p_de k i (.iload_n (p_f4 a)) 1 && decide (a < 4) else p_de k i (.iload a) 2
  | 2 => if b = 0 then p_de k i (.aload_n (p_f4 a)) 1 && decide (a < 4) else p_de k i (.aload a) 2
  | 3 => (if b = 0 then p_de k i (.istore_n (p_f4 a)) 1 && decide (a < 4) else p_de k i (.istore a) 2) && !(p_up k).contains a
  | 4 => (if b = 0 then p_de k i (.astore_n (p_f4 a)) 1 && decide (a < 4) else p_de k i (.astore a) 2) && !(p_up k).contains a
  | 5 => (p_de k i (.iinc a z.toInt) 3 && decide (Int32.ofInt z.toInt = z)) && !(p_up k).contains a
  | 6 => match a with
    | 0 => p_de k i .iadd 1
    | 1 => p_de k i .isub 1
    | 2 => p_de k i .imul 1
    | 3 => p_de k i .iand 1
    | 4 => p_de k i .ior 1
    | 5 => p_de k i .ixor 1
    | 6 => p_de k i .ishl 1
    | 7 => p_de k i .ishr 1
    | _ => p_de k i .iushr 1
  | 7 => p_de k i .ineg 1
  | 8 => p_de k i .irem 1
  | 9 => p_de k i .i2c 1
  | 10 => p_de k i .dup 1
  | 11 => p_de k i .dup2 1
  | 12 => p_de k i .pop 1
  | 13 => match b with
    | 10 => p_de k i .iaload 1
    | 11 => p_de k i .caload 1
    | _ => false
  | 14 => p_de k i .aaload 1
  | 15 => match b with
    | 10 => p_de k i .iastore 1
    | 11 => p_de k i .castore 1
    | _ => false
  | 16 => p_de k i .aastore 1
  | 17 => p_de k i .arraylength 1
  | 18 => p_de k i (.getfield (t.getD 0 0)) 3 && p_fl k a b (t.getD 0 0)
  | 19 => p_de k i (.putfield (t.getD 0 0)) 3 && p_fl k a b (t.getD 0 0) && !(p_T a b).2.2.2
  | 20 => p_de k i (.putfield (t.getD 0 0)) 3 && p_fl k a b (t.getD 0 0) && (p_T a b).2.2.2 && p_kd k == 2 && decide ((p_T a b).1 = p_cn (p_ow k))
  | 21 => p_de k i (.new (t.getD 0 0)) 3 && p_NL.any (fun q => q.1 == p_ow k && q.2.1 == t.getD 0 0 && q.2.2.1 == a)
  | 22 => p_de k i (.newarray (p_at a)) 2
  | 23 => p_de k i (.anewarray (t.getD 0 0)) 3 && p_NL.any (fun q => q.1 == p_ow k && q.2.1 == t.getD 0 0 && q.2.2.1 == 2)
  | 24 => p_de k i (.invokespecial (t.getD 0 0)) 3 && p_OL.any (fun q => q.1 == p_ow k && q.2.1 == t.getD 0 0) && decide (1 ≤ p_fr k) && decide (20 ≤ p_lo k)
  | 25 => p_de k i (.invokestatic 278) 3 && p_ow k == 4 && decide (1 ≤ p_fr k) && decide (26 ≤ p_lo k)
  | 26 => p_de k i (.invokestatic (t.getD 0 0)) 3 && p_KL.any (fun q => q.1 == p_ow k && q.2.1 == t.getD 0 0 && q.2.2.1 == 26) && decide (1 ≤ p_fr k) && decide (26 ≤ p_lo k)
  | 27 => p_de k i (.invokestatic (t.getD 0 0)) 3 && p_KL.any (fun q => q.1 == p_ow k && q.2.1 == t.getD 0 0 && q.2.2.1 == 27) && decide (1 ≤ p_fr k) && decide (26 ≤ p_lo k)
  | 28 => match a with
    | 0 => if z = 0 then p_de k i (.lconst (⟨b % 2, Nat.mod_lt _ (by decide)⟩ : Fin 2)) 1 && decide (b < 2) else p_de k i (.ldc2_w (t.getD 0 0)) 3 && decide (lw_tbl[t.getD 1 0]? = some (.constantLong (p_cn (p_ow k)) (t.getD 0 0) (Int64.ofNat b)))
    | 1 => if z = 0 then p_de k i (.lload_n (p_f4 b)) 1 && decide (b < 4) else p_de k i (.lload b) 2
    | 2 => (if z = 0 then p_de k i (.lstore_n (p_f4 b)) 1 && decide (b < 4) else p_de k i (.lstore b) 2) && (!(p_up k).contains b && (p_up k).contains (b + 1))
    | 3 => p_de k i .ladd 1
    | 4 => p_de k i .lmul 1
    | 5 => p_de k i .land 1
    | 6 => p_de k i .lshr 1
    | 7 => p_de k i .lcmp 1
    | 8 => p_de k i .i2l 1
    | 9 => p_de k i .l2i 1
    | 10 => p_de k i .laload 1
    | 11 => p_de k i .lastore 1
    | 12 => p_de k i .idiv 1
    | _ => false
  | 30 => p_dj k i (.goto (p_off k i b)) 3
  | 31 => p_de k i (.if_icmp (p_cnd a) (p_off k i b)) 3
  | 32 => p_de k i (.ifCond (p_cnd a) (p_off k i b)) 3
  | 33 => match decode (p_by k) (p_pc k i) with
    | .ok (ins, _) => decide (ins = .tableswitch (p_off k i b) z.toInt (z.toInt + t.length - 1) (t.map (p_off k i)).toArray)
    | _ => false
  | 40 => p_de k i (.invokestatic (t.getD 0 0)) 3 && p_inv k i a b (t.getD 0 0) 0
  | 41 => p_de k i (.invokevirtual (t.getD 0 0)) 3 && p_inv k i a b (t.getD 0 0) 1
  | 42 => p_de k i (.invokespecial (t.getD 0 0)) 3 && p_inv k i a b (t.getD 0 0) 2
  | 43 => p_de k i (.invokestatic (t.getD 0 0)) 3 && p_inv k i a b (t.getD 0 0) 0
  | 44 => p_de k i (.invokevirtual (t.getD 0 0)) 3 && p_inv k i a b (t.getD 0 0) 1
  | 50 => p_dj k i .return_ 1 && decide (p_rt k = none)
  | 51 => p_dj k i .ireturn 1 && decide (p_rt k = some .int)
  | 52 => p_dj k i .ireturn 1 && decide (p_rt k = some .boolean)
  | 53 => p_dj k i .lreturn 1 && decide (p_rt k = some .long)
  | _ => false
def p_cka (k : Nat) : Bool := (p_cd k).zipIdx.all fun q => p_ck k q.2 q.1.1 q.1.2.1 q.1.2.2.1 q.1.2.2.2.1 q.1.2.2.2.2
theorem p_ck0 : (List.range' 0 20).all p_cka = true := by decide +kernel
theorem p_ck20 : (List.range' 20 20).all p_cka = true := by decide +kernel
theorem p_ck40 : (List.range' 40 20).all p_cka = true := by decide +kernel
theorem p_ck60 : (List.range' 60 20).all p_cka = true := by decide +kernel
theorem p_ck80 : (List.range' 80 19).all p_cka = true := by decide +kernel
theorem p_ck101 : (List.range' 101 2).all p_cka = true := by decide +kernel
def p_ckr (k f n : Nat) : Bool := (((p_cd k).drop f).take n).zipIdx.all fun q => p_ck k (f + q.2) q.1.1 q.1.2.1 q.1.2.2.1 q.1.2.2.2.1 q.1.2.2.2.2
theorem p_ckr_at {k f n i : Nat} (h : p_ckr k f n = true) (h1 : f ≤ i) (h2 : i < f + n) {o a b : Nat} {z : Int32} {t : List Nat} (hc : (p_cd k)[i]? = some (o, a, b, z, t)) : p_ck k i o a b z t = true := by
  have hm : ((o, a, b, z, t), i - f) ∈ (((p_cd k).drop f).take n).zipIdx := by
    refine List.mem_zipIdx_iff_getElem?.mpr ?_
    show (((p_cd k).drop f).take n)[i - f]? = some (o, a, b, z, t)
    rw [List.getElem?_take, if_pos (by omega), List.getElem?_drop, show f + (i - f) = i by omega]
    exact hc
  have h3 := List.all_eq_true.mp h _ hm
  have e : f + (i - f) = i := by omega
  simpa only [e] using h3
