/-! every instruction of every method is what the printed bytes decode to, and every link stands in the tables -/
def p_f4 (a : Nat) : Fin 4 := ⟨a % 4, Nat.mod_lt _ (by decide)⟩
def p_cnd (a : Nat) : Jvm.ClassFile.Cond := match a with
  | 0 => .eq | 1 => .ne | 2 => .lt | 3 => .ge | 4 => .gt | _ => .le
def p_at (a : Nat) : Jvm.ClassFile.ArrayType := match a with
  | 10 => .int | 11 => .char | _ => .boolean
def p_pc (k i : Nat) : Nat := (p_pcs.getD k []).getD i 0
def p_dj (k i : Nat) (ins : Jvm.ClassFile.Instr) (len : Nat) : Bool := decide (decode (p_by k) (p_pc k i) = .ok (ins, len))
def p_de (k i : Nat) (ins : Jvm.ClassFile.Instr) (len : Nat) : Bool := p_dj k i ins len && p_pc k (i + 1) == p_pc k i + len
def p_off (k i b : Nat) : Int := (p_pc k b : Int) - (p_pc k i : Int)
def p_inv (k i a b idx : Nat) (kd : Nat) : Bool := p_ML.any (fun q => q.1 == p_ow k && q.2.1 == idx && q.2.2.1 == a) && p_kd a == kd && b == p_na a && decide (p_fr a + 1 ≤ p_fr k) && decide (8 + (p_ml a + 11) + p_lo a ≤ p_lo k) && decide (a < 170)
def p_fl (k a b idx : Nat) : Bool := p_FL.any (fun q => q.1 == p_ow k && q.2.1 == idx && q.2.2.1 == a && q.2.2.2.1 == b)
def p_ck (k i o a b : Nat) (z : Int32) (t : List Nat) : Bool := match o with
  | 0 => match a with
    | 0 => p_de k i (.iconst z.toInt) 1 && decide (Int32.ofInt z.toInt = z)
    | 1 => p_de k i (.bipush z.toInt) 2 && decide ((Int8.ofInt z.toInt).toInt32 = z)
    | 2 => p_de k i (.sipush z.toInt) 3 && decide ((Int16.ofInt z.toInt).toInt32 = z)
    | 3 => p_de k i (.ldc (t.getD 0 0)) 2 && decide (lw_tbl[t.getD 1 0]? = some (.constant (p_cn (p_ow k)) (t.getD 0 0) z))
    | _ => p_de k i (.ldc_w (t.getD 0 0)) 3 && decide (lw_tbl[t.getD 1 0]? = some (.constant (p_cn (p_ow k)) (t.getD 0 0) z))
  | 1 => if b = 0 then p_de k i (.iload_n (p_f4 a)) 1 && decide (a < 4) else p_de k i (.iload a) 2
  | 2 => if b = 0 then p_de k i (.aload_n (p_f4 a)) 1 && decide (a < 4) else p_de k i (.aload a) 2
  | 3 => if b = 0 then p_de k i (.istore_n (p_f4 a)) 1 && decide (a < 4) else p_de k i (.istore a) 2
  | 4 => if b = 0 then p_de k i (.astore_n (p_f4 a)) 1 && decide (a < 4) else p_de k i (.astore a) 2
  | 5 => p_de k i (.iinc a z.toInt) 3 && decide (Int32.ofInt z.toInt = z)
  | 6 => match a with
    | 0 => p_de k i .iadd 1
    | 1 => p_de k i .isub 1
    | 2 => p_de k i .imul 1
    | 3 => p_de k i .iand 1
    | 4 => p_de k i .ior 1
    | 5 => p_de k i .ixor 1
    | 6 => p_de k i .ishl 1
    | 7 => p_de k i .ishr 1
    | _ => p_de k i .iushr 1
  | 7 => p_de k i .ineg 1
  | 8 => p_de k i .irem 1
  | 9 => p_de k i .i2c 1
  | 10 => p_de k i .dup 1
  | 11 => p_de k i .dup2 1
  | 12 => p_de k i .pop 1
  | 13 => match b with
    | 10 => p_de k i .iaload 1
    | 11 => p_de k i .caload 1
    | 12 => p_de k i .baload 1
    | _ => false
  | 14 => p_de k i .aaload 1
  | 15 => match b with
    | 10 => p_de k i .iastore 1
    | 11 => p_de k i .castore 1
    | 12 => p_de k i .bastore 1
    | _ => false
  | 16 => p_de k i .aastore 1
  | 17 => p_de k i .arraylength 1
  | 18 => p_de k i (.getfield (t.getD 0 0)) 3 && p_fl k a b (t.getD 0 0)
  | 19 => p_de k i (.putfield (t.getD 0 0)) 3 && p_fl k a b (t.getD 0 0) && !(p_T a b).2.2.2
  | 20 => p_de k i (.putfield (t.getD 0 0)) 3 && p_fl k a b (t.getD 0 0) && (p_T a b).2.2.2 && p_kd k == 2 && decide ((p_T a b).1 = p_cn (p_ow k))
  | 21 => p_de k i (.new (t.getD 0 0)) 3 && p_NL.any (fun q => q.1 == p_ow k && q.2.1 == t.getD 0 0 && q.2.2.1 == a)
  | 22 => p_de k i (.newarray (p_at a)) 2
  | 23 => p_de k i (.anewarray (t.getD 0 0)) 3 && p_NL.any (fun q => q.1 == p_ow k && q.2.1 == t.getD 0 0 && q.2.2.1 == 2)
  | 24 => p_de k i (.invokespecial (t.getD 0 0)) 3 && p_OL.any (fun q => q.1 == p_ow k && q.2.1 == t.getD 0 0) && decide (1 ≤ p_fr k) && decide (20 ≤ p_lo k)
  | 25 => p_de k i (.invokestatic 278) 3 && p_ow k == 4 && decide (1 ≤ p_fr k) && decide (26 ≤ p_lo k)
  | 26 => p_de k i (.invokestatic (t.getD 0 0)) 3 && p_KL.any (fun q => q.1 == p_ow k && q.2.1 == t.getD 0 0 && q.2.2.1 == 26) && decide (1 ≤ p_fr k) && decide (26 ≤ p_lo k)
  | 27 => p_de k i (.invokestatic (t.getD 0 0)) 3 && p_KL.any (fun q => q.1 == p_ow k && q.2.1 == t.getD 0 0 && q.2.2.1 == 27) && decide (1 ≤ p_fr k) && decide (26 ≤ p_lo k)
  | 30 => p_dj k i (.goto (p_off k i b)) 3
  | 31 => p_de k i (.if_icmp (p_cnd a) (p_off k i b)) 3
  | 32 => p_de k i (.ifCond (p_cnd a) (p_off k i b)) 3
  | 33 => match decode (p_by k) (p_pc k i) with
    | .ok (ins, _) => decide (ins = .tableswitch (p_off k i b) z.toInt (z.toInt + t.length - 1) (t.map (p_off k i)).toArray)
    | _ => false
  | 40 => p_de k i (.invokestatic (t.getD 0 0)) 3 && p_inv k i a b (t.getD 0 0) 0
  | 41 => p_de k i (.invokevirtual (t.getD 0 0)) 3 && p_inv k i a b (t.getD 0 0) 1
  | 42 => p_de k i (.invokespecial (t.getD 0 0)) 3 && p_inv k i a b (t.getD 0 0) 2
  | 50 => p_dj k i .return_ 1 && decide (p_rt k = none)
  | 51 => p_dj k i .ireturn 1 && decide (p_rt k = some .int)
  | 52 => p_dj k i .ireturn 1 && decide (p_rt k = some .boolean)
  | _ => false
def p_cka (k : Nat) : Bool := (p_cd k).zipIdx.all fun q => p_ck k q.2 q.1.1 q.1.2.1 q.1.2.2.1 q.1.2.2.2.1 q.1.2.2.2.2
theorem p_ck0 : (List.range' 0 30).all p_cka = true := by decide +kernel
theorem p_ck1 : (List.range' 30 30).all p_cka = true := by decide +kernel
theorem p_ck2 : (List.range' 60 30).all p_cka = true := by decide +kernel
theorem p_ck3 : (List.range' 90 30).all p_cka = true := by decide +kernel
theorem p_ck4 : (List.range' 120 30).all p_cka = true := by decide +kernel
theorem p_ck5 : (List.range' 150 20).all p_cka = true := by decide +kernel
def p_ckr (k f n : Nat) : Bool := (((p_cd k).drop f).take n).zipIdx.all fun q => p_ck k (f + q.2) q.1.1 q.1.2.1 q.1.2.2.1 q.1.2.2.2.1 q.1.2.2.2.2
theorem p_ckl_0 : p_ckr 170 0 40 = true := by decide +kernel
theorem p_ckl_40 : p_ckr 170 40 40 = true := by decide +kernel
theorem p_ckl_80 : p_ckr 170 80 40 = true := by decide +kernel
theorem p_ckl_120 : p_ckr 170 120 40 = true := by decide +kernel
theorem p_ckl_160 : p_ckr 170 160 40 = true := by decide +kernel
theorem p_ckl_200 : p_ckr 170 200 40 = true := by decide +kernel
theorem p_ckl_240 : p_ckr 170 240 40 = true := by decide +kernel
theorem p_ckl_280 : p_ckr 170 280 40 = true := by decide +kernel
theorem p_ckl_320 : p_ckr 170 320 40 = true := by decide +kernel
theorem p_ckl_360 : p_ckr 170 360 40 = true := by decide +kernel
theorem p_ckl_400 : p_ckr 170 400 40 = true := by decide +kernel
theorem p_ckl_440 : p_ckr 170 440 40 = true := by decide +kernel
theorem p_ckl_480 : p_ckr 170 480 40 = true := by decide +kernel
theorem p_ckl_520 : p_ckr 170 520 40 = true := by decide +kernel
theorem p_ckl_560 : p_ckr 170 560 40 = true := by decide +kernel
theorem p_ckl_600 : p_ckr 170 600 40 = true := by decide +kernel
theorem p_lawlen : (p_cd 170).length = 640 := by decide +kernel
theorem p_ckr_at {k f n i : Nat} (h : p_ckr k f n = true) (h1 : f ≤ i) (h2 : i < f + n) {o a b : Nat} {z : Int32} {t : List Nat} (hc : (p_cd k)[i]? = some (o, a, b, z, t)) : p_ck k i o a b z t = true := by
  have hm : ((o, a, b, z, t), i - f) ∈ (((p_cd k).drop f).take n).zipIdx := by
    refine List.mem_zipIdx_iff_getElem?.mpr ?_
    show (((p_cd k).drop f).take n)[i - f]? = some (o, a, b, z, t)
    rw [List.getElem?_take, if_pos (by omega), List.getElem?_drop, show f + (i - f) = i by omega]
    exact hc
  have h3 := List.all_eq_true.mp h _ hm
  have e : f + (i - f) = i := by omega
  simpa only [e] using h3
theorem p_ckl {i o a b : Nat} {z : Int32} {t : List Nat} (hc : (p_cd 170)[i]? = some (o, a, b, z, t)) : p_ck 170 i o a b z t = true := by
  have hi : i < 640 := by rw [← p_lawlen]; exact (List.getElem?_eq_some_iff.mp hc).1
  rcases (show (0 ≤ i ∧ i < 40) ∨ (40 ≤ i ∧ i < 80) ∨ (80 ≤ i ∧ i < 120) ∨ (120 ≤ i ∧ i < 160) ∨ (160 ≤ i ∧ i < 200) ∨ (200 ≤ i ∧ i < 240) ∨ (240 ≤ i ∧ i < 280) ∨ (280 ≤ i ∧ i < 320) ∨ (320 ≤ i ∧ i < 360) ∨ (360 ≤ i ∧ i < 400) ∨ (400 ≤ i ∧ i < 440) ∨ (440 ≤ i ∧ i < 480) ∨ (480 ≤ i ∧ i < 520) ∨ (520 ≤ i ∧ i < 560) ∨ (560 ≤ i ∧ i < 600) ∨ (600 ≤ i ∧ i < 640) by omega) with q | q | q | q | q | q | q | q | q | q | q | q | q | q | q | q
  · exact p_ckr_at p_ckl_0 (by omega) (by omega) hc
  · exact p_ckr_at p_ckl_40 (by omega) (by omega) hc
  · exact p_ckr_at p_ckl_80 (by omega) (by omega) hc
  · exact p_ckr_at p_ckl_120 (by omega) (by omega) hc
  · exact p_ckr_at p_ckl_160 (by omega) (by omega) hc
  · exact p_ckr_at p_ckl_200 (by omega) (by omega) hc
  · exact p_ckr_at p_ckl_240 (by omega) (by omega) hc
  · exact p_ckr_at p_ckl_280 (by omega) (by omega) hc
  · exact p_ckr_at p_ckl_320 (by omega) (by omega) hc
  · exact p_ckr_at p_ckl_360 (by omega) (by omega) hc
  · exact p_ckr_at p_ckl_400 (by omega) (by omega) hc
  · exact p_ckr_at p_ckl_440 (by omega) (by omega) hc
  · exact p_ckr_at p_ckl_480 (by omega) (by omega) hc
  · exact p_ckr_at p_ckl_520 (by omega) (by omega) hc
  · exact p_ckr_at p_ckl_560 (by omega) (by omega) hc
  · exact p_ckr_at p_ckl_600 (by omega) (by omega) hc
theorem p_ck_all : ∀ k, k < 170 → p_cka k = true := by
  intro k hk
  have g : ∀ a n, (List.range' a n).all p_cka = true → a ≤ k → k < a + n → p_cka k = true := fun a n e h1 h2 => List.all_eq_true.mp e k (List.mem_range'.mpr ⟨k - a, by omega, by omega⟩)
  rcases (show k < 30 ∨ (30 ≤ k ∧ k < 60) ∨ (60 ≤ k ∧ k < 90) ∨ (90 ≤ k ∧ k < 120) ∨ (120 ≤ k ∧ k < 150) ∨ (150 ≤ k ∧ k < 170) by omega) with q | q | q | q | q | q
  · exact g 0 30 p_ck0 (by omega) (by omega)
  · exact g 30 30 p_ck1 (by omega) (by omega)
  · exact g 60 30 p_ck2 (by omega) (by omega)
  · exact g 90 30 p_ck3 (by omega) (by omega)
  · exact g 120 30 p_ck4 (by omega) (by omega)
  · exact g 150 20 p_ck5 (by omega) (by omega)
theorem p_ck_at {k i : Nat} (hk : k < 171) {o a b : Nat} {z : Int32} {t : List Nat} (h : (p_cd k)[i]? = some (o, a, b, z, t)) : p_ck k i o a b z t = true := by
  by_cases h2 : k = 170
  · subst h2
    exact p_ckl h
  · exact List.all_eq_true.mp (p_ck_all k (by omega)) ((o, a, b, z, t), i) (List.mem_zipIdx_iff_getElem?.mpr h)
theorem p_FL_ok : ∀ q ∈ p_FL, q.2.2.1 < 6 ∧ q.2.2.2.1 < p_N q.2.2.1 ∧ lw_tbl[q.2.2.2.2]? = some (.fieldLink (p_cn q.1) q.2.1 (p_cn q.2.2.1) (p_T q.2.2.1 q.2.2.2.1).2.1 (p_T q.2.2.1 q.2.2.2.1).2.2.1) := by decide +kernel
theorem p_ML_ok : ∀ q ∈ p_ML, q.2.2.1 < 170 ∧ ((q.2.2.2.1 = 0 ∧ lw_tbl[q.2.2.2.2]? = some (.methodLink (p_cn q.1) q.2.1 (p_y q.2.2.1))) ∨ (q.2.2.2.1 = 1 ∧ lw_tbl[q.2.2.2.2]? = some (.methodLinkNest (p_cn q.1) q.2.1 (p_y q.2.2.1) "InterlockBoard"))) := by decide +kernel
theorem p_NL_ok : ∀ q ∈ p_NL, lw_tbl[q.2.2.2]? = some (.classLink (p_cn q.1) q.2.1 (p_cn q.2.2.1)) := by decide +kernel
theorem p_KL_ok : ∀ q ∈ p_KL, lw_tbl[q.2.2.2]? = some (.methodLink (p_cn q.1) q.2.1 (if q.2.2.1 = 26 then Lib.Math.max.name else Lib.Math.min.name)) := by decide +kernel
theorem p_OL_ok : ∀ q ∈ p_OL, lw_tbl[q.2.2]? = some (.methodLink (p_cn q.1) q.2.1 objectInit) := by decide +kernel
def p_mok (k : Nat) : Bool := decide (lw_tbl[p_wc k]? = some (.code (p_y k) (p_by k) (p_ml k) (p_rt k))) &&
  (match p_kd k with
    | 0 => decide (lw_tbl[p_wi k]? = some (.static (p_y k)))
    | 1 => decide (lw_tbl[p_wi k]? = some (.instanceMethod (p_y k))) && decide (lw_tbl[p_wl k]? = some (.selects (p_cn (p_ow k)) (p_y k) (p_y k)))
    | 2 => decide (lw_tbl[p_wi k]? = some (.instanceMethod (p_y k))) && decide ((p_y k).name = "<init>") && decide (p_rt k = none)
    | _ => false) &&
  decide ((p_y k).cls = p_cn (p_ow k)) && decide ((p_y k).cls ≠ "java/lang/invoke/MethodHandle") && decide ((p_y k).cls ≠ "java/lang/invoke/VarHandle") &&
  decide ((parseMethodDescriptor (p_y k).desc).map (fun d => d.parameters.length) = some (p_na k - (if p_kd k = 0 then 0 else 1))) && plainName (p_y k).cls && decide (p_na k ≤ p_ml k) && decide (p_kd k = 0 ∨ 1 ≤ p_na k) && decide (p_ow k < 9)
theorem p_mok_0 : (List.range' 0 12).all p_mok = true := by decide +kernel
theorem p_mok_12 : (List.range' 12 12).all p_mok = true := by decide +kernel
theorem p_mok_24 : (List.range' 24 12).all p_mok = true := by decide +kernel
theorem p_mok_36 : (List.range' 36 12).all p_mok = true := by decide +kernel
theorem p_mok_48 : (List.range' 48 12).all p_mok = true := by decide +kernel
theorem p_mok_60 : (List.range' 60 12).all p_mok = true := by decide +kernel
theorem p_mok_72 : (List.range' 72 12).all p_mok = true := by decide +kernel
theorem p_mok_84 : (List.range' 84 12).all p_mok = true := by decide +kernel
theorem p_mok_96 : (List.range' 96 12).all p_mok = true := by decide +kernel
theorem p_mok_108 : (List.range' 108 12).all p_mok = true := by decide +kernel
theorem p_mok_120 : (List.range' 120 12).all p_mok = true := by decide +kernel
theorem p_mok_132 : (List.range' 132 12).all p_mok = true := by decide +kernel
theorem p_mok_144 : (List.range' 144 12).all p_mok = true := by decide +kernel
theorem p_mok_156 : (List.range' 156 12).all p_mok = true := by decide +kernel
theorem p_mok_168 : (List.range' 168 2).all p_mok = true := by decide +kernel
theorem p_mok_all : ∀ k, k < 170 → p_mok k = true := by
  intro k hk
  have g : ∀ a n, (List.range' a n).all p_mok = true → a ≤ k → k < a + n → p_mok k = true := fun a n e h1 h2 => List.all_eq_true.mp e k (List.mem_range'.mpr ⟨k - a, by omega, by omega⟩)
  rcases (show (0 ≤ k ∧ k < 12) ∨ (12 ≤ k ∧ k < 24) ∨ (24 ≤ k ∧ k < 36) ∨ (36 ≤ k ∧ k < 48) ∨ (48 ≤ k ∧ k < 60) ∨ (60 ≤ k ∧ k < 72) ∨ (72 ≤ k ∧ k < 84) ∨ (84 ≤ k ∧ k < 96) ∨ (96 ≤ k ∧ k < 108) ∨ (108 ≤ k ∧ k < 120) ∨ (120 ≤ k ∧ k < 132) ∨ (132 ≤ k ∧ k < 144) ∨ (144 ≤ k ∧ k < 156) ∨ (156 ≤ k ∧ k < 168) ∨ (168 ≤ k ∧ k < 170) by omega) with q | q | q | q | q | q | q | q | q | q | q | q | q | q | q
  · exact g 0 12 p_mok_0 (by omega) (by omega)
  · exact g 12 12 p_mok_12 (by omega) (by omega)
  · exact g 24 12 p_mok_24 (by omega) (by omega)
  · exact g 36 12 p_mok_36 (by omega) (by omega)
  · exact g 48 12 p_mok_48 (by omega) (by omega)
  · exact g 60 12 p_mok_60 (by omega) (by omega)
  · exact g 72 12 p_mok_72 (by omega) (by omega)
  · exact g 84 12 p_mok_84 (by omega) (by omega)
  · exact g 96 12 p_mok_96 (by omega) (by omega)
  · exact g 108 12 p_mok_108 (by omega) (by omega)
  · exact g 120 12 p_mok_120 (by omega) (by omega)
  · exact g 132 12 p_mok_132 (by omega) (by omega)
  · exact g 144 12 p_mok_144 (by omega) (by omega)
  · exact g 156 12 p_mok_156 (by omega) (by omega)
  · exact g 168 2 p_mok_168 (by omega) (by omega)
theorem p_ini : ∀ o, o < 9 → lw_tbl[[47, 48, 46, 49, 45, 50, 44, 53, 51].getD o 0]? = some (.initialized (p_cn o)) := by decide +kernel
theorem p_ins : ∀ o, o < 6 → lw_tbl[[69, 128, 63, 184, 55, 595].getD o 0]? = some (.instantiable (p_cn o) (p_N o)) := by decide +kernel
theorem p_lay : ∀ a, a < 6 → ∀ w ∈ u_ws (p_cn a) (p_T a) (p_N a), w ∈ lw_tbl := by decide +kernel
theorem p_tyok : ∀ a, a < 6 → ∀ j, j < p_N a → parseFieldDescriptor (p_T a j).2.2.1 = some (p_ty a j) := by decide +kernel
theorem p_nm : ∀ a, a < 6 → ∀ x, x < p_N a → ∀ y, y < p_N a → x ≠ y → (p_T a x).2.1 ≠ (p_T a y).2.1 := by decide +kernel
theorem p_own : ∀ a, a < 6 → ∀ j, j < p_N a → (p_T a j).1 = p_cn a := by decide +kernel
theorem p_cls : ∀ a, a < 6 → p_cl[a]? = some (p_cn a, p_T a, p_N a) := fun a h => match a, h with
  | 0, _ => rfl
  | 1, _ => rfl
  | 2, _ => rfl
  | 3, _ => rfl
  | 4, _ => rfl
  | 5, _ => rfl
  | n + 6, h => absurd h (by omega)
/-- the good ones of the tables' words: they hold wherever they held -/
def p_G : List Cond := lw_tbl.filter goodWord
theorem p_GG : GoodIn p_G p_G := fun w h => ⟨h, good_of_word (List.mem_filter.mp h).2⟩
theorem p_Gm {i : Nat} {w : Cond} (h : lw_tbl[i]? = some w) (hg : goodWord w = true) : w ∈ p_G := List.mem_filter.mpr ⟨List.mem_of_getElem? h, hg⟩
