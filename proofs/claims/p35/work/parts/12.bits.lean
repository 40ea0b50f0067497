/-! bits and masks; the first rows (bt .. nx_xor, fb_ct ..) are the kit laws BITS and COUNTS, pasted -/
def bt (x : Int32) (i : Nat) : Bool := x.toBitVec.getLsbD i
theorem b_ext {x y : Int32} (h : ∀ i, i < 32 → bt x i = bt y i) : x = y := Int32.toBitVec_inj.mp (BitVec.eq_of_getLsbD_eq (fun i hi => h i hi))
theorem b_or (x y : Int32) (i : Nat) : bt (x ||| y) i = (bt x i || bt y i) := by unfold bt; rw [Int32.toBitVec_or, BitVec.getLsbD_or]
theorem b_and (x y : Int32) (i : Nat) : bt (x &&& y) i = (bt x i && bt y i) := by unfold bt; rw [Int32.toBitVec_and, BitVec.getLsbD_and]
theorem b_xor (x y : Int32) (i : Nat) : bt (x ^^^ y) i = (bt x i ^^ bt y i) := by unfold bt; rw [Int32.toBitVec_xor, BitVec.getLsbD_xor]
theorem b_big {x : Int32} {i : Nat} (h : 32 ≤ i) : bt x i = false := BitVec.getLsbD_of_ge _ _ h
theorem b_m1 : ∀ i, i < 32 → bt (-1) i = true := by decide +kernel
theorem b_0 (i : Nat) : bt 0 i = false := BitVec.getLsbD_zero
theorem s_l : ∀ n, n < 32 → ((nI n &&& 31).toBitVec.smod 32).toNat = n := by decide +kernel
theorem s_u : ∀ n, n < 32 → (((nI n).toUInt32 &&& Int32.toUInt32 31).toBitVec % 32).toNat = n := by decide +kernel
theorem b_shl (n : Nat) (hn : n < 32) (x : Int32) {i : Nat} (hi : i < 32) : bt (x <<< (nI n &&& 31)) i = (decide (n ≤ i) && bt x (i - n)) := by
  unfold bt
  rw [Int32.toBitVec_shiftLeft]
  show (x.toBitVec <<< ((nI n &&& 31).toBitVec.smod 32).toNat).getLsbD i = _
  rw [s_l n hn, BitVec.getLsbD_shiftLeft]
  rcases Nat.lt_or_ge i n with h | h
  · simp [h, Nat.not_le.mpr h]
  · simp [hi, h, Nat.not_lt.mpr h]
theorem b_ushr (n : Nat) (hn : n < 32) (x : Int32) (i : Nat) : bt ((x.toUInt32 >>> ((nI n).toUInt32 &&& Int32.toUInt32 31)).toInt32) i = bt x (n + i) := by
  show (x.toUInt32 >>> ((nI n).toUInt32 &&& Int32.toUInt32 31)).toBitVec.getLsbD i = x.toUInt32.toBitVec.getLsbD (n + i)
  rw [UInt32.toBitVec_shiftRight]
  show (x.toUInt32.toBitVec >>> (((nI n).toUInt32 &&& Int32.toUInt32 31).toBitVec % 32).toNat).getLsbD i = _
  rw [s_u n hn, BitVec.getLsbD_ushiftRight]
theorem b_sshr (n : Nat) (hn : n < 32) (x : Int32) {i : Nat} (hi : i < 32) : bt (x >>> (nI n &&& 31)) i = if n + i < 32 then bt x (n + i) else bt x 31 := by
  unfold bt
  rw [Int32.toBitVec_shiftRight]
  show (x.toBitVec.sshiftRight ((nI n &&& 31).toBitVec.smod 32).toNat).getLsbD i = _
  rw [s_l n hn, BitVec.getLsbD_sshiftRight, BitVec.msb_eq_getLsbD_last]
  simp [hi]
theorem nx_and (a b : Nat) : nI a &&& nI b = nI (a &&& b) := by
  apply Int32.toBitVec_inj.1
  show BitVec.ofNat 32 a &&& BitVec.ofNat 32 b = BitVec.ofNat 32 (a &&& b)
  apply BitVec.eq_of_getLsbD_eq
  intro i hi
  simp [hi]
theorem nx_xor (a b : Nat) : nI a ^^^ nI b = nI (a ^^^ b) := by
  apply Int32.toBitVec_inj.1
  show BitVec.ofNat 32 a ^^^ BitVec.ofNat 32 b = BitVec.ofNat 32 (a ^^^ b)
  apply BitVec.eq_of_getLsbD_eq
  intro i hi
  simp [hi]
def fb_ct (p : Nat → Bool) : Nat → Nat
  | 0 => 0
  | n + 1 => fb_ct p n + (if p n then 1 else 0)
theorem fb_ct_succ (p : Nat → Bool) (n : Nat) : fb_ct p (n + 1) = fb_ct p n + (if p n then 1 else 0) := rfl
theorem fb_ct_le (p : Nat → Bool) : ∀ n, fb_ct p n ≤ n
  | 0 => Nat.le_refl _
  | n + 1 => by
    have h := fb_ct_le p n
    rw [fb_ct_succ]
    split <;> omega
theorem fb_ct_step (p : Nat → Bool) (m : Nat) : ∀ n, fb_ct p m ≤ fb_ct p (m + n)
  | 0 => Nat.le_refl _
  | n + 1 => by
    have h := fb_ct_step p m n
    show fb_ct p m ≤ fb_ct p (m + n + 1)
    rw [fb_ct_succ]
    omega
theorem fb_ct_mono (p : Nat → Bool) {m n : Nat} (h : m ≤ n) : fb_ct p m ≤ fb_ct p n := by
  have := fb_ct_step p m (n - m)
  rwa [Nat.add_sub_cancel' h] at this
theorem fb_ct_cong {p q : Nat → Bool} : ∀ {n : Nat}, (∀ k, k < n → p k = q k) → fb_ct p n = fb_ct q n
  | 0, _ => rfl
  | n + 1, h => by
    rw [fb_ct_succ, fb_ct_succ, fb_ct_cong (fun k hk => h k (by omega)), h n (by omega)]
/-- one place changed -/
theorem fb_ct_out (p : Nat → Bool) (b : Bool) {i n : Nat} (h : n ≤ i) : fb_ct (fun k => if k = i then b else p k) n = fb_ct p n :=
  fb_ct_cong fun k hk => if_neg (by omega)
theorem fb_ct_zero {p : Nat → Bool} : ∀ {n : Nat}, fb_ct p n = 0 ↔ ∀ k, k < n → p k = false
  | 0 => ⟨fun _ k hk => absurd hk (Nat.not_lt_zero k), fun _ => rfl⟩
  | n + 1 => by
    have h := fb_ct_zero (p := p) (n := n)
    rw [fb_ct_succ]
    constructor
    · intro e k hk
      have e1 : fb_ct p n = 0 := by omega
      rcases Nat.lt_or_ge k n with q | q
      · exact h.mp e1 k q
      · have ek : k = n := by omega
        subst ek
        cases hp : p k
        · rfl
        · simp [hp] at e
    · intro a
      rw [h.mpr (fun k hk => a k (by omega)), a n (by omega)]
      rfl
theorem b_1 (i : Nat) (hi : i < 32) : bt 1 i = decide (i = 0) := by
  have h : ∀ i, i < 32 → bt 1 i = decide (i = 0) := by decide +kernel
  exact h i hi
theorem b_shl1 (j : Nat) (hj : j < 32) {i : Nat} (hi : i < 32) : bt ((1 : Int32) <<< (nI j &&& 31)) i = decide (i = j) := by
  rw [b_shl j hj 1 hi]
  by_cases h : j ≤ i
  · rw [b_1 _ (by omega)]
    simp only [h, decide_true, Bool.true_and]
    congr 1
    exact propext ⟨fun e => by omega, fun e => by omega⟩
  · simp only [h, decide_false, Bool.false_and]
    exact (decide_eq_false (by omega)).symm
theorem b_nI {w : Nat} (i : Nat) (hi : i < 32) : bt (nI w) i = w.testBit i := by
  unfold bt
  show (BitVec.ofNat 32 w).getLsbD i = _
  rw [BitVec.getLsbD_ofNat]
  simp [hi]
/-- a member of a mask -/
theorem bit_of (x : Int32) {j : Nat} (hj : j < 32) : (x >>> (nI j &&& 31)) &&& 1 = bI (bt x j) := by
  apply b_ext
  intro i hi
  rw [b_and, b_sshr j hj x hi, b_1 i hi]
  by_cases h0 : i = 0
  · subst h0
    rw [if_pos (by omega), Nat.add_zero]
    cases bt x j <;> decide
  · simp only [h0, decide_false, Bool.and_false]
    cases bt x j
    · exact (b_0 i).symm
    · rw [bI_t, b_1 i hi]
      simp [h0]
def wI (x : Int32) (j : Nat) (b : Bool) : Int32 := if b = true then x ||| ((1 : Int32) <<< (nI j &&& 31)) else x &&& (((1 : Int32) <<< (nI j &&& 31)) ^^^ (-1))
theorem b_wI {x : Int32} {j i : Nat} {b : Bool} (hj : j < 32) (hi : i < 32) : bt (wI x j b) i = if i = j then b else bt x i := by
  unfold wI
  cases b
  · rw [if_neg Bool.false_ne_true, b_and, b_xor, b_shl1 j hj hi, b_m1 i hi]
    by_cases h : i = j
    · simp [h]
    · simp [h]
  · rw [if_pos rfl, b_or, b_shl1 j hj hi]
    by_cases h : i = j
    · simp [h]
    · simp [h]
def mkN : Nat → (Nat → Bool) → Nat
  | 0, _ => 0
  | n + 1, p => mkN n p + if p n = true then 2 ^ n else 0
theorem mkN_lt : ∀ (n : Nat) (p : Nat → Bool), mkN n p < 2 ^ n
  | 0, _ => Nat.one_pos
  | n + 1, p => by
    have h := mkN_lt n p
    have e : 2 ^ (n + 1) = 2 ^ n + 2 ^ n := by rw [Nat.pow_succ]; omega
    unfold mkN
    split <;> omega
theorem mkN_tb : ∀ (n : Nat) (p : Nat → Bool) (i : Nat), (mkN n p).testBit i = (decide (i < n) && p i)
  | 0, p, i => by simp [mkN]
  | n + 1, p, i => by
    have h := mkN_lt n p
    have ih := mkN_tb n p i
    unfold mkN
    by_cases hp : p n = true
    · rw [if_pos hp, Nat.add_comm]
      rcases Nat.lt_trichotomy i n with h1 | h1 | h1
      · rw [Nat.testBit_two_pow_add_gt h1, ih]
        simp [h1, Nat.lt_succ_of_lt h1]
      · subst h1
        rw [Nat.testBit_two_pow_add_eq, ih]
        simp [hp]
      · have e : 2 ^ (n + 1) = 2 ^ n + 2 ^ n := by rw [Nat.pow_succ]; omega
        rw [Nat.testBit_lt_two_pow (Nat.lt_of_lt_of_le (show 2 ^ n + mkN n p < 2 ^ (n + 1) by omega) (Nat.pow_le_pow_right (by decide) h1))]
        simp [show ¬ i < n + 1 by omega]
    · rw [if_neg hp, Nat.add_zero, ih]
      by_cases h1 : i < n
      · simp [h1, Nat.lt_succ_of_lt h1]
      · by_cases h2 : i = n
        · subst h2
          simp [hp]
        · simp [h1, show ¬ i < n + 1 by omega]
/-- the mask of the numbers below 16 that p tells -/
def M (p : Nat → Bool) : Int32 := nI (mkN 16 p)
theorem M_bt (p : Nat → Bool) {i : Nat} (hi : i < 32) : bt (M p) i = (decide (i < 16) && p i) := by
  unfold M
  rw [b_nI i hi, mkN_tb]
theorem M_ext {p q : Nat → Bool} (h : ∀ i, i < 16 → p i = q i) : M p = M q := by
  apply b_ext
  intro i hi
  rw [M_bt p hi, M_bt q hi]
  by_cases h1 : i < 16
  · rw [h i h1]
  · simp [h1]
theorem M_inj {p q : Nat → Bool} (h : M p = M q) {i : Nat} (hi : i < 16) : p i = q i := by
  have h1 := M_bt p (show i < 32 by omega)
  rw [h, M_bt q (by omega)] at h1
  simpa [hi] using h1.symm
theorem M_eq {x : Int32} {p : Nat → Bool} (h : ∀ i, i < 32 → bt x i = (decide (i < 16) && p i)) : x = M p := b_ext fun i hi => by rw [h i hi, M_bt p hi]
theorem M_or (p q : Nat → Bool) : M p ||| M q = M (fun i => p i || q i) := M_eq fun i hi => by
  rw [b_or, M_bt p hi, M_bt q hi]
  cases decide (i < 16) <;> simp
theorem M_and (p q : Nat → Bool) : M p &&& M q = M (fun i => p i && q i) := M_eq fun i hi => by
  rw [b_and, M_bt p hi, M_bt q hi]
  cases decide (i < 16) <;> simp
theorem M_andn (p q : Nat → Bool) : M p &&& (M q ^^^ (-1)) = M (fun i => p i && !q i) := M_eq fun i hi => by
  rw [b_and, b_xor, M_bt p hi, M_bt q hi, b_m1 i hi]
  cases decide (i < 16) <;> simp
theorem M_w (p : Nat → Bool) {j : Nat} (hj : j < 16) (b : Bool) : wI (M p) j b = M (fun i => if i = j then b else p i) := M_eq fun i hi => by
  rw [b_wI (by omega) hi, M_bt p hi]
  by_cases h : i = j
  · simp [h, hj]
  · simp [h]
theorem M_0 : M (fun _ => false) = 0 := by decide +kernel
theorem M_eq0 {p : Nat → Bool} : M p = 0 ↔ ∀ i, i < 16 → p i = false := by
  rw [← M_0]
  exact ⟨fun h i hi => M_inj h hi, fun h => M_ext h⟩
theorem M_low : ∀ n, n < 17 → ((1 : Int32) <<< (nI n &&& 31)) - 1 = M (fun i => decide (i < n)) := by decide +kernel
theorem M_of {w : Nat} (hw : w < 65536) : nI w = M (fun i => w.testBit i) := M_eq fun i hi => by
  rw [b_nI i hi]
  by_cases h : i < 16
  · simp [h]
  · rw [Nat.testBit_lt_two_pow (Nat.lt_of_lt_of_le (show w < 2 ^ 16 by omega) (Nat.pow_le_pow_right (by decide) (by omega)))]
    simp [h]
theorem M_lt (p : Nat → Bool) : mkN 16 p < 65536 := mkN_lt 16 p
/-- how many bits are set -/
def popN : Nat → Nat → Nat
  | 0, _ => 0
  | n + 1, w => w % 2 + popN n (w / 2)
theorem popN_0 : ∀ n, popN n 0 = 0
  | 0 => rfl
  | n + 1 => by unfold popN; rw [Nat.zero_mod, Nat.zero_div, popN_0 n]
theorem and_pred_even (a : Nat) (ha : 0 < a) : (2 * a) &&& (2 * a - 1) = 2 * (a &&& (a - 1)) := by
  have e : 2 * a - 1 = 2 * (a - 1) + 1 := by omega
  rw [e]
  apply Nat.eq_of_testBit_eq
  intro i
  rw [Nat.testBit_and]
  cases i with
  | zero => simp [Nat.testBit_zero]
  | succ i =>
    rw [Nat.testBit_succ, Nat.testBit_succ, Nat.testBit_succ, Nat.mul_div_cancel_left _ (by decide), Nat.mul_div_cancel_left _ (by decide), show (2 * (a - 1) + 1) / 2 = a - 1 by omega, Nat.testBit_and]
theorem and_pred_odd (a : Nat) : (2 * a + 1) &&& (2 * a + 1 - 1) = 2 * a := by
  rw [Nat.add_sub_cancel]
  apply Nat.eq_of_testBit_eq
  intro i
  rw [Nat.testBit_and]
  cases i with
  | zero => simp [Nat.testBit_zero]
  | succ i =>
    rw [Nat.testBit_succ, Nat.testBit_succ, Nat.mul_div_cancel_left _ (by decide), show (2 * a + 1) / 2 = a by omega, Bool.and_self]
theorem popN_pred : ∀ (n w : Nat), 0 < w → w < 2 ^ n → popN n (w &&& (w - 1)) + 1 = popN n w ∧ (w &&& (w - 1)) < w
  | 0, w, h0, h => by simp at h; omega
  | n + 1, w, h0, h => by
    have e : 2 ^ (n + 1) = 2 ^ n * 2 := Nat.pow_succ 2 n
    rcases Nat.mod_two_eq_zero_or_one w with h2 | h2
    · obtain ⟨a, rfl⟩ : ∃ a, w = 2 * a := ⟨w / 2, by omega⟩
      have ih := popN_pred n a (by omega) (by omega)
      rw [and_pred_even a (by omega)]
      unfold popN
      rw [Nat.mul_div_cancel_left _ (by decide), Nat.mul_div_cancel_left _ (by decide)]
      omega
    · obtain ⟨a, rfl⟩ : ∃ a, w = 2 * a + 1 := ⟨w / 2, by omega⟩
      rw [and_pred_odd a]
      unfold popN
      rw [Nat.mul_div_cancel_left _ (by decide), show (2 * a + 1) / 2 = a by omega]
      omega
theorem nI_and (a b : Nat) : nI a &&& nI b = nI (a &&& b) := nx_and a b
/-- Integer.bitCount, as its code has it -/
def bcI (x : Int32) : Int32 :=
  let u : Int32 → Int32 → Int32 := fun x y => (x.toUInt32 >>> (y.toUInt32 &&& Int32.toUInt32 31)).toInt32
  let a := x - (u x (nI 1) &&& nI 1431655765)
  let b := (a &&& nI 858993459) + (u a (nI 2) &&& nI 858993459)
  let c := (b + u b (nI 4)) &&& nI 252645135
  let d := c + u c (nI 8)
  let e := d + u d (nI 16)
  e &&& nI 63
def bcN (w : Nat) : Nat :=
  let a := w - ((w >>> 1) &&& 1431655765)
  let b := (a &&& 858993459) + ((a >>> 2) &&& 858993459)
  let c := (b + (b >>> 4)) &&& 252645135
  let d := c + (c >>> 8)
  let e := d + (d >>> 16)
  e &&& 63
theorem u_shr {a j : Nat} (ha : a < 2 ^ 32) (hj : j < 32) : ((nI a).toUInt32 >>> ((nI j).toUInt32 &&& Int32.toUInt32 31)).toInt32 = nI (a >>> j) := by
  rw [pk_ushrN ha (nI j) j (by
    have h : ∀ n, n < 32 → (((nI n).toUInt32 &&& Int32.toUInt32 31).toBitVec % 32).toNat = n := by decide +kernel
    exact h j hj), Nat.shiftRight_eq_div_pow]
theorem bc_N {w : Nat} (hw : w < 65536) : bcI (nI w) = nI (bcN w) := by
  unfold bcI bcN
  dsimp only
  have l1 : (w >>> 1) &&& 1431655765 ≤ w := Nat.le_trans Nat.and_le_left (by rw [Nat.shiftRight_eq_div_pow]; exact Nat.div_le_self _ _)
  rw [u_shr (show w < 2 ^ 32 by omega) (by decide), nI_and, pk_sub l1]
  generalize ha : w - (w >>> 1 &&& 1431655765) = a
  have a1 : a < 65536 := by omega
  have sr : ∀ x k : Nat, x >>> k ≤ x := fun x k => by rw [Nat.shiftRight_eq_div_pow]; exact Nat.div_le_self _ _
  rw [u_shr (show a < 2 ^ 32 by omega) (by decide), nI_and, nI_and, nI_add]
  have b1 : (a &&& 858993459) ≤ a := Nat.and_le_left
  have b2 : (a >>> 2 &&& 858993459) ≤ a := Nat.le_trans Nat.and_le_left (sr a 2)
  generalize hb : (a &&& 858993459) + (a >>> 2 &&& 858993459) = b
  have b3 := sr b 4
  rw [u_shr (show b < 2 ^ 32 by omega) (by decide), nI_add, nI_and]
  have c1 : ((b + b >>> 4) &&& 252645135) ≤ b + b >>> 4 := Nat.and_le_left
  generalize hc : ((b + b >>> 4) &&& 252645135) = c at c1
  have c2 := sr c 8
  rw [u_shr (show c < 2 ^ 32 by omega) (by decide), nI_add]
  generalize hd : c + c >>> 8 = d
  rw [u_shr (show d < 2 ^ 32 by omega) (by decide), nI_add, nI_and]
theorem bc_k0 : (List.range' 0 4096).all (fun w => bcN w == popN 16 w) = true := by decide +kernel
theorem bc_k1 : (List.range' 4096 4096).all (fun w => bcN w == popN 16 w) = true := by decide +kernel
theorem bc_k2 : (List.range' 8192 4096).all (fun w => bcN w == popN 16 w) = true := by decide +kernel
theorem bc_k3 : (List.range' 12288 4096).all (fun w => bcN w == popN 16 w) = true := by decide +kernel
theorem bc_k4 : (List.range' 16384 4096).all (fun w => bcN w == popN 16 w) = true := by decide +kernel
theorem bc_k5 : (List.range' 20480 4096).all (fun w => bcN w == popN 16 w) = true := by decide +kernel
theorem bc_k6 : (List.range' 24576 4096).all (fun w => bcN w == popN 16 w) = true := by decide +kernel
theorem bc_k7 : (List.range' 28672 4096).all (fun w => bcN w == popN 16 w) = true := by decide +kernel
theorem bc_k8 : (List.range' 32768 4096).all (fun w => bcN w == popN 16 w) = true := by decide +kernel
theorem bc_k9 : (List.range' 36864 4096).all (fun w => bcN w == popN 16 w) = true := by decide +kernel
theorem bc_k10 : (List.range' 40960 4096).all (fun w => bcN w == popN 16 w) = true := by decide +kernel
theorem bc_k11 : (List.range' 45056 4096).all (fun w => bcN w == popN 16 w) = true := by decide +kernel
theorem bc_k12 : (List.range' 49152 4096).all (fun w => bcN w == popN 16 w) = true := by decide +kernel
theorem bc_k13 : (List.range' 53248 4096).all (fun w => bcN w == popN 16 w) = true := by decide +kernel
theorem bc_k14 : (List.range' 57344 4096).all (fun w => bcN w == popN 16 w) = true := by decide +kernel
theorem bc_k15 : (List.range' 61440 4096).all (fun w => bcN w == popN 16 w) = true := by decide +kernel
theorem bc_pop {w : Nat} (hw : w < 65536) : bcN w = popN 16 w := by
  have g : ∀ a, (List.range' a 4096).all (fun w => bcN w == popN 16 w) = true → a ≤ w → w < a + 4096 → bcN w = popN 16 w := fun a e h1 h2 => by
    have h := List.all_eq_true.mp e w (List.mem_range'.mpr ⟨w - a, by omega, by omega⟩)
    exact eq_of_beq h
  rcases (show (0 ≤ w ∧ w < 4096) ∨ (4096 ≤ w ∧ w < 8192) ∨ (8192 ≤ w ∧ w < 12288) ∨ (12288 ≤ w ∧ w < 16384) ∨ (16384 ≤ w ∧ w < 20480) ∨ (20480 ≤ w ∧ w < 24576) ∨ (24576 ≤ w ∧ w < 28672) ∨ (28672 ≤ w ∧ w < 32768) ∨ (32768 ≤ w ∧ w < 36864) ∨ (36864 ≤ w ∧ w < 40960) ∨ (40960 ≤ w ∧ w < 45056) ∨ (45056 ≤ w ∧ w < 49152) ∨ (49152 ≤ w ∧ w < 53248) ∨ (53248 ≤ w ∧ w < 57344) ∨ (57344 ≤ w ∧ w < 61440) ∨ (61440 ≤ w ∧ w < 65536) by omega) with q | q | q | q | q | q | q | q | q | q | q | q | q | q | q | q
  · exact g 0 bc_k0 (by omega) (by omega)
  · exact g 4096 bc_k1 (by omega) (by omega)
  · exact g 8192 bc_k2 (by omega) (by omega)
  · exact g 12288 bc_k3 (by omega) (by omega)
  · exact g 16384 bc_k4 (by omega) (by omega)
  · exact g 20480 bc_k5 (by omega) (by omega)
  · exact g 24576 bc_k6 (by omega) (by omega)
  · exact g 28672 bc_k7 (by omega) (by omega)
  · exact g 32768 bc_k8 (by omega) (by omega)
  · exact g 36864 bc_k9 (by omega) (by omega)
  · exact g 40960 bc_k10 (by omega) (by omega)
  · exact g 45056 bc_k11 (by omega) (by omega)
  · exact g 49152 bc_k12 (by omega) (by omega)
  · exact g 53248 bc_k13 (by omega) (by omega)
  · exact g 57344 bc_k14 (by omega) (by omega)
  · exact g 61440 bc_k15 (by omega) (by omega)
theorem bc_M (p : Nat → Bool) : bcI (M p) = nI (popN 16 (mkN 16 p)) := by
  unfold M
  rw [bc_N (M_lt p), bc_pop (M_lt p)]
/-- the number of members of a mask -/
def mc (p : Nat → Bool) : Nat := popN 16 (mkN 16 p)
theorem popN_ct : ∀ (n w : Nat), popN n w = fb_ct (fun i => w.testBit i) n
  | n, w => by
    have key : ∀ (n w s : Nat), popN n (w >>> s) = fb_ct (fun i => w.testBit (s + i)) n := by
      intro n
      induction n with
      | zero => intro w s; rfl
      | succ n ih =>
        intro w s
        have e : fb_ct (fun i => w.testBit (s + i)) (n + 1) = (if w.testBit s then 1 else 0) + fb_ct (fun i => w.testBit (s + 1 + i)) n := by
          have h := ih w s
          clear h
          have gen : ∀ m, fb_ct (fun i => w.testBit (s + i)) (m + 1) = (if w.testBit s then 1 else 0) + fb_ct (fun i => w.testBit (s + 1 + i)) m := by
            intro m
            induction m with
            | zero => simp [fb_ct]
            | succ m ihm =>
              rw [fb_ct_succ, ihm, fb_ct_succ, Nat.add_assoc, show s + (m + 1) = s + 1 + m by omega]
          exact gen n
        rw [e]
        unfold popN
        rw [show w >>> s / 2 = w >>> (s + 1) by rw [Nat.shiftRight_succ], ih w (s + 1)]
        congr 1
        rw [Nat.testBit_eq_decide_div_mod_eq, Nat.shiftRight_eq_div_pow]
        rcases Nat.mod_two_eq_zero_or_one (w / 2 ^ s) with h | h <;> simp [h]
    have h := key n w 0
    simpa using h
theorem mc_ct (p : Nat → Bool) : mc p = fb_ct p 16 := by
  unfold mc
  rw [popN_ct]
  exact fb_ct_cong fun i hi => by rw [mkN_tb]; simp [hi]
