/-! THE PURE MACHINE: the same instructions over a heap of cells at the places 0, 1, 2 .. (place 0 is the script); what it runs, the Java machine runs (part 05) -/
abbrev pR : Type := Nat → Nat → Int32
abbrev pF : Type := Nat → Nat → Option Nat
/-- kind and size of each cell, the numbers in them, the references in them -/
abbrev pH : Type := List (Nat × Nat) × pR × pF
abbrev pL : Type := List (Option Value)
def u2 (f : pR) (k j : Nat) (v : Int32) : pR := fun a => if a = k then upd (f k) j v else f a
def q2 (f : pF) (k j : Nat) (v : Option Nat) : pF := fun a => if a = k then va_up (f k) j v else f a
def z2 (f : pR) (k : Nat) : pR := fun a => if a = k then (fun _ => 0) else f a
def n2 (f : pF) (k : Nat) : pF := fun a => if a = k then (fun _ => none) else f a
def c2 (f : pR) (s d sp dp n : Nat) : pR := fun a => if a = d then va_cpy (f s) (f d) sp dp n else f a
abbrev p_cl : List vw_C := [(RX0, TX0, 13), (RX1, TX1, 10), (RX2, TX2, 2), (RX3, TX3, 2), (RX4, TX4, 6), (RX0, TX0, 13)]
def p_cn (o : Nat) : String := match o with
  | 0 => RX0 | 1 => RX1 | 2 => RX2 | 3 => RX3 | 4 => RX4 | 5 => RX0 | 6 => RL | 7 => RJ6 | _ => RJ9
def p_T (a : Nat) : u_T := match a with
  | 0 => TX0 | 1 => TX1 | 2 => TX2 | 3 => TX3 | 4 => TX4 | _ => TX0
def p_ty (a : Nat) : Nat → FieldType := match a with
  | 0 => tyX0 | 1 => tyX1 | 2 => tyX2 | 3 => tyX3 | 4 => tyX4 | _ => tyX0
def p_N (a : Nat) : Nat := match a with
  | 0 => 13 | 1 => 10 | 2 => 2 | 3 => 2 | 4 => 6 | _ => 13
def p_tyI (t : FieldType) : Bool := match t with
  | .int => true
  | .boolean => true
  | _ => false
def p_isI (a j : Nat) : Bool := p_tyI (p_ty a j)
def p_isZ (a j : Nat) : Bool := match p_ty a j with
  | .boolean => true
  | _ => false
def p_mt (k : Nat) : pM := p_mts.getD k (yL_law, code, 0, none, (0, 0, 0, 0), (0, 0, 0, 0))
def p_y (k : Nat) : MethodName := (p_mt k).1
def p_by (k : Nat) : ByteArray := (p_mt k).2.1
def p_ml (k : Nat) : Nat := (p_mt k).2.2.1
def p_rt (k : Nat) : Option FieldType := (p_mt k).2.2.2.1
def p_kd (k : Nat) : Nat := (p_mt k).2.2.2.2.1.1
def p_na (k : Nat) : Nat := (p_mt k).2.2.2.2.1.2.1
def p_fr (k : Nat) : Nat := (p_mt k).2.2.2.2.1.2.2.1
def p_lo (k : Nat) : Nat := (p_mt k).2.2.2.2.1.2.2.2
def p_ow (k : Nat) : Nat := (p_mt k).2.2.2.2.2.1
def p_wc (k : Nat) : Nat := (p_mt k).2.2.2.2.2.2.1
def p_wi (k : Nat) : Nat := (p_mt k).2.2.2.2.2.2.2.1
def p_wl (k : Nat) : Nat := (p_mt k).2.2.2.2.2.2.2.2
def p_alu (a : Nat) (x y : Int32) : Int32 := match a with
  | 0 => x + y
  | 1 => x - y
  | 2 => x * y
  | 3 => x &&& y
  | 4 => x ||| y
  | 5 => x ^^^ y
  | 6 => x <<< (y &&& 31)
  | 7 => x >>> (y &&& 31)
  | _ => (x.toUInt32 >>> (y.toUInt32 &&& Int32.toUInt32 31)).toInt32
def p_cmp (a : Nat) (x y : Int32) : Bool := match a with
  | 0 => decide (x = y)
  | 1 => decide (¬ x = y)
  | 2 => decide (x < y)
  | 3 => decide (y ≤ x)
  | 4 => decide (y < x)
  | _ => decide (x ≤ y)
def p_c1 (S : List Value) : Bool := S.all fun v => v.category == 1
def p_in (i : Int32) (n : Nat) : Bool := decide (¬ (i < 0 ∨ n ≤ i.toNatClampNeg))
def p_fit (b : Nat) (x : Int32) : Bool := match b with
  | 10 => true
  | 11 => decide (vp_nar .char x = x)
  | 12 => decide (vp_nar .boolean x = x)
  | _ => false
def p_z (a : Bool) (x : Int32) : Bool := !a || (x == 0 || x == 1)
abbrev pO : Type := Option (pL × List Value × pH)
def o1 (a : Nat) (L : pL) (S : List Value) (h : pH) : pO := match L[a]? with
  | some (some (.int x)) => some (L, .int x :: S, h)
  | _ => none
def o2 (a : Nat) (L : pL) (S : List Value) (h : pH) : pO := match L[a]? with
  | some (some (.ref x)) => some (L, .ref x :: S, h)
  | _ => none
def o3 (a : Nat) (L : pL) (S : List Value) (h : pH) : pO := match S with
  | .int x :: S => if a < L.length then some (L.set a (some (.int x)), S, h) else none
  | _ => none
def o4 (a : Nat) (L : pL) (S : List Value) (h : pH) : pO := match S with
  | .ref x :: S => if a < L.length then some (L.set a (some (.ref x)), S, h) else none
  | _ => none
def o5 (a : Nat) (z : Int32) (L : pL) (S : List Value) (h : pH) : pO := match L[a]? with
  | some (some (.int x)) => some (L.set a (some (.int (x + z))), S, h)
  | _ => none
def o6 (a : Nat) (L : pL) (S : List Value) (h : pH) : pO := match S with
  | .int y :: .int x :: S => some (L, .int (p_alu a x y) :: S, h)
  | _ => none
def o7 (L : pL) (S : List Value) (h : pH) : pO := match S with
  | .int x :: S => some (L, .int (-x) :: S, h)
  | _ => none
def o8 (L : pL) (S : List Value) (h : pH) : pO := match S with
  | .int y :: .int x :: S => if y = 0 then none else some (L, .int (x - x / y * y) :: S, h)
  | _ => none
def o9 (L : pL) (S : List Value) (h : pH) : pO := match S with
  | .int x :: S => some (L, .int ((x.toUInt32 % 65536).toInt32) :: S, h)
  | _ => none
def o10 (L : pL) (S : List Value) (h : pH) : pO := match S with
  | v :: S => if v.category = 1 then some (L, v :: v :: S, h) else none
  | _ => none
def o11 (L : pL) (S : List Value) (h : pH) : pO := match S with
  | v :: w :: S => if v.category = 1 ∧ w.category = 1 then some (L, v :: w :: v :: w :: S, h) else none
  | _ => none
def o12 (L : pL) (S : List Value) (h : pH) : pO := match S with
  | v :: S => if v.category = 1 then some (L, S, h) else none
  | _ => none
def o13 (b : Nat) (L : pL) (S : List Value) (h : pH) : pO := match S with
  | .int i :: .ref o :: S => match h.1[o]? with
    | some (kd, n) => if kd = b ∧ p_in i n = true then some (L, .int (h.2.1 o i.toNatClampNeg) :: S, h) else none
    | none => none
  | _ => none
def o14 (L : pL) (S : List Value) (h : pH) : pO := match S with
  | .int i :: .ref o :: S => match h.1[o]? with
    | some (kd, n) => if kd = 13 ∧ 1 ≤ o ∧ p_in i n = true then some (L, va_rf (h.2.2 o i.toNatClampNeg) :: S, h) else none
    | none => none
  | _ => none
def o15 (b : Nat) (L : pL) (S : List Value) (h : pH) : pO := match S with
  | .int x :: .int i :: .ref o :: S => match h.1[o]? with
    | some (kd, n) => if kd = b ∧ 1 ≤ o ∧ p_in i n = true ∧ p_fit b x = true then some (L, S, h.1, u2 h.2.1 o i.toNatClampNeg x, h.2.2) else none
    | none => none
  | _ => none
def o16 (L : pL) (S : List Value) (h : pH) : pO := match S with
  | .ref v :: .int i :: .ref o :: S => match h.1[o]?, h.1[v]? with
    | some (kd, n), some (kv, nv) => if kd = 13 ∧ 1 ≤ o ∧ p_in i n = true ∧ kv = 2 ∧ 1 ≤ v then some (L, S, h.1, h.2.1, q2 h.2.2 o i.toNatClampNeg (some v)) else none
    | _, _ => none
  | _ => none
def o17 (L : pL) (S : List Value) (h : pH) : pO := match S with
  | .ref o :: S => match h.1[o]? with
    | some (kd, n) => if 10 ≤ kd ∧ kd ≤ 13 then some (L, .int (Int32.ofNat n) :: S, h) else none
    | none => none
  | _ => none
def o18 (a b : Nat) (L : pL) (S : List Value) (h : pH) : pO := match S with
  | .ref o :: S => match h.1[o]? with
    | some (kd, n) => if kd = a ∧ a < 6 ∧ n = p_N a ∧ b < n ∧ 1 ≤ o then some (L, (if p_isI a b = true then .int (h.2.1 o b) else va_rf (h.2.2 o b)) :: S, h) else none
    | none => none
  | _ => none
def o19 (a b : Nat) (L : pL) (S : List Value) (h : pH) : pO := match S with
  | .int x :: .ref o :: S => match h.1[o]? with
    | some (kd, n) => if kd = a ∧ a < 6 ∧ n = p_N a ∧ b < n ∧ 1 ≤ o ∧ p_isI a b = true ∧ p_z (p_isZ a b) x = true then some (L, S, h.1, u2 h.2.1 o b x, h.2.2) else none
    | none => none
  | .ref x :: .ref o :: S => match h.1[o]? with
    | some (kd, n) => if kd = a ∧ a < 6 ∧ n = p_N a ∧ b < n ∧ 1 ≤ o ∧ p_isI a b = false then some (L, S, h.1, h.2.1, q2 h.2.2 o b (some x)) else none
    | none => none
  | _ => none
def o21 (a : Nat) (L : pL) (S : List Value) (h : pH) : pO :=
  if a < 6 ∧ 1 ≤ h.1.length then some (L, .ref h.1.length :: S, h.1 ++ [(a, p_N a)], z2 h.2.1 h.1.length, n2 h.2.2 h.1.length) else none
def o22 (a : Nat) (L : pL) (S : List Value) (h : pH) : pO := match S with
  | .int n :: S => if ¬ n < 0 ∧ n.toNatClampNeg ≤ 100000 ∧ 1 ≤ h.1.length ∧ (a = 10 ∨ a = 11 ∨ a = 12) then some (L, .ref h.1.length :: S, h.1 ++ [(a, n.toNatClampNeg)], z2 h.2.1 h.1.length, n2 h.2.2 h.1.length) else none
  | _ => none
def o23 (L : pL) (S : List Value) (h : pH) : pO := match S with
  | .int n :: S => if ¬ n < 0 ∧ n.toNatClampNeg ≤ 100000 ∧ 1 ≤ h.1.length then some (L, .ref h.1.length :: S, h.1 ++ [(13, n.toNatClampNeg)], z2 h.2.1 h.1.length, n2 h.2.2 h.1.length) else none
  | _ => none
def o24 (L : pL) (S : List Value) (h : pH) : pO := match S with
  | .ref _ :: S => if S.length ≤ 8 ∧ p_c1 S = true then some (L, S, h) else none
  | _ => none
def o25 (L : pL) (S : List Value) (h : pH) : pO := match S with
  | [.int n, .int dp, .ref d, .int sp, .ref s] => match h.1[s]?, h.1[d]? with
    | some (k1, n1), some (k2, n2) => if k1 = 10 ∧ k2 = 10 ∧ 1 ≤ s ∧ 1 ≤ d ∧ ¬ sp < 0 ∧ ¬ dp < 0 ∧ ¬ n < 0 ∧ sp.toNatClampNeg + n.toNatClampNeg ≤ n1 ∧ dp.toNatClampNeg + n.toNatClampNeg ≤ n2 then some (L, [], h.1, c2 h.2.1 s d sp.toNatClampNeg dp.toNatClampNeg n.toNatClampNeg, h.2.2) else none
    | _, _ => none
  | _ => none
/-- a long in the cells of references: its bits as a natural -/
def p_l (r : Option Nat) : Int64 := match r with
  | some n => Int64.ofNat n
  | none => 0
/-- longs -/
def ol0 (b : Nat) (L : pL) (S : List Value) (h : pH) : pO := some (L, .long (Int64.ofNat b) :: S, h)
def ol1 (b : Nat) (L : pL) (S : List Value) (h : pH) : pO := match L[b]? with
  | some (some (.long x)) => some (L, .long x :: S, h)
  | _ => none
def ol2 (b : Nat) (L : pL) (S : List Value) (h : pH) : pO := match S with
  | .long x :: S => if b + 1 < L.length then some ((L.set b (some (.long x))).set (b + 1) none, S, h) else none
  | _ => none
def ol3 (a : Nat) (L : pL) (S : List Value) (h : pH) : pO := match S with
  | .long y :: .long x :: S => some (L, (if a = 3 then .long (x + y) else if a = 4 then .long (x * y) else if a = 5 then .long (x &&& y) else .int (lg_cmp x y)) :: S, h)
  | _ => none
def ol6 (L : pL) (S : List Value) (h : pH) : pO := match S with
  | .int y :: .long x :: S => some (L, .long (x >>> (y.toInt64 &&& 63)) :: S, h)
  | _ => none
def ol8 (L : pL) (S : List Value) (h : pH) : pO := match S with
  | .int x :: S => some (L, .long x.toInt64 :: S, h)
  | _ => none
def ol9 (L : pL) (S : List Value) (h : pH) : pO := match S with
  | .long x :: S => some (L, .int x.toInt32 :: S, h)
  | _ => none
def ol10 (L : pL) (S : List Value) (h : pH) : pO := match S with
  | .int i :: .ref o :: S => match h.1[o]? with
    | some (kd, n) => if kd = 12 ∧ 1 ≤ o ∧ p_in i n = true then some (L, .long (p_l (h.2.2 o i.toNatClampNeg)) :: S, h) else none
    | none => none
  | _ => none
def ol11 (L : pL) (S : List Value) (h : pH) : pO := match S with
  | .long x :: .int i :: .ref o :: S => match h.1[o]? with
    | some (kd, n) => if kd = 12 ∧ 1 ≤ o ∧ p_in i n = true then some (L, S, h.1, h.2.1, q2 h.2.2 o i.toNatClampNeg (some x.toUInt64.toNat)) else none
    | none => none
  | _ => none
def ol12 (L : pL) (S : List Value) (h : pH) : pO := match S with
  | .int y :: .int x :: S => if y = 0 then none else some (L, .int (x / y) :: S, h)
  | _ => none
def o28 (a b : Nat) (L : pL) (S : List Value) (h : pH) : pO := match a with
  | 0 => ol0 b L S h
  | 1 => ol1 b L S h
  | 2 => ol2 b L S h
  | 3 => ol3 3 L S h
  | 4 => ol3 4 L S h
  | 5 => ol3 5 L S h
  | 6 => ol6 L S h
  | 7 => ol3 7 L S h
  | 8 => ol8 L S h
  | 9 => ol9 L S h
  | 10 => ol10 L S h
  | 11 => ol11 L S h
  | 12 => ol12 L S h
  | _ => none
/-- Math.max (26), Math.min (27) -/
def o26 (L : pL) (S : List Value) (h : pH) : pO := match S with
  | .int y :: .int x :: S => if S.length ≤ 8 ∧ p_c1 S = true then some (L, .int (if x < y then y else x) :: S, h) else none
  | _ => none
def o27 (L : pL) (S : List Value) (h : pH) : pO := match S with
  | .int y :: .int x :: S => if S.length ≤ 8 ∧ p_c1 S = true then some (L, .int (if y < x then y else x) :: S, h) else none
  | _ => none
def p_op (o a b : Nat) (z : Int32) (L : pL) (S : List Value) (h : pH) : pO := match o with
  | 0 => some (L, .int z :: S, h)
  | 1 => o1 a L S h
  | 2 => o2 a L S h
  | 3 => o3 a L S h
  | 4 => o4 a L S h
  | 5 => o5 a z L S h
  | 6 => o6 a L S h
  | 7 => o7 L S h
  | 8 => o8 L S h
  | 9 => o9 L S h
  | 10 => o10 L S h
  | 11 => o11 L S h
  | 12 => o12 L S h
  | 13 => o13 b L S h
  | 14 => o14 L S h
  | 15 => o15 b L S h
  | 16 => o16 L S h
  | 17 => o17 L S h
  | 18 => o18 a b L S h
  | 19 => o19 a b L S h
  | 20 => o19 a b L S h
  | 21 => o21 a L S h
  | 22 => o22 a L S h
  | 23 => o23 L S h
  | 24 => o24 L S h
  | 25 => o25 L S h
  | 26 => o26 L S h
  | 27 => o27 L S h
  | 28 => o28 a b L S h
  | _ => none
/-- a branch: where it goes -/
def p_br (o a b : Nat) (z : Int32) (t : List Nat) (i : Nat) (S : List Value) : Option (Nat × List Value) := match o with
  | 30 => some (b, S)
  | 31 => match S with
    | .int y :: .int x :: S => some (if p_cmp a x y = true then b else i + 1, S)
    | _ => none
  | 32 => match S with
    | .int x :: S => some (if p_cmp a x 0 = true then b else i + 1, S)
    | _ => none
  | 33 => match S with
    | .int x :: S => some (if x.toInt < z.toInt ∨ z.toInt + t.length ≤ x.toInt then b else t.getD (x.toInt - z.toInt).toNat 0, S)
    | _ => none
  | _ => none
/-- what a call asks of its arguments -/
def p_call (o a : Nat) (args : List Value) (h : pH) : Bool := match o with
  | 40 => true
  | 41 => match args with
    | .ref r :: _ => match h.1[r]? with
      | some (kd, _) => kd == p_ow a && (decide (1 ≤ r) && decide (kd < 6))
      | none => false
    | _ => false
  | 42 => match args with
    | .ref _ :: _ => true
    | _ => false
  | 43 => true
  | 44 => match args with
    | .ref r :: _ => match h.1[r]? with
      | some (kd, _) => kd == p_ow a && (decide (1 ≤ r) && decide (kd < 6))
      | none => false
    | _ => false
  | _ => false
/-- an answer -/
def p_ret (o : Nat) (S : List Value) : Option (Option Value) := match o with
  | 50 => match S with
    | [] => some none
    | _ => none
  | 51 => match S with
    | [.int x] => some (some (.int x))
    | _ => none
  | 52 => match S with
    | [.int x] => if x = 0 ∨ x = 1 then some (some (.int x)) else none
    | _ => none
  | 53 => match S with
    | [.long x] => some (some (.long x))
    | _ => none
  | _ => none
/-- arguments as they lie in the locals: a long takes two places -/
def p_e2 : List Value → pL
  | [] => []
  | v :: vs => if v.category = 2 then some v :: none :: p_e2 vs else some v :: p_e2 vs
def p_ent (k : Nat) (args : List Value) : pL := p_e2 args ++ List.replicate (p_ml k - (p_e2 args).length) none
def p_cs (S : List Value) : Nat := (S.map fun v => v.category).sum
def p_up (k : Nat) : List Nat := match p_ups.find? (fun q => q.1 == k) with
  | some q => q.2
  | none => []
def p_ok2 (up : List Nat) : Nat → List Value → Bool
  | _, [] => true
  | i, v :: vs => if v.category = 2 then up.contains (i + 1) && p_ok2 up (i + 2) vs else p_ok2 up (i + 1) vs
/-- what a call asks of the stack -/
def p_cc (o a b : Nat) (S : List Value) : Bool :=
  if o < 43 then decide (b ≤ S.length) && (decide ((S.drop b).length ≤ 8) && p_c1 S)
  else decide (b ≤ S.length) && (decide (p_cs (S.drop b) ≤ 8) && (p_ok2 (p_up a) 0 (S.take b).reverse && decide ((p_e2 (S.take b).reverse).length ≤ p_ml a)))
def pex : Nat → List pI → Nat → pL → List Value → pH → Option (Option Value × pH)
  | 0, _, _, _, _, _ => none
  | n + 1, cd, i, L, S, h => match cd[i]? with
    | none => none
    | some (o, a, b, z, t) =>
      if o < 30 then match p_op o a b z L S h with
        | none => none
        | some (L', S', h') => pex n cd (i + 1) L' S' h'
      else if o < 40 then match p_br o a b z t i S with
        | none => none
        | some (i', S') => pex n cd i' L S' h
      else if o < 50 then
        if p_cc o a b S = true ∧ p_call o a (S.take b).reverse h = true then
          match pex n (p_cd a) 0 (p_ent a (S.take b).reverse) [] h with
          | none => none
          | some (r, h') => pex n cd (i + 1) L (r.toList ++ S.drop b) h'
        else none
      else match p_ret o S with
        | none => none
        | some r => some (r, h)
