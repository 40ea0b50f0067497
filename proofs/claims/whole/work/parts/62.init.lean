/-! the constructors -/
def Zr (N : Nat) (ρ : pR) (rf : pF) : Prop := ∀ k, N ≤ k → ρ k = (fun _ => 0) ∧ rf k = (fun _ => none)
theorem q2_o {f : pF} {k j a : Nat} {v : Option Nat} (h : a ≠ k) : q2 f k j v a = f a := if_neg h
theorem q2_eq {f : pF} {k j : Nat} {v : Option Nat} : q2 f k j v k j = v := by
  show (if k = k then va_up (f k) j v else f k) j = v
  rw [if_pos rfl]
  exact if_pos rfl
theorem q2_nj {f : pF} {k j b : Nat} {v : Option Nat} (h : b ≠ j) : q2 f k j v k b = f k b := by
  show (if k = k then va_up (f k) j v else f k) b = _
  rw [if_pos rfl]
  exact if_neg h
section
variable {cd : List pI} {i a b o n v N : Nat} {z : Int32} {t : List Nat} {L : pL} {S : List Value} {Q : Option Value × pH → Prop} {ls : List (Nat × Nat)} {ρ : pR} {rf : pF}
theorem Zr.s (h : Zr N ρ rf) (k : Nat) : Zr (N + k) ρ rf := fun i hi => h i (by omega)
theorem Zr.q (h : Zr N ρ rf) (ho : o < N) (b : Nat) (v : Option Nat) : Zr N ρ (q2 rf o b v) := fun i hi => ⟨(h i hi).1, by rw [q2_o (by omega)]; exact (h i hi).2⟩
theorem Zr.u (h : Zr N ρ rf) (ho : o < N) (g : Nat → Int32) : Zr N (u1 ρ o g) rf := fun i hi => ⟨by rw [u1_ne (by omega)]; exact (h i hi).1, (h i hi).2⟩
theorem z2_id {f : pR} (h : f N = fun _ => 0) : z2 f N = f := by
  funext k
  unfold z2
  by_cases e : k = N
  · rw [if_pos e, e, h]
  · rw [if_neg e]
theorem n2_id {f : pF} (h : f N = fun _ => none) : n2 f N = f := by
  funext k
  unfold n2
  by_cases e : k = N
  · rw [if_pos e, e, h]
  · rw [if_neg e]
theorem gA {tl : List (Nat × Nat)} {w : Nat × Nat} (h : ls[o]? = some w) : (ls ++ tl)[o]? = some w := by
  obtain ⟨h1, h2⟩ := List.getElem?_eq_some_iff.mp h
  rw [List.getElem?_append_left h1]
  exact h
theorem gN (hN : ls.length = N) (w : Nat × Nat) (tl : List (Nat × Nat)) : (ls ++ w :: tl)[N]? = some w := by
  rw [List.getElem?_append_right (by omega), hN, Nat.sub_self]
  rfl
theorem gL (hN : ls.length = N) (tl : List (Nat × Nat)) : (ls ++ tl).length = N + tl.length := by rw [List.length_append, hN]
theorem gB {w : Nat × Nat} (hN : ls.length = N) (h : ls[o]? = some w) : o < N := by
  obtain ⟨h1, h2⟩ := List.getElem?_eq_some_iff.mp h
  omega
theorem PW_h {h h' : pH} (e : h' = h) (kk : PW cd i L S h' Q) : PW cd i L S h Q := by rw [← e]; exact kk
theorem G_new (hc : cd[i]? = some (21, a, b, z, t)) (hN : ls.length = N) (h1 : a < 6 ∧ 1 ≤ N) (hz : Zr N ρ rf) (hn : p_N a = n) (kk : PW cd (i + 1) L (.ref N :: S) (ls ++ [(a, n)], ρ, rf) Q) : PW cd i L S (ls, ρ, rf) Q := PW_op hc (by decide) (by
  simp only [p_op, o21]
  rw [hN, if_pos h1, z2_id (hz N (Nat.le_refl _)).1, n2_id (hz N (Nat.le_refl _)).2, hn]) kk
theorem G_arr (hc : cd[i]? = some (22, a, b, z, t)) (hN : ls.length = N) (h1 : 1 ≤ N) (ha : a = 10 ∨ a = 11 ∨ a = 12) (hn : n ≤ 100000) (hz : Zr N ρ rf) (kk : PW cd (i + 1) L (.ref N :: S) (ls ++ [(a, n)], ρ, rf) Q) : PW cd i L (.int (nI n) :: S) (ls, ρ, rf) Q := PW_op hc (by decide) (by
  simp only [p_op, o22]
  rw [nI_clamp (by omega), hN, if_pos ⟨nI_pos (by omega), hn, h1, ha⟩, z2_id (hz N (Nat.le_refl _)).1, n2_id (hz N (Nat.le_refl _)).2]) kk
theorem G_anew (hc : cd[i]? = some (23, a, b, z, t)) (hN : ls.length = N) (h1 : 1 ≤ N) (hn : n ≤ 100000) (hz : Zr N ρ rf) (kk : PW cd (i + 1) L (.ref N :: S) (ls ++ [(13, n)], ρ, rf) Q) : PW cd i L (.int (nI n) :: S) (ls, ρ, rf) Q := PW_op hc (by decide) (by
  simp only [p_op, o23]
  rw [nI_clamp (by omega), hN, if_pos ⟨nI_pos (by omega), hn, h1⟩, z2_id (hz N (Nat.le_refl _)).1, n2_id (hz N (Nat.le_refl _)).2]) kk
theorem G_obj {h : pH} (hc : cd[i]? = some (24, a, b, z, t)) (hs : (decide (S.length ≤ 8) && p_c1 S) = true) (kk : PW cd (i + 1) L S h Q) : PW cd i L (.ref o :: S) h Q := PW_op hc (by decide) (by
  simp only [Bool.and_eq_true, decide_eq_true_eq] at hs
  simp only [p_op, o24]
  rw [if_pos hs]) kk
theorem G_putR {op x : Nat} (hc : cd[i]? = some (op, a, b, z, t)) (hop : op = 20) (hs : ls[o]? = some (a, n)) (ho : 1 ≤ o) (hd : (decide (a < 6 ∧ n = p_N a ∧ b < n) && !p_isI a b) = true) (kk : PW cd (i + 1) L S (ls, ρ, q2 rf o b (some x)) Q) : PW cd i L (.ref x :: .ref o :: S) (ls, ρ, rf) Q := by
  subst hop
  exact PW_op hc (by decide) (by
    simp only [Bool.and_eq_true, decide_eq_true_eq, Bool.not_eq_true'] at hd
    simp only [p_op, o19]
    rw [hs]
    dsimp only
    rw [if_pos ⟨rfl, hd.1.1, hd.1.2.1, hd.1.2.2, ho, hd.2⟩]) kk
theorem G_put0 {x : Int32} (hc : cd[i]? = some (19, a, b, z, t)) (hs : ls[o]? = some (a, n)) (ho : 1 ≤ o) (hd : (decide (a < 6 ∧ n = p_N a ∧ b < n) && (p_isI a b && p_z (p_isZ a b) x)) = true) (hv : ρ o b = x) (kk : PW cd (i + 1) L S (ls, ρ, rf) Q) : PW cd i L (.int x :: .ref o :: S) (ls, ρ, rf) Q := PW_op hc (by decide) (by
  simp only [Bool.and_eq_true, decide_eq_true_eq] at hd
  simp only [p_op, o19]
  rw [hs]
  dsimp only
  rw [if_pos ⟨rfl, hd.1.1, hd.1.2.1, hd.1.2.2, ho, hd.2.1, hd.2.2⟩, ← hv, u2_id]) kk
theorem G_getR (hc : cd[i]? = some (18, a, b, z, t)) (hs : ls[o]? = some (a, n)) (ho : 1 ≤ o) (hd : (decide (a < 6 ∧ n = p_N a ∧ b < n) && !p_isI a b) = true) (hv : rf o b = some v) (kk : PW cd (i + 1) L (.ref v :: S) (ls, ρ, rf) Q) : PW cd i L (.ref o :: S) (ls, ρ, rf) Q := PW_op hc (by decide) (by
  simp only [Bool.and_eq_true, decide_eq_true_eq, Bool.not_eq_true'] at hd
  simp only [p_op, o18]
  rw [hs]
  dsimp only
  rw [if_pos ⟨rfl, hd.1.1, hd.1.2.1, hd.1.2.2, ho⟩, if_neg (by rw [hd.2]; exact Bool.false_ne_true), hv]
  rfl) kk
theorem G_ast {j : Nat} {x : Int32} (hc : cd[i]? = some (15, 0, 10, z, t)) (hs : ls[o]? = some (10, n)) (hn : 1 ≤ o ∧ n ≤ 100000) (hj : j < n) (kk : PW cd (i + 1) L S (ls, u2 ρ o j x, rf) Q) : PW cd i L (.int x :: .int (nI j) :: .ref o :: S) (ls, ρ, rf) Q := PW_op hc (by decide) (by
  simp only [p_op, o15]
  rw [hs]
  dsimp only
  rw [if_pos ⟨rfl, hn.1, p_inN hj hn.2, rfl⟩, nI_clamp (by omega)]) kk
theorem G_aast {j nv : Nat} (hc : cd[i]? = some (16, 0, 0, z, t)) (hs : ls[o]? = some (13, n)) (hn : 1 ≤ o ∧ n ≤ 100000) (hj : j < n) (hv : ls[v]? = some (2, nv)) (h1 : 1 ≤ v) (kk : PW cd (i + 1) L S (ls, ρ, q2 rf o j (some v)) Q) : PW cd i L (.ref v :: .int (nI j) :: .ref o :: S) (ls, ρ, rf) Q := PW_op hc (by decide) (by
  simp only [p_op, o16]
  rw [hs, hv]
  dsimp only
  rw [if_pos ⟨rfl, hn.1, p_inN hj hn.2, rfl, h1⟩, nI_clamp (by omega)]) kk
def IL : List (Nat × Nat) := [(10, 16), (10, 16), (10, 16), (10, 16), (10, 16), (10, 16), (10, 16), (10, 16)]
def ML : List (Nat × Nat) := [(10, 24), (10, 6), (10, 6), (10, 6), (10, 6), (10, 6), (10, 6), (10, 6), (10, 6)]
def SL : List (Nat × Nat) := [(0, 13), (10, 16), (10, 16), (10, 16), (10, 16), (10, 16), (10, 16), (10, 16), (10, 16), (1, 10), (10, 24), (10, 6), (10, 6), (10, 6), (10, 6), (10, 6), (10, 6), (10, 6), (10, 6)]
def mj (j : Nat) : Nat → Int32 := fun s => if s < j then -1 else 0
theorem mj_s (j : Nat) : upd (mj j) j (-1) = mj (j + 1) := by
  funext s
  unfold mj
  by_cases e : s = j
  · rw [e, up_eq, if_pos (Nat.lt_succ_self j)]
  · rw [up_ne e]
    by_cases q : s < j
    · rw [if_pos q, if_pos (by omega)]
    · rw [if_neg q, if_neg (by omega)]
theorem mj_0 : mj 0 = fun _ => 0 := by
  funext s
  exact if_neg (Nat.not_lt_zero s)
theorem mj_2 {a b j : Nat} (h : a ≠ b) : u2 (u2 (u1 (u1 ρ a (mj j)) b (mj j)) a j (-1)) b j (-1) = u1 (u1 ρ a (mj (j + 1))) b (mj (j + 1)) := by
  funext k
  by_cases kb : k = b
  · subst kb
    rw [u2_at, u1_at, u2_ne (Ne.symm h), u1_at, mj_s]
  · rw [u2_ne kb, u1_ne kb]
    by_cases ka : k = a
    · subst ka
      rw [u2_at, u1_ne kb, u1_at, u1_at, mj_s]
    · rw [u2_ne ka, u1_ne kb, u1_ne ka, u1_ne ka]
def rfI (rf : pF) (o N : Nat) : pF := (q2 (q2 (q2 (q2 (q2 (q2 (q2 (q2 rf o 5 (some N)) o 6 (some (N + 1))) o 7 (some (N + 2))) o 8 (some (N + 3))) o 9 (some (N + 4))) o 10 (some (N + 5))) o 11 (some (N + 6))) o 12 (some (N + 7)))
def rfM (rf : pF) (o N : Nat) : pF := (q2 (q2 (q2 (q2 (q2 (q2 (q2 (q2 (q2 rf o 1 (some N)) o 2 (some (N + 1))) o 3 (some (N + 2))) o 4 (some (N + 3))) o 5 (some (N + 4))) o 6 (some (N + 5))) o 7 (some (N + 6))) o 8 (some (N + 7))) o 9 (some (N + 8)))
def rM (ρ : pR) (N : Nat) : pR := u1 (u1 ρ (N + 3) (mj 6)) (N + 4) (mj 6)
theorem Zr_I (h : Zr N ρ rf) (ho : o < N) : Zr (N + 8) ρ (rfI rf o N) := fun i hi => ⟨(h i (by omega)).1, by
  unfold rfI
  simp only [q2_o (show i ≠ o by omega)]
  exact (h i (by omega)).2⟩
theorem Zr_M (h : Zr N ρ rf) (ho : o < N) : Zr (N + 9) (rM ρ N) (rfM rf o N) := fun i hi => ⟨by
  unfold rM
  rw [u1_ne (by omega), u1_ne (by omega)]
  exact (h i (by omega)).1, by
  unfold rfM
  simp only [q2_o (show i ≠ o by omega)]
  exact (h i (by omega)).2⟩
theorem i_Inputs (hl : ls[o]? = some (0, 13)) (ho : 1 ≤ o) (hN : ls.length = N) (hz : Zr N ρ rf) (h0 : ρ o = fun _ => 0) : PC 0 [.ref o] (ls, ρ, rf) none (ls ++ IL, ρ, rfI rf o N) := by
  have hoN := gB hN hl
  refine PC_of (cd := p_c_X0_init) (L0 := [some (.ref o)]) rfl rfl ?_
  refine R_la0 rfl ?_
  refine G_obj rfl rfl ?_
  refine R_la0 rfl ?_
  refine R_n 0 rfl rfl ?_
  refine G_put0 rfl hl ho rfl (congrFun h0 0) ?_
  refine R_la0 rfl ?_
  refine R_n 0 rfl rfl ?_
  refine G_put0 rfl hl ho rfl (congrFun h0 1) ?_
  refine R_la0 rfl ?_
  refine R_n 0 rfl rfl ?_
  refine G_put0 rfl hl ho rfl (congrFun h0 2) ?_
  refine R_la0 rfl ?_
  refine R_n 0 rfl rfl ?_
  refine G_put0 rfl hl ho rfl (congrFun h0 3) ?_
  refine R_la0 rfl ?_
  refine R_n 0 rfl rfl ?_
  refine G_put0 rfl hl ho rfl (congrFun h0 4) ?_
  refine R_la0 rfl ?_
  refine R_n 16 rfl rfl ?_
  refine G_arr rfl hN (by omega) (Or.inl rfl) (by decide) hz ?_
  have hN1 : (ls ++ [(10, 16)]).length = N + 1 := gL hN [(10, 16)]
  have hl1 : (ls ++ [(10, 16)])[o]? = some (0, 13) := gA hl
  refine G_putR rfl rfl hl1 ho rfl ?_
  have hz1 : Zr (N + 1) _ _ := ((hz).s 1).q (o := o) (by omega) 5 (some N)
  refine R_la0 rfl ?_
  refine R_n 16 rfl rfl ?_
  refine G_arr rfl hN1 (by omega) (Or.inl rfl) (by decide) hz1 ?_
  have hN2 : ((ls ++ [(10, 16)]) ++ [(10, 16)]).length = N + 2 := gL hN1 [(10, 16)]
  have hl2 : ((ls ++ [(10, 16)]) ++ [(10, 16)])[o]? = some (0, 13) := gA hl1
  refine G_putR rfl rfl hl2 ho rfl ?_
  have hz2 : Zr (N + 2) _ _ := ((hz1).s 1).q (o := o) (by omega) 6 (some (N + 1))
  refine R_la0 rfl ?_
  refine R_n 16 rfl rfl ?_
  refine G_arr rfl hN2 (by omega) (Or.inl rfl) (by decide) hz2 ?_
  have hN3 : (((ls ++ [(10, 16)]) ++ [(10, 16)]) ++ [(10, 16)]).length = N + 3 := gL hN2 [(10, 16)]
  have hl3 : (((ls ++ [(10, 16)]) ++ [(10, 16)]) ++ [(10, 16)])[o]? = some (0, 13) := gA hl2
  refine G_putR rfl rfl hl3 ho rfl ?_
  have hz3 : Zr (N + 3) _ _ := ((hz2).s 1).q (o := o) (by omega) 7 (some (N + 2))
  refine R_la0 rfl ?_
  refine R_n 16 rfl rfl ?_
  refine G_arr rfl hN3 (by omega) (Or.inl rfl) (by decide) hz3 ?_
  have hN4 : ((((ls ++ [(10, 16)]) ++ [(10, 16)]) ++ [(10, 16)]) ++ [(10, 16)]).length = N + 4 := gL hN3 [(10, 16)]
  have hl4 : ((((ls ++ [(10, 16)]) ++ [(10, 16)]) ++ [(10, 16)]) ++ [(10, 16)])[o]? = some (0, 13) := gA hl3
  refine G_putR rfl rfl hl4 ho rfl ?_
  have hz4 : Zr (N + 4) _ _ := ((hz3).s 1).q (o := o) (by omega) 8 (some (N + 3))
  refine R_la0 rfl ?_
  refine R_n 16 rfl rfl ?_
  refine G_arr rfl hN4 (by omega) (Or.inl rfl) (by decide) hz4 ?_
  have hN5 : (((((ls ++ [(10, 16)]) ++ [(10, 16)]) ++ [(10, 16)]) ++ [(10, 16)]) ++ [(10, 16)]).length = N + 5 := gL hN4 [(10, 16)]
  have hl5 : (((((ls ++ [(10, 16)]) ++ [(10, 16)]) ++ [(10, 16)]) ++ [(10, 16)]) ++ [(10, 16)])[o]? = some (0, 13) := gA hl4
  refine G_putR rfl rfl hl5 ho rfl ?_
  have hz5 : Zr (N + 5) _ _ := ((hz4).s 1).q (o := o) (by omega) 9 (some (N + 4))
  refine R_la0 rfl ?_
  refine R_n 16 rfl rfl ?_
  refine G_arr rfl hN5 (by omega) (Or.inl rfl) (by decide) hz5 ?_
  have hN6 : ((((((ls ++ [(10, 16)]) ++ [(10, 16)]) ++ [(10, 16)]) ++ [(10, 16)]) ++ [(10, 16)]) ++ [(10, 16)]).length = N + 6 := gL hN5 [(10, 16)]
  have hl6 : ((((((ls ++ [(10, 16)]) ++ [(10, 16)]) ++ [(10, 16)]) ++ [(10, 16)]) ++ [(10, 16)]) ++ [(10, 16)])[o]? = some (0, 13) := gA hl5
  refine G_putR rfl rfl hl6 ho rfl ?_
  have hz6 : Zr (N + 6) _ _ := ((hz5).s 1).q (o := o) (by omega) 10 (some (N + 5))
  refine R_la0 rfl ?_
  refine R_n 16 rfl rfl ?_
  refine G_arr rfl hN6 (by omega) (Or.inl rfl) (by decide) hz6 ?_
  have hN7 : (((((((ls ++ [(10, 16)]) ++ [(10, 16)]) ++ [(10, 16)]) ++ [(10, 16)]) ++ [(10, 16)]) ++ [(10, 16)]) ++ [(10, 16)]).length = N + 7 := gL hN6 [(10, 16)]
  have hl7 : (((((((ls ++ [(10, 16)]) ++ [(10, 16)]) ++ [(10, 16)]) ++ [(10, 16)]) ++ [(10, 16)]) ++ [(10, 16)]) ++ [(10, 16)])[o]? = some (0, 13) := gA hl6
  refine G_putR rfl rfl hl7 ho rfl ?_
  have hz7 : Zr (N + 7) _ _ := ((hz6).s 1).q (o := o) (by omega) 11 (some (N + 6))
  refine R_la0 rfl ?_
  refine R_n 16 rfl rfl ?_
  refine G_arr rfl hN7 (by omega) (Or.inl rfl) (by decide) hz7 ?_
  have hN8 : ((((((((ls ++ [(10, 16)]) ++ [(10, 16)]) ++ [(10, 16)]) ++ [(10, 16)]) ++ [(10, 16)]) ++ [(10, 16)]) ++ [(10, 16)]) ++ [(10, 16)]).length = N + 8 := gL hN7 [(10, 16)]
  have hl8 : ((((((((ls ++ [(10, 16)]) ++ [(10, 16)]) ++ [(10, 16)]) ++ [(10, 16)]) ++ [(10, 16)]) ++ [(10, 16)]) ++ [(10, 16)]) ++ [(10, 16)])[o]? = some (0, 13) := gA hl7
  refine G_putR rfl rfl hl8 ho rfl ?_
  have hz8 : Zr (N + 8) _ _ := ((hz7).s 1).q (o := o) (by omega) 12 (some (N + 7))
  exact R_ret rfl (by first | (simp only [IL, List.append_assoc, List.cons_append, List.nil_append]; done) | (simp only [IL, List.append_assoc, List.cons_append, List.nil_append]; rfl))
theorem i_Motions (hl : ls[o]? = some (1, 10)) (ho : 1 ≤ o) (hN : ls.length = N) (hz : Zr N ρ rf) (h0 : ρ o = fun _ => 0) : PC 17 [.ref o] (ls, ρ, rf) none (ls ++ ML, rM ρ N, rfM rf o N) := by
  have hoN := gB hN hl
  refine PC_of (cd := p_c_X1_init) (L0 := [some (.ref o), none]) rfl rfl ?_
  refine R_la0 rfl ?_
  refine G_obj rfl rfl ?_
  refine R_la0 rfl ?_
  refine R_n 0 rfl rfl ?_
  refine G_put0 rfl hl ho rfl (congrFun h0 0) ?_
  refine R_la0 rfl ?_
  refine R_n 24 rfl rfl ?_
  refine G_arr rfl hN (by omega) (Or.inl rfl) (by decide) hz ?_
  have hN1 : (ls ++ [(10, 24)]).length = N + 1 := gL hN [(10, 24)]
  have hl1 : (ls ++ [(10, 24)])[o]? = some (1, 10) := gA hl
  refine G_putR rfl rfl hl1 ho rfl ?_
  have hz1 : Zr (N + 1) _ _ := ((hz).s 1).q (o := o) (by omega) 1 (some N)
  refine R_la0 rfl ?_
  refine R_n 6 rfl rfl ?_
  refine G_arr rfl hN1 (by omega) (Or.inl rfl) (by decide) hz1 ?_
  have hN2 : ((ls ++ [(10, 24)]) ++ [(10, 6)]).length = N + 2 := gL hN1 [(10, 6)]
  have hl2 : ((ls ++ [(10, 24)]) ++ [(10, 6)])[o]? = some (1, 10) := gA hl1
  refine G_putR rfl rfl hl2 ho rfl ?_
  have hz2 : Zr (N + 2) _ _ := ((hz1).s 1).q (o := o) (by omega) 2 (some (N + 1))
  refine R_la0 rfl ?_
  refine R_n 6 rfl rfl ?_
  refine G_arr rfl hN2 (by omega) (Or.inl rfl) (by decide) hz2 ?_
  have hN3 : (((ls ++ [(10, 24)]) ++ [(10, 6)]) ++ [(10, 6)]).length = N + 3 := gL hN2 [(10, 6)]
  have hl3 : (((ls ++ [(10, 24)]) ++ [(10, 6)]) ++ [(10, 6)])[o]? = some (1, 10) := gA hl2
  refine G_putR rfl rfl hl3 ho rfl ?_
  have hz3 : Zr (N + 3) _ _ := ((hz2).s 1).q (o := o) (by omega) 3 (some (N + 2))
  refine R_la0 rfl ?_
  refine R_n 6 rfl rfl ?_
  refine G_arr rfl hN3 (by omega) (Or.inl rfl) (by decide) hz3 ?_
  have hN4 : ((((ls ++ [(10, 24)]) ++ [(10, 6)]) ++ [(10, 6)]) ++ [(10, 6)]).length = N + 4 := gL hN3 [(10, 6)]
  have hl4 : ((((ls ++ [(10, 24)]) ++ [(10, 6)]) ++ [(10, 6)]) ++ [(10, 6)])[o]? = some (1, 10) := gA hl3
  refine G_putR rfl rfl hl4 ho rfl ?_
  have hz4 : Zr (N + 4) _ _ := ((hz3).s 1).q (o := o) (by omega) 4 (some (N + 3))
  refine R_la0 rfl ?_
  refine R_n 6 rfl rfl ?_
  refine G_arr rfl hN4 (by omega) (Or.inl rfl) (by decide) hz4 ?_
  have hN5 : (((((ls ++ [(10, 24)]) ++ [(10, 6)]) ++ [(10, 6)]) ++ [(10, 6)]) ++ [(10, 6)]).length = N + 5 := gL hN4 [(10, 6)]
  have hl5 : (((((ls ++ [(10, 24)]) ++ [(10, 6)]) ++ [(10, 6)]) ++ [(10, 6)]) ++ [(10, 6)])[o]? = some (1, 10) := gA hl4
  refine G_putR rfl rfl hl5 ho rfl ?_
  have hz5 : Zr (N + 5) _ _ := ((hz4).s 1).q (o := o) (by omega) 5 (some (N + 4))
  refine R_la0 rfl ?_
  refine R_n 6 rfl rfl ?_
  refine G_arr rfl hN5 (by omega) (Or.inl rfl) (by decide) hz5 ?_
  have hN6 : ((((((ls ++ [(10, 24)]) ++ [(10, 6)]) ++ [(10, 6)]) ++ [(10, 6)]) ++ [(10, 6)]) ++ [(10, 6)]).length = N + 6 := gL hN5 [(10, 6)]
  have hl6 : ((((((ls ++ [(10, 24)]) ++ [(10, 6)]) ++ [(10, 6)]) ++ [(10, 6)]) ++ [(10, 6)]) ++ [(10, 6)])[o]? = some (1, 10) := gA hl5
  refine G_putR rfl rfl hl6 ho rfl ?_
  have hz6 : Zr (N + 6) _ _ := ((hz5).s 1).q (o := o) (by omega) 6 (some (N + 5))
  refine R_la0 rfl ?_
  refine R_n 6 rfl rfl ?_
  refine G_arr rfl hN6 (by omega) (Or.inl rfl) (by decide) hz6 ?_
  have hN7 : (((((((ls ++ [(10, 24)]) ++ [(10, 6)]) ++ [(10, 6)]) ++ [(10, 6)]) ++ [(10, 6)]) ++ [(10, 6)]) ++ [(10, 6)]).length = N + 7 := gL hN6 [(10, 6)]
  have hl7 : (((((((ls ++ [(10, 24)]) ++ [(10, 6)]) ++ [(10, 6)]) ++ [(10, 6)]) ++ [(10, 6)]) ++ [(10, 6)]) ++ [(10, 6)])[o]? = some (1, 10) := gA hl6
  refine G_putR rfl rfl hl7 ho rfl ?_
  have hz7 : Zr (N + 7) _ _ := ((hz6).s 1).q (o := o) (by omega) 7 (some (N + 6))
  refine R_la0 rfl ?_
  refine R_n 6 rfl rfl ?_
  refine G_arr rfl hN7 (by omega) (Or.inl rfl) (by decide) hz7 ?_
  have hN8 : ((((((((ls ++ [(10, 24)]) ++ [(10, 6)]) ++ [(10, 6)]) ++ [(10, 6)]) ++ [(10, 6)]) ++ [(10, 6)]) ++ [(10, 6)]) ++ [(10, 6)]).length = N + 8 := gL hN7 [(10, 6)]
  have hl8 : ((((((((ls ++ [(10, 24)]) ++ [(10, 6)]) ++ [(10, 6)]) ++ [(10, 6)]) ++ [(10, 6)]) ++ [(10, 6)]) ++ [(10, 6)]) ++ [(10, 6)])[o]? = some (1, 10) := gA hl7
  refine G_putR rfl rfl hl8 ho rfl ?_
  have hz8 : Zr (N + 8) _ _ := ((hz7).s 1).q (o := o) (by omega) 8 (some (N + 7))
  refine R_la0 rfl ?_
  refine R_n 6 rfl rfl ?_
  refine G_arr rfl hN8 (by omega) (Or.inl rfl) (by decide) hz8 ?_
  have hN9 : (((((((((ls ++ [(10, 24)]) ++ [(10, 6)]) ++ [(10, 6)]) ++ [(10, 6)]) ++ [(10, 6)]) ++ [(10, 6)]) ++ [(10, 6)]) ++ [(10, 6)]) ++ [(10, 6)]).length = N + 9 := gL hN8 [(10, 6)]
  have hl9 : (((((((((ls ++ [(10, 24)]) ++ [(10, 6)]) ++ [(10, 6)]) ++ [(10, 6)]) ++ [(10, 6)]) ++ [(10, 6)]) ++ [(10, 6)]) ++ [(10, 6)]) ++ [(10, 6)])[o]? = some (1, 10) := gA hl8
  refine G_putR rfl rfl hl9 ho rfl ?_
  have hz9 : Zr (N + 9) _ _ := ((hz8).s 1).q (o := o) (by omega) 9 (some (N + 8))
  have hc3 : (((((((((ls ++ [(10, 24)]) ++ [(10, 6)]) ++ [(10, 6)]) ++ [(10, 6)]) ++ [(10, 6)]) ++ [(10, 6)]) ++ [(10, 6)]) ++ [(10, 6)]) ++ [(10, 6)])[N + 3]? = some (10, 6) := gA (gA (gA (gA (gA (gN hN3 (10, 6) [])))))
  have hc4 : (((((((((ls ++ [(10, 24)]) ++ [(10, 6)]) ++ [(10, 6)]) ++ [(10, 6)]) ++ [(10, 6)]) ++ [(10, 6)]) ++ [(10, 6)]) ++ [(10, 6)]) ++ [(10, 6)])[N + 4]? = some (10, 6) := gA (gA (gA (gA (gN hN4 (10, 6) []))))
  have hf3 : (q2 (q2 (q2 (q2 (q2 (q2 (q2 (q2 (q2 rf o 1 (some N)) o 2 (some (N + 1))) o 3 (some (N + 2))) o 4 (some (N + 3))) o 5 (some (N + 4))) o 6 (some (N + 5))) o 7 (some (N + 6))) o 8 (some (N + 7))) o 9 (some (N + 8))) o 4 = some (N + 3) := by rw [q2_nj (by decide), q2_nj (by decide), q2_nj (by decide), q2_nj (by decide), q2_nj (by decide), q2_eq]
  have hf4 : (q2 (q2 (q2 (q2 (q2 (q2 (q2 (q2 (q2 rf o 1 (some N)) o 2 (some (N + 1))) o 3 (some (N + 2))) o 4 (some (N + 3))) o 5 (some (N + 4))) o 6 (some (N + 5))) o 7 (some (N + 6))) o 8 (some (N + 7))) o 9 (some (N + 8))) o 5 = some (N + 4) := by rw [q2_nj (by decide), q2_nj (by decide), q2_nj (by decide), q2_nj (by decide), q2_eq]
  have hl := down (n := 6) (P := fun j => PW p_c_X1_init 43 [some (.ref o), some (.int (nI j))] [] ((((((((((ls ++ [(10, 24)]) ++ [(10, 6)]) ++ [(10, 6)]) ++ [(10, 6)]) ++ [(10, 6)]) ++ [(10, 6)]) ++ [(10, 6)]) ++ [(10, 6)]) ++ [(10, 6)]), u1 (u1 ρ (N + 3) (mj j)) (N + 4) (mj j), (q2 (q2 (q2 (q2 (q2 (q2 (q2 (q2 (q2 rf o 1 (some N)) o 2 (some (N + 1))) o 3 (some (N + 2))) o 4 (some (N + 3))) o 5 (some (N + 4))) o 6 (some (N + 5))) o 7 (some (N + 6))) o 8 (some (N + 7))) o 9 (some (N + 8)))) (fun zz => zz = (none, (ls ++ ML, rM ρ N, rfM rf o N)))) ?_ ?_
  · refine R_n 0 rfl rfl ?_
    refine R_st1 rfl ?_
    refine PW_h ?_ (hl 0 (Nat.zero_le _))
    have e3 : u1 ρ (N + 3) (mj 0) = ρ := by rw [mj_0, ← (hz (N + 3) (by omega)).1, u1_id]
    have e4 : u1 ρ (N + 4) (mj 0) = ρ := by rw [mj_0, ← (hz (N + 4) (by omega)).1, u1_id]
    rw [e3, e4]
  · refine R_ld1 rfl ?_
    refine R_n 6 rfl rfl ?_
    refine N2_geT rfl (by omega) (by omega) (by omega) ?_
    exact R_ret rfl (by first | (simp only [ML, List.append_assoc, List.cons_append, List.nil_append]; done) | (simp only [ML, List.append_assoc, List.cons_append, List.nil_append]; rfl))
  · intro j hj hnext
    refine R_ld1 rfl ?_
    refine R_n 6 rfl rfl ?_
    refine N2_geF rfl (by omega) (by omega) hj ?_
    refine R_la0 rfl ?_
    refine G_getR rfl hl9 ho rfl hf3 ?_
    refine R_ld1 rfl ?_
    refine R_i rfl ?_
    refine G_ast rfl hc3 ⟨by omega, by decide⟩ hj ?_
    refine R_la0 rfl ?_
    refine G_getR rfl hl9 ho rfl hf4 ?_
    refine R_ld1 rfl ?_
    refine R_i rfl ?_
    refine G_ast rfl hc4 ⟨by omega, by decide⟩ hj ?_
    refine R_in1 rfl rfl ?_
    refine R_goto rfl ?_
    rw [mj_2 (by omega)]
    exact hnext
def rfS (rf : pF) (o N : Nat) : pF := q2 (rfM (q2 (rfI rf N (N + 1)) o 0 (some N)) (N + 9) (N + 10)) o 1 (some (N + 9))
theorem Zr_S (h : Zr N ρ rf) (ho : o < N) : Zr (N + 19) (rM ρ (N + 10)) (rfS rf o N) := by
  have h1 : Zr (N + 9) ρ (rfI rf N (N + 1)) := Zr_I (N := N + 1) (h.s 1) (by omega)
  have h2 := h1.q (o := o) (by omega) 0 (some N)
  have h3 : Zr (N + 19) _ _ := Zr_M (N := N + 10) (o := N + 9) (h2.s 1) (by omega)
  exact h3.q (by omega) 1 _
theorem i_State (hl : ls[o]? = some (2, 2)) (ho : 1 ≤ o) (hN : ls.length = N) (hz : Zr N ρ rf) : PC 31 [.ref o] (ls, ρ, rf) none (ls ++ SL, rM ρ (N + 10), rfS rf o N) := by
  have hoN := gB hN hl
  have hN1 : (ls ++ [(0, 13)]).length = N + 1 := gL hN [(0, 13)]
  have hN9 : ((ls ++ [(0, 13)]) ++ IL).length = N + 9 := gL hN1 IL
  have hN10 : (((ls ++ [(0, 13)]) ++ IL) ++ [(1, 10)]).length = N + 10 := gL hN9 [(1, 10)]
  have h1 : Zr (N + 9) ρ (rfI rf N (N + 1)) := Zr_I (N := N + 1) (hz.s 1) (by omega)
  have h2 := h1.q (o := o) (by omega) 0 (some N)
  refine PC_of (cd := p_c_X2_init) (L0 := [some (.ref o)]) rfl rfl ?_
  refine R_la0 rfl ?_
  refine G_obj rfl rfl ?_
  refine R_la0 rfl ?_
  refine G_new rfl hN ⟨by decide, by omega⟩ hz rfl ?_
  refine R_dupR rfl ?_
  refine PW_call rfl (i_Inputs (gN hN (0, 13) []) (by omega) hN1 (hz.s 1) (hz N (Nat.le_refl _)).1) rfl rfl rfl rfl ?_
  refine G_putR rfl rfl (gA (gA hl)) ho rfl ?_
  refine R_la0 rfl ?_
  refine G_new rfl hN9 ⟨by decide, by omega⟩ h2 rfl ?_
  refine R_dupR rfl ?_
  refine PW_call rfl (i_Motions (N := N + 10) (gN hN9 (1, 10) []) (by omega) hN10 (h2.s 1) (h2 (N + 9) (Nat.le_refl _)).1) rfl rfl rfl rfl ?_
  refine G_putR rfl rfl (gA (gA (gA (gA hl)))) ho rfl ?_
  exact R_ret rfl (by first | (simp only [IL, ML, SL, List.append_assoc, List.cons_append, List.nil_append]; done) | (simp only [IL, ML, SL, List.append_assoc, List.cons_append, List.nil_append]; rfl))
theorem i_Text (hl : ls[o]? = some (3, 2)) (ho : 1 ≤ o) (hN : ls.length = N) (hz : Zr N ρ rf) (h0 : ρ o = fun _ => 0) : PC 33 [.ref o] (ls, ρ, rf) none (ls ++ [(11, 80)], ρ, q2 rf o 0 (some N)) := by
  have hoN := gB hN hl
  refine PC_of (cd := p_c_X3_init) (L0 := [some (.ref o)]) rfl rfl ?_
  refine R_la0 rfl ?_
  refine G_obj rfl rfl ?_
  refine R_la0 rfl ?_
  refine R_n 80 rfl rfl ?_
  refine G_arr rfl hN (by omega) (Or.inr (Or.inl rfl)) (by decide) hz ?_
  refine G_putR rfl rfl (gA hl) ho rfl ?_
  refine R_la0 rfl ?_
  refine R_n 0 rfl rfl ?_
  refine G_put0 rfl (gA hl) ho rfl (congrFun h0 1) ?_
  exact R_ret rfl rfl
end
