/-! rows for longs, further places of locals, division -/
section
variable {cd : List pI} {i o a b : Nat} {z : Int32} {t : List Nat} {L : pL} {S : List Value} {h : pH} {Q : Option Value × pH → Prop}
theorem R_ll0 {x : Int64} (hc : cd[i]? = some (28, 1, 0, z, t)) (kk : PW cd (i + 1) (some (.long x) :: L) (.long x :: S) h Q) : PW cd i (some (.long x) :: L) S h Q := PW_op hc (by decide) rfl kk
theorem R_ls0 {x : Int64} {w w2 : Option Value} (hc : cd[i]? = some (28, 2, 0, z, t)) (kk : PW cd (i + 1) (some (.long x) :: none :: L) S h Q) : PW cd i (w :: w2 :: L) (.long x :: S) h Q := PW_op hc (by decide) (by simp [p_op, o28, ol2]) kk
theorem R_ll1 {v0 : Option Value} {x : Int64} (hc : cd[i]? = some (28, 1, 1, z, t)) (kk : PW cd (i + 1) (v0 :: some (.long x) :: L) (.long x :: S) h Q) : PW cd i (v0 :: some (.long x) :: L) S h Q := PW_op hc (by decide) rfl kk
theorem R_ls1 {v0 : Option Value} {x : Int64} {w w2 : Option Value} (hc : cd[i]? = some (28, 2, 1, z, t)) (kk : PW cd (i + 1) (v0 :: some (.long x) :: none :: L) S h Q) : PW cd i (v0 :: w :: w2 :: L) (.long x :: S) h Q := PW_op hc (by decide) (by simp [p_op, o28, ol2]) kk
theorem R_ll2 {v0 v1 : Option Value} {x : Int64} (hc : cd[i]? = some (28, 1, 2, z, t)) (kk : PW cd (i + 1) (v0 :: v1 :: some (.long x) :: L) (.long x :: S) h Q) : PW cd i (v0 :: v1 :: some (.long x) :: L) S h Q := PW_op hc (by decide) rfl kk
theorem R_ls2 {v0 v1 : Option Value} {x : Int64} {w w2 : Option Value} (hc : cd[i]? = some (28, 2, 2, z, t)) (kk : PW cd (i + 1) (v0 :: v1 :: some (.long x) :: none :: L) S h Q) : PW cd i (v0 :: v1 :: w :: w2 :: L) (.long x :: S) h Q := PW_op hc (by decide) (by simp [p_op, o28, ol2]) kk
theorem R_ll3 {v0 v1 v2 : Option Value} {x : Int64} (hc : cd[i]? = some (28, 1, 3, z, t)) (kk : PW cd (i + 1) (v0 :: v1 :: v2 :: some (.long x) :: L) (.long x :: S) h Q) : PW cd i (v0 :: v1 :: v2 :: some (.long x) :: L) S h Q := PW_op hc (by decide) rfl kk
theorem R_ls3 {v0 v1 v2 : Option Value} {x : Int64} {w w2 : Option Value} (hc : cd[i]? = some (28, 2, 3, z, t)) (kk : PW cd (i + 1) (v0 :: v1 :: v2 :: some (.long x) :: none :: L) S h Q) : PW cd i (v0 :: v1 :: v2 :: w :: w2 :: L) (.long x :: S) h Q := PW_op hc (by decide) (by simp [p_op, o28, ol2]) kk
theorem R_ll4 {v0 v1 v2 v3 : Option Value} {x : Int64} (hc : cd[i]? = some (28, 1, 4, z, t)) (kk : PW cd (i + 1) (v0 :: v1 :: v2 :: v3 :: some (.long x) :: L) (.long x :: S) h Q) : PW cd i (v0 :: v1 :: v2 :: v3 :: some (.long x) :: L) S h Q := PW_op hc (by decide) rfl kk
theorem R_ls4 {v0 v1 v2 v3 : Option Value} {x : Int64} {w w2 : Option Value} (hc : cd[i]? = some (28, 2, 4, z, t)) (kk : PW cd (i + 1) (v0 :: v1 :: v2 :: v3 :: some (.long x) :: none :: L) S h Q) : PW cd i (v0 :: v1 :: v2 :: v3 :: w :: w2 :: L) (.long x :: S) h Q := PW_op hc (by decide) (by simp [p_op, o28, ol2]) kk
theorem R_ll5 {v0 v1 v2 v3 v4 : Option Value} {x : Int64} (hc : cd[i]? = some (28, 1, 5, z, t)) (kk : PW cd (i + 1) (v0 :: v1 :: v2 :: v3 :: v4 :: some (.long x) :: L) (.long x :: S) h Q) : PW cd i (v0 :: v1 :: v2 :: v3 :: v4 :: some (.long x) :: L) S h Q := PW_op hc (by decide) rfl kk
theorem R_ls5 {v0 v1 v2 v3 v4 : Option Value} {x : Int64} {w w2 : Option Value} (hc : cd[i]? = some (28, 2, 5, z, t)) (kk : PW cd (i + 1) (v0 :: v1 :: v2 :: v3 :: v4 :: some (.long x) :: none :: L) S h Q) : PW cd i (v0 :: v1 :: v2 :: v3 :: v4 :: w :: w2 :: L) (.long x :: S) h Q := PW_op hc (by decide) (by simp [p_op, o28, ol2]) kk
theorem R_ll6 {v0 v1 v2 v3 v4 v5 : Option Value} {x : Int64} (hc : cd[i]? = some (28, 1, 6, z, t)) (kk : PW cd (i + 1) (v0 :: v1 :: v2 :: v3 :: v4 :: v5 :: some (.long x) :: L) (.long x :: S) h Q) : PW cd i (v0 :: v1 :: v2 :: v3 :: v4 :: v5 :: some (.long x) :: L) S h Q := PW_op hc (by decide) rfl kk
theorem R_ls6 {v0 v1 v2 v3 v4 v5 : Option Value} {x : Int64} {w w2 : Option Value} (hc : cd[i]? = some (28, 2, 6, z, t)) (kk : PW cd (i + 1) (v0 :: v1 :: v2 :: v3 :: v4 :: v5 :: some (.long x) :: none :: L) S h Q) : PW cd i (v0 :: v1 :: v2 :: v3 :: v4 :: v5 :: w :: w2 :: L) (.long x :: S) h Q := PW_op hc (by decide) (by simp [p_op, o28, ol2]) kk
theorem R_ll7 {v0 v1 v2 v3 v4 v5 v6 : Option Value} {x : Int64} (hc : cd[i]? = some (28, 1, 7, z, t)) (kk : PW cd (i + 1) (v0 :: v1 :: v2 :: v3 :: v4 :: v5 :: v6 :: some (.long x) :: L) (.long x :: S) h Q) : PW cd i (v0 :: v1 :: v2 :: v3 :: v4 :: v5 :: v6 :: some (.long x) :: L) S h Q := PW_op hc (by decide) rfl kk
theorem R_ls7 {v0 v1 v2 v3 v4 v5 v6 : Option Value} {x : Int64} {w w2 : Option Value} (hc : cd[i]? = some (28, 2, 7, z, t)) (kk : PW cd (i + 1) (v0 :: v1 :: v2 :: v3 :: v4 :: v5 :: v6 :: some (.long x) :: none :: L) S h Q) : PW cd i (v0 :: v1 :: v2 :: v3 :: v4 :: v5 :: v6 :: w :: w2 :: L) (.long x :: S) h Q := PW_op hc (by decide) (by simp [p_op, o28, ol2]) kk
theorem R_ld9 {v0 v1 v2 v3 v4 v5 v6 v7 v8 : Option Value} {x : Int32} (hc : cd[i]? = some (1, 9, b, z, t)) (kk : PW cd (i + 1) (v0 :: v1 :: v2 :: v3 :: v4 :: v5 :: v6 :: v7 :: v8 :: some (.int x) :: L) (.int x :: S) h Q) : PW cd i (v0 :: v1 :: v2 :: v3 :: v4 :: v5 :: v6 :: v7 :: v8 :: some (.int x) :: L) S h Q := PW_op hc (by decide) rfl kk
theorem R_la9 {v0 v1 v2 v3 v4 v5 v6 v7 v8 : Option Value} {x : Nat} (hc : cd[i]? = some (2, 9, b, z, t)) (kk : PW cd (i + 1) (v0 :: v1 :: v2 :: v3 :: v4 :: v5 :: v6 :: v7 :: v8 :: some (.ref x) :: L) (.ref x :: S) h Q) : PW cd i (v0 :: v1 :: v2 :: v3 :: v4 :: v5 :: v6 :: v7 :: v8 :: some (.ref x) :: L) S h Q := PW_op hc (by decide) rfl kk
theorem R_st9 {v0 v1 v2 v3 v4 v5 v6 v7 v8 : Option Value} {x : Int32} {w : Option Value} (hc : cd[i]? = some (3, 9, b, z, t)) (kk : PW cd (i + 1) (v0 :: v1 :: v2 :: v3 :: v4 :: v5 :: v6 :: v7 :: v8 :: some (.int x) :: L) S h Q) : PW cd i (v0 :: v1 :: v2 :: v3 :: v4 :: v5 :: v6 :: v7 :: v8 :: w :: L) (.int x :: S) h Q := PW_op hc (by decide) (by simp [p_op, o3]) kk
theorem R_ld10 {v0 v1 v2 v3 v4 v5 v6 v7 v8 v9 : Option Value} {x : Int32} (hc : cd[i]? = some (1, 10, b, z, t)) (kk : PW cd (i + 1) (v0 :: v1 :: v2 :: v3 :: v4 :: v5 :: v6 :: v7 :: v8 :: v9 :: some (.int x) :: L) (.int x :: S) h Q) : PW cd i (v0 :: v1 :: v2 :: v3 :: v4 :: v5 :: v6 :: v7 :: v8 :: v9 :: some (.int x) :: L) S h Q := PW_op hc (by decide) rfl kk
theorem R_la10 {v0 v1 v2 v3 v4 v5 v6 v7 v8 v9 : Option Value} {x : Nat} (hc : cd[i]? = some (2, 10, b, z, t)) (kk : PW cd (i + 1) (v0 :: v1 :: v2 :: v3 :: v4 :: v5 :: v6 :: v7 :: v8 :: v9 :: some (.ref x) :: L) (.ref x :: S) h Q) : PW cd i (v0 :: v1 :: v2 :: v3 :: v4 :: v5 :: v6 :: v7 :: v8 :: v9 :: some (.ref x) :: L) S h Q := PW_op hc (by decide) rfl kk
theorem R_st10 {v0 v1 v2 v3 v4 v5 v6 v7 v8 v9 : Option Value} {x : Int32} {w : Option Value} (hc : cd[i]? = some (3, 10, b, z, t)) (kk : PW cd (i + 1) (v0 :: v1 :: v2 :: v3 :: v4 :: v5 :: v6 :: v7 :: v8 :: v9 :: some (.int x) :: L) S h Q) : PW cd i (v0 :: v1 :: v2 :: v3 :: v4 :: v5 :: v6 :: v7 :: v8 :: v9 :: w :: L) (.int x :: S) h Q := PW_op hc (by decide) (by simp [p_op, o3]) kk
theorem R_lc (n : Nat) (hc : cd[i]? = some (28, 0, n, z, t)) (kk : PW cd (i + 1) L (.long (Int64.ofNat n) :: S) h Q) : PW cd i L S h Q := PW_op hc (by decide) rfl kk
theorem R_ladd {x y : Int64} (hc : cd[i]? = some (28, 3, b, z, t)) (kk : PW cd (i + 1) L (.long (x + y) :: S) h Q) : PW cd i L (.long y :: .long x :: S) h Q := PW_op hc (by decide) rfl kk
theorem R_lmul {x y : Int64} (hc : cd[i]? = some (28, 4, b, z, t)) (kk : PW cd (i + 1) L (.long (x * y) :: S) h Q) : PW cd i L (.long y :: .long x :: S) h Q := PW_op hc (by decide) rfl kk
theorem R_lcmp {x y : Int64} (hc : cd[i]? = some (28, 7, b, z, t)) (kk : PW cd (i + 1) L (.int (lg_cmp x y) :: S) h Q) : PW cd i L (.long y :: .long x :: S) h Q := PW_op hc (by decide) rfl kk
theorem R_i2l {x : Int32} (hc : cd[i]? = some (28, 8, b, z, t)) (kk : PW cd (i + 1) L (.long x.toInt64 :: S) h Q) : PW cd i L (.int x :: S) h Q := PW_op hc (by decide) rfl kk
theorem R_lret {x : Int64} (hc : cd[i]? = some (53, a, b, z, t)) (hq : Q (some (.long x), h)) : PW cd i L [.long x] h Q := PW_ret hc (by decide) rfl hq
theorem lg_cmp_self (x : Int64) : lg_cmp x x = 0 := by simp [lg_cmp]
theorem nI_div {x y : Nat} (hx : x < 2 ^ 31) (h0 : 0 < y) (hy : y < 2 ^ 31) : nI x / nI y = nI (x / y) := by
  have h1 : x / y < 2 ^ 31 := Nat.lt_of_le_of_lt (Nat.div_le_self x y) hx
  apply Int32.toInt_inj.mp
  rw [Int32.toInt_div, nI_toInt hx, nI_toInt hy, nI_toInt h1]
  have h2 : ((x : Int)).tdiv (y : Int) = ((x / y : Nat) : Int) := by
    rw [Int.tdiv_eq_ediv_of_nonneg (Int.natCast_nonneg x)]
    rfl
  rw [h2]
  clear h2
  generalize x / y = q at h1
  exact Int.bmod_eq_of_le (by omega) (by omega)
theorem R_divN {x y : Nat} (hc : cd[i]? = some (28, 12, b, z, t)) (hx : x < 2 ^ 31) (h0 : 0 < y) (hy : y < 2 ^ 31) (kk : PW cd (i + 1) L (.int (nI (x / y)) :: S) h Q) : PW cd i L (.int (nI y) :: .int (nI x) :: S) h Q := PW_op hc (by decide) (by simp only [p_op, o28, ol12]; rw [if_neg (nI_ne0 h0 hy), nI_div hx h0 hy]) kk
end
section
variable {cd : List pI} {i : Nat} {z : Int32} {t : List Nat} {L : pL} {S : List Value} {Q : Option Value × pH → Prop} {sl : pS} {ρ : pR} {rf : pF}
theorem R_lald {b o n j : Nat} (hc : cd[i]? = some (28, 10, b, z, t)) (hs : (SH sl)[o]? = some (12, n)) (hn : 1 ≤ o ∧ n ≤ 100000) (hj : j < n) {v : Int64} (hv : p_l (rf o j) = v) (kk : PW cd (i + 1) L (.long v :: S) (HP sl ρ rf) Q) : PW cd i L (.int (nI j) :: .ref o :: S) (HP sl ρ rf) Q := PW_op hc (by decide) (by
  simp only [p_op, o28, ol10]
  rw [hs]
  dsimp only
  rw [if_pos ⟨rfl, hn.1, p_inN hj hn.2⟩, nI_clamp (by omega), hv]) kk
theorem R_last {b o n j : Nat} {x : Int64} (hc : cd[i]? = some (28, 11, b, z, t)) (hs : (SH sl)[o]? = some (12, n)) (hn : 1 ≤ o ∧ n ≤ 100000) (hj : j < n) (kk : PW cd (i + 1) L S (HP sl ρ (q2 rf o j (some x.toUInt64.toNat))) Q) : PW cd i L (.long x :: .int (nI j) :: .ref o :: S) (HP sl ρ rf) Q := PW_op hc (by decide) (by
  simp only [p_op, o28, ol11]
  rw [hs]
  dsimp only
  rw [if_pos ⟨rfl, hn.1, p_inN hj hn.2⟩, nI_clamp (by omega)]) kk
theorem R_c3 {o a b : Nat} {args : List Value} {r : Option Value} {ρ' : pR} {rf' : pF} {S' : List Value} (hc : cd[i]? = some (o, a, b, z, t)) (hM : PC a args (HP sl ρ rf) r (HP sl ρ' rf')) (hs : (decide (o = 43) && p_cc o a b S) = true) (hargs : (S.take b).reverse = args) (hS : r.toList ++ S.drop b = S') (kk : PW cd (i + 1) L S' (HP sl ρ' rf') Q) : PW cd i L S (HP sl ρ rf) Q := by
  rw [Bool.and_eq_true, decide_eq_true_eq] at hs
  obtain ⟨rfl, q⟩ := hs
  exact PW_call hc hM (by rw [Bool.and_eq_true]; exact ⟨by decide, q⟩) rfl hargs hS kk
theorem R_c4 {o a b v kd nn : Nat} {args vs : List Value} {r : Option Value} {ρ' : pR} {rf' : pF} {S' : List Value} (hc : cd[i]? = some (o, a, b, z, t)) (hM : PC a args (HP sl ρ rf) r (HP sl ρ' rf')) (hs : (decide (o = 44) && p_cc o a b S) = true) (hargs : (S.take b).reverse = args) (hv : args = .ref v :: vs) (hsh : (SH sl)[v]? = some (kd, nn)) (hk : (kd == p_ow a && (decide (1 ≤ v) && decide (kd < 6))) = true) (hS : r.toList ++ S.drop b = S') (kk : PW cd (i + 1) L S' (HP sl ρ' rf') Q) : PW cd i L S (HP sl ρ rf) Q := by
  rw [Bool.and_eq_true, decide_eq_true_eq] at hs
  obtain ⟨rfl, q⟩ := hs
  refine PW_call hc hM (by rw [Bool.and_eq_true]; exact ⟨by decide, q⟩) ?_ hargs hS kk
  rw [hv]
  show (match (SH sl)[v]? with | some (kd, _) => kd == p_ow a && (decide (1 ≤ v) && decide (kd < 6)) | none => false) = true
  rw [hsh]
  exact hk
end
/-- what lies behind the ends of arrays, and ahead of references in objects, is 0 -/
def Cln (h : pH) : Prop := ∀ k kd n, 1 ≤ k → h.1[k]? = some (kd, n) → ∀ j, (n ≤ j ∨ (kd < 6 ∧ p_isI kd j = false)) → h.2.1 k j = 0
theorem Cln_u2 {sh : List (Nat × Nat)} {ρ : pR} {rf : pF} {o kd n j : Nat} {x : Int32} (h : Cln (sh, ρ, rf)) (hs : sh[o]? = some (kd, n)) (hj : j < n) (hI : kd < 6 → p_isI kd j = true) : Cln (sh, u2 ρ o j x, rf) := by
  intro k kd' n' h1 hk i hi
  show u2 ρ o j x k i = 0
  by_cases e : k = o
  · subst e
    have e2 := hs.symm.trans hk
    cases e2
    rw [u2_at]
    unfold upd
    have hne : i ≠ j := fun e => by
      subst e
      rcases hi with h2 | ⟨h2, h3⟩
      · omega
      · rw [hI h2] at h3; cases h3
    rw [if_neg hne]
    exact h k kd n h1 hk i hi
  · rw [u2_ne e]
    exact h k kd' n' h1 hk i hi
theorem Cln_rf {sh : List (Nat × Nat)} {ρ : pR} {rf rf' : pF} (h : Cln (sh, ρ, rf)) : Cln (sh, ρ, rf') := h
theorem Cln_new {sh : List (Nat × Nat)} {ρ : pR} {rf rf' : pF} {q : Nat × Nat} (h : Cln (sh, ρ, rf)) : Cln (sh ++ [q], z2 ρ sh.length, rf') := by
  intro k kd n h1 hk i hi
  show z2 ρ sh.length k i = 0
  unfold z2
  by_cases e : k = sh.length
  · rw [if_pos e]
  · rw [if_neg e]
    have hk : (sh ++ [q])[k]? = some (kd, n) := hk
    have hl : k < (sh ++ [q]).length := (List.getElem?_eq_some_iff.mp hk).1
    rw [List.length_append, List.length_singleton] at hl
    rw [List.getElem?_append_left (by omega)] at hk
    exact h k kd n h1 hk i hi
theorem Cln_c2 {sh : List (Nat × Nat)} {ρ : pR} {rf : pF} {s d n1 n2 sp dp n : Nat} (h : Cln (sh, ρ, rf)) (hd : sh[d]? = some (10, n2)) (h2 : dp + n ≤ n2) : Cln (sh, c2 ρ s d sp dp n, rf) := by
  intro k kd n' h1 hk i hi
  show c2 ρ s d sp dp n k i = 0
  unfold c2
  by_cases e : k = d
  · subst e
    have e2 := hd.symm.trans hk
    cases e2
    rw [if_pos rfl]
    unfold va_cpy
    rw [if_neg (by rcases hi with h3 | ⟨h3, -⟩ <;> omega)]
    exact h k 10 n2 h1 hk i hi
  · rw [if_neg e]
    exact h k kd n' h1 hk i hi
theorem Cln_19 {a b : Nat} {L L' : pL} {S S' : List Value} {sh : List (Nat × Nat)} {ρ : pR} {rf : pF} {h' : pH} (hop : o19 a b L S (sh, ρ, rf) = some (L', S', h')) (hc : Cln (sh, ρ, rf)) : Cln h' := by
  unfold o19 at hop
  split at hop
  · split at hop
    · split at hop
      · rename_i kd n hs hcc
        obtain ⟨c1, c2, c3, c4, c5, c6, c7⟩ := hcc
        subst c1
        cases hop
        exact Cln_u2 hc hs c4 (fun _ => c6)
      · cases hop
    · cases hop
  · split at hop
    · split at hop
      · cases hop
        exact hc
      · cases hop
    · cases hop
  · cases hop
theorem Cln_op {o a b : Nat} {z : Int32} {L L' : pL} {S S' : List Value} {h h' : pH} (hop : p_op o a b z L S h = some (L', S', h')) (hc : Cln h) : Cln h' := by
  by_cases hl : nHL o a = true
  · rw [p_op_hl hl] at hop
    obtain ⟨x, hx, e⟩ := Option.map_eq_some_iff.mp hop
    cases e
    exact hc
  · obtain ⟨sh, ρ, rf⟩ := h
    unfold p_op at hop
    split at hop <;> first | exact absurd rfl hl | skip
    · unfold o13 at hop; split at hop <;> first | (split at hop <;> first | (split at hop <;> first | (cases hop; exact hc) | cases hop) | cases hop) | cases hop
    · unfold o14 at hop; split at hop <;> first | (split at hop <;> first | (split at hop <;> first | (cases hop; exact hc) | cases hop) | cases hop) | cases hop
    · unfold o15 at hop
      split at hop
      · split at hop
        · split at hop
          · rename_i kd n hs hcc
            cases hop
            refine Cln_u2 hc hs (p_in_lt hcc.2.2.1) (fun h6 => ?_)
            have hb := hcc.1
            have hf := hcc.2.2.2
            subst hb
            unfold p_fit at hf
            split at hf <;> first | omega | cases hf
          · cases hop
        · cases hop
      · cases hop
    · unfold o16 at hop; split at hop <;> first | (split at hop <;> first | (split at hop <;> first | (cases hop; exact hc) | cases hop) | cases hop) | cases hop
    · unfold o17 at hop; split at hop <;> first | (split at hop <;> first | (split at hop <;> first | (cases hop; exact hc) | cases hop) | cases hop) | cases hop
    · unfold o18 at hop; split at hop <;> first | (split at hop <;> first | (split at hop <;> first | (cases hop; exact hc) | cases hop) | cases hop) | cases hop
    · exact Cln_19 hop hc
    · exact Cln_19 hop hc
    · unfold o21 at hop; split at hop <;> first | (cases hop; exact Cln_new hc) | cases hop
    · unfold o22 at hop; split at hop <;> first | (split at hop <;> first | (cases hop; exact Cln_new hc) | cases hop) | cases hop
    · unfold o23 at hop; split at hop <;> first | (split at hop <;> first | (cases hop; exact Cln_new hc) | cases hop) | cases hop
    · unfold o25 at hop
      split at hop
      · split at hop
        · split at hop
          · rename_i k1 n1 k2 n2 h1 h2 hcc
            obtain ⟨c1, c2', c3, c4, c5, c6, c7, c8, c9⟩ := hcc
            subst c2'
            cases hop
            exact Cln_c2 (n1 := 0) hc h2 c9
          · cases hop
        · cases hop
      · cases hop
    · unfold o28 at hop
      split at hop <;> first | exact absurd rfl hl | skip
      · unfold ol10 at hop; split at hop <;> first | (split at hop <;> first | (split at hop <;> first | (cases hop; exact hc) | cases hop) | cases hop) | cases hop
      · unfold ol11 at hop; split at hop <;> first | (split at hop <;> first | (split at hop <;> first | (cases hop; exact hc) | cases hop) | cases hop) | cases hop
      · cases hop
    · cases hop
theorem Cln_run : ∀ (n : Nat) (cd : List pI) (i : Nat) (L : pL) (S : List Value) (h : pH) (r : Option Value) (h' : pH), pex n cd i L S h = some (r, h') → Cln h → Cln h'
  | 0, cd, i, L, S, h, r, h', hx, hc => by cases hx
  | n + 1, cd, i, L, S, h, r, h', hx, hc => by
    unfold pex at hx
    split at hx
    · cases hx
    · split at hx
      · split at hx
        · cases hx
        · rename_i ho
          exact Cln_run n _ _ _ _ _ _ _ hx (Cln_op ho hc)
      · split at hx
        · split at hx
          · cases hx
          · exact Cln_run n _ _ _ _ _ _ _ hx hc
        · split at hx
          · split at hx
            · split at hx
              · cases hx
              · rename_i hca
                exact Cln_run n _ _ _ _ _ _ _ hx (Cln_run n _ _ _ _ _ _ _ hca hc)
            · cases hx
          · split at hx
            · cases hx
            · cases hx
              exact hc
theorem PC_cln {k : Nat} {args : List Value} {r : Option Value} {h h' : pH} (hM : PC k args h r h') (hc : Cln h) : Cln h' := by
  obtain ⟨n, hx⟩ := hM
  exact Cln_run n _ _ _ _ _ _ _ hx hc

