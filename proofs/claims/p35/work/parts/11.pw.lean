/-! running the pure machine: what comes behind an instruction is enough for what comes ahead of it -/
def PW (cd : List pI) (i : Nat) (L : pL) (S : List Value) (h : pH) (Q : Option Value × pH → Prop) : Prop := ∃ (n : Nat) (r : Option Value × pH), pex n cd i L S h = some r ∧ Q r
/-- a method's run, whole -/
def PC (k : Nat) (args : List Value) (h : pH) (r : Option Value) (h' : pH) : Prop := ∃ n : Nat, pex n (p_cd k) 0 (p_ent k args) [] h = some (r, h')
theorem p_fuel : ∀ (n : Nat) (cd : List pI) (i : Nat) (L : pL) (S : List Value) (h : pH) (r : Option Value × pH), pex n cd i L S h = some r → pex (n + 1) cd i L S h = some r
  | 0, cd, i, L, S, h, r, hx => by cases hx
  | n + 1, cd, i, L, S, h, r, hx => by
    unfold pex at hx ⊢
    split at hx
    · cases hx
    · rename_i o a b z t hcode
      split at hx
      · rename_i ho
        rw [if_pos ho]
        split at hx
        · cases hx
        · rename_i hop
          try rw [hop]
          exact p_fuel n _ _ _ _ _ _ hx
      · rename_i ho
        rw [if_neg ho]
        split at hx
        · rename_i ho2
          rw [if_pos ho2]
          split at hx
          · cases hx
          · rename_i hop
            try rw [hop]
            exact p_fuel n _ _ _ _ _ _ hx
        · rename_i ho2
          rw [if_neg ho2]
          split at hx
          · rename_i ho3
            rw [if_pos ho3]
            split at hx
            · rename_i hc
              rw [if_pos hc]
              split at hx
              · cases hx
              · rename_i hop
                rw [p_fuel n _ _ _ _ _ _ hop]
                exact p_fuel n _ _ _ _ _ _ hx
            · cases hx
          · rename_i ho3
            rw [if_neg ho3]
            exact hx
theorem p_fuel_le {n m : Nat} (hm : n ≤ m) {cd : List pI} {i : Nat} {L : pL} {S : List Value} {h : pH} {r : Option Value × pH} (hx : pex n cd i L S h = some r) : pex m cd i L S h = some r := by
  induction hm with
  | refl => exact hx
  | step _ ih => exact p_fuel _ _ _ _ _ _ _ ih
section
variable {cd : List pI} {i o a b : Nat} {z : Int32} {t : List Nat} {L : pL} {S : List Value} {h : pH} {Q : Option Value × pH → Prop}
theorem PW_op {L' : pL} {S' : List Value} {h' : pH} (hc : cd[i]? = some (o, a, b, z, t)) (ho : o < 30) (hop : p_op o a b z L S h = some (L', S', h')) (kk : PW cd (i + 1) L' S' h' Q) : PW cd i L S h Q := by
  obtain ⟨n, r, h1, h2⟩ := kk
  refine ⟨n + 1, r, ?_, h2⟩
  unfold pex
  rw [hc]
  dsimp only
  rw [if_pos ho, hop]
  exact h1
theorem PW_br {i' : Nat} {S' : List Value} (hc : cd[i]? = some (o, a, b, z, t)) (ho : ¬ o < 30) (ho2 : o < 40) (hop : p_br o a b z t i S = some (i', S')) (kk : PW cd i' L S' h Q) : PW cd i L S h Q := by
  obtain ⟨n, r, h1, h2⟩ := kk
  refine ⟨n + 1, r, ?_, h2⟩
  unfold pex
  rw [hc]
  dsimp only
  rw [if_neg ho, if_pos ho2, hop]
  exact h1
theorem PW_call {args S' : List Value} {r : Option Value} {h' : pH} (hc : cd[i]? = some (o, a, b, z, t)) (hM : PC a args h r h') (hs : (decide (¬ o < 40 ∧ o < 50) && p_cc o a b S) = true) (hcall : p_call o a args h = true) (hargs : (S.take b).reverse = args) (hS : r.toList ++ S.drop b = S') (kk : PW cd (i + 1) L S' h' Q) : PW cd i L S h Q := by
  simp only [Bool.and_eq_true, decide_eq_true_eq] at hs
  obtain ⟨⟨ho, ho2⟩, q1⟩ := hs
  obtain ⟨n1, h3⟩ := hM
  obtain ⟨n2, r2, h1, h2⟩ := kk
  refine ⟨max n1 n2 + 1, r2, ?_, h2⟩
  unfold pex
  rw [hc]
  dsimp only
  rw [if_neg (by omega), if_neg ho, if_pos ho2, hargs, if_pos ⟨q1, hcall⟩, p_fuel_le (Nat.le_max_left n1 n2) h3]
  dsimp only
  rw [hS]
  exact p_fuel_le (Nat.le_max_right n1 n2) h1
theorem PW_ret {r : Option Value} (hc : cd[i]? = some (o, a, b, z, t)) (ho : 50 ≤ o) (hr : p_ret o S = some r) (hq : Q (r, h)) : PW cd i L S h Q := by
  refine ⟨1, (r, h), ?_, hq⟩
  unfold pex
  rw [hc]
  dsimp only
  rw [if_neg (by omega), if_neg (by omega), if_neg (by omega), hr]
theorem PC_of {k : Nat} {args : List Value} {r : Option Value} {h' : pH} {cd : List pI} {L0 : pL} (hcd : p_cd k = cd) (hL : p_ent k args = L0) (hw : PW cd 0 L0 [] h (fun x => x = (r, h'))) : PC k args h r h' := by
  obtain ⟨n, r2, h1, h2⟩ := hw
  subst h2
  subst hL
  subst hcd
  exact ⟨n, h1⟩
theorem R_n (c : Nat) (hc : cd[i]? = some (0, a, b, z, t)) (hz : z = nI c) (kk : PW cd (i + 1) L (.int (nI c) :: S) h Q) : PW cd i L S h Q := PW_op hc (by decide) (by show some (L, Value.int z :: S, h) = _; rw [hz]) kk
theorem R_i (hc : cd[i]? = some (0, a, b, z, t)) (kk : PW cd (i + 1) L (.int z :: S) h Q) : PW cd i L S h Q := PW_op hc (by decide) rfl kk
theorem R_ld0 {x : Int32} (hc : cd[i]? = some (1, 0, b, z, t)) (kk : PW cd (i + 1) (some (.int x) :: L) (.int x :: S) h Q) : PW cd i (some (.int x) :: L) S h Q := PW_op hc (by decide) rfl kk
theorem R_la0 {x : Nat} (hc : cd[i]? = some (2, 0, b, z, t)) (kk : PW cd (i + 1) (some (.ref x) :: L) (.ref x :: S) h Q) : PW cd i (some (.ref x) :: L) S h Q := PW_op hc (by decide) rfl kk
theorem R_st0 {x : Int32} {w : Option Value} (hc : cd[i]? = some (3, 0, b, z, t)) (kk : PW cd (i + 1) (some (.int x) :: L) S h Q) : PW cd i (w :: L) (.int x :: S) h Q := PW_op hc (by decide) (by simp [p_op, o3]) kk
theorem R_sa0 {x : Nat} {w : Option Value} (hc : cd[i]? = some (4, 0, b, z, t)) (kk : PW cd (i + 1) (some (.ref x) :: L) S h Q) : PW cd i (w :: L) (.ref x :: S) h Q := PW_op hc (by decide) (by simp [p_op, o4]) kk
theorem R_in0 {x : Nat} (hc : cd[i]? = some (5, 0, b, z, t)) (hz : z = 1) (kk : PW cd (i + 1) (some (.int (nI (x + 1))) :: L) S h Q) : PW cd i (some (.int (nI x)) :: L) S h Q := PW_op hc (by decide) (by subst hz; simp [p_op, o5, nI_1]) kk
theorem R_ii0 {x : Int32} (hc : cd[i]? = some (5, 0, b, z, t)) (kk : PW cd (i + 1) (some (.int (x + z)) :: L) S h Q) : PW cd i (some (.int x) :: L) S h Q := PW_op hc (by decide) rfl kk
theorem R_ld1 {v0 : Option Value} {x : Int32} (hc : cd[i]? = some (1, 1, b, z, t)) (kk : PW cd (i + 1) (v0 :: some (.int x) :: L) (.int x :: S) h Q) : PW cd i (v0 :: some (.int x) :: L) S h Q := PW_op hc (by decide) rfl kk
theorem R_la1 {v0 : Option Value} {x : Nat} (hc : cd[i]? = some (2, 1, b, z, t)) (kk : PW cd (i + 1) (v0 :: some (.ref x) :: L) (.ref x :: S) h Q) : PW cd i (v0 :: some (.ref x) :: L) S h Q := PW_op hc (by decide) rfl kk
theorem R_st1 {v0 : Option Value} {x : Int32} {w : Option Value} (hc : cd[i]? = some (3, 1, b, z, t)) (kk : PW cd (i + 1) (v0 :: some (.int x) :: L) S h Q) : PW cd i (v0 :: w :: L) (.int x :: S) h Q := PW_op hc (by decide) (by simp [p_op, o3]) kk
theorem R_sa1 {v0 : Option Value} {x : Nat} {w : Option Value} (hc : cd[i]? = some (4, 1, b, z, t)) (kk : PW cd (i + 1) (v0 :: some (.ref x) :: L) S h Q) : PW cd i (v0 :: w :: L) (.ref x :: S) h Q := PW_op hc (by decide) (by simp [p_op, o4]) kk
theorem R_in1 {v0 : Option Value} {x : Nat} (hc : cd[i]? = some (5, 1, b, z, t)) (hz : z = 1) (kk : PW cd (i + 1) (v0 :: some (.int (nI (x + 1))) :: L) S h Q) : PW cd i (v0 :: some (.int (nI x)) :: L) S h Q := PW_op hc (by decide) (by subst hz; simp [p_op, o5, nI_1]) kk
theorem R_ii1 {v0 : Option Value} {x : Int32} (hc : cd[i]? = some (5, 1, b, z, t)) (kk : PW cd (i + 1) (v0 :: some (.int (x + z)) :: L) S h Q) : PW cd i (v0 :: some (.int x) :: L) S h Q := PW_op hc (by decide) rfl kk
theorem R_ld2 {v0 v1 : Option Value} {x : Int32} (hc : cd[i]? = some (1, 2, b, z, t)) (kk : PW cd (i + 1) (v0 :: v1 :: some (.int x) :: L) (.int x :: S) h Q) : PW cd i (v0 :: v1 :: some (.int x) :: L) S h Q := PW_op hc (by decide) rfl kk
theorem R_la2 {v0 v1 : Option Value} {x : Nat} (hc : cd[i]? = some (2, 2, b, z, t)) (kk : PW cd (i + 1) (v0 :: v1 :: some (.ref x) :: L) (.ref x :: S) h Q) : PW cd i (v0 :: v1 :: some (.ref x) :: L) S h Q := PW_op hc (by decide) rfl kk
theorem R_st2 {v0 v1 : Option Value} {x : Int32} {w : Option Value} (hc : cd[i]? = some (3, 2, b, z, t)) (kk : PW cd (i + 1) (v0 :: v1 :: some (.int x) :: L) S h Q) : PW cd i (v0 :: v1 :: w :: L) (.int x :: S) h Q := PW_op hc (by decide) (by simp [p_op, o3]) kk
theorem R_sa2 {v0 v1 : Option Value} {x : Nat} {w : Option Value} (hc : cd[i]? = some (4, 2, b, z, t)) (kk : PW cd (i + 1) (v0 :: v1 :: some (.ref x) :: L) S h Q) : PW cd i (v0 :: v1 :: w :: L) (.ref x :: S) h Q := PW_op hc (by decide) (by simp [p_op, o4]) kk
theorem R_in2 {v0 v1 : Option Value} {x : Nat} (hc : cd[i]? = some (5, 2, b, z, t)) (hz : z = 1) (kk : PW cd (i + 1) (v0 :: v1 :: some (.int (nI (x + 1))) :: L) S h Q) : PW cd i (v0 :: v1 :: some (.int (nI x)) :: L) S h Q := PW_op hc (by decide) (by subst hz; simp [p_op, o5, nI_1]) kk
theorem R_ii2 {v0 v1 : Option Value} {x : Int32} (hc : cd[i]? = some (5, 2, b, z, t)) (kk : PW cd (i + 1) (v0 :: v1 :: some (.int (x + z)) :: L) S h Q) : PW cd i (v0 :: v1 :: some (.int x) :: L) S h Q := PW_op hc (by decide) rfl kk
theorem R_ld3 {v0 v1 v2 : Option Value} {x : Int32} (hc : cd[i]? = some (1, 3, b, z, t)) (kk : PW cd (i + 1) (v0 :: v1 :: v2 :: some (.int x) :: L) (.int x :: S) h Q) : PW cd i (v0 :: v1 :: v2 :: some (.int x) :: L) S h Q := PW_op hc (by decide) rfl kk
theorem R_la3 {v0 v1 v2 : Option Value} {x : Nat} (hc : cd[i]? = some (2, 3, b, z, t)) (kk : PW cd (i + 1) (v0 :: v1 :: v2 :: some (.ref x) :: L) (.ref x :: S) h Q) : PW cd i (v0 :: v1 :: v2 :: some (.ref x) :: L) S h Q := PW_op hc (by decide) rfl kk
theorem R_st3 {v0 v1 v2 : Option Value} {x : Int32} {w : Option Value} (hc : cd[i]? = some (3, 3, b, z, t)) (kk : PW cd (i + 1) (v0 :: v1 :: v2 :: some (.int x) :: L) S h Q) : PW cd i (v0 :: v1 :: v2 :: w :: L) (.int x :: S) h Q := PW_op hc (by decide) (by simp [p_op, o3]) kk
theorem R_sa3 {v0 v1 v2 : Option Value} {x : Nat} {w : Option Value} (hc : cd[i]? = some (4, 3, b, z, t)) (kk : PW cd (i + 1) (v0 :: v1 :: v2 :: some (.ref x) :: L) S h Q) : PW cd i (v0 :: v1 :: v2 :: w :: L) (.ref x :: S) h Q := PW_op hc (by decide) (by simp [p_op, o4]) kk
theorem R_in3 {v0 v1 v2 : Option Value} {x : Nat} (hc : cd[i]? = some (5, 3, b, z, t)) (hz : z = 1) (kk : PW cd (i + 1) (v0 :: v1 :: v2 :: some (.int (nI (x + 1))) :: L) S h Q) : PW cd i (v0 :: v1 :: v2 :: some (.int (nI x)) :: L) S h Q := PW_op hc (by decide) (by subst hz; simp [p_op, o5, nI_1]) kk
theorem R_ii3 {v0 v1 v2 : Option Value} {x : Int32} (hc : cd[i]? = some (5, 3, b, z, t)) (kk : PW cd (i + 1) (v0 :: v1 :: v2 :: some (.int (x + z)) :: L) S h Q) : PW cd i (v0 :: v1 :: v2 :: some (.int x) :: L) S h Q := PW_op hc (by decide) rfl kk
theorem R_ld4 {v0 v1 v2 v3 : Option Value} {x : Int32} (hc : cd[i]? = some (1, 4, b, z, t)) (kk : PW cd (i + 1) (v0 :: v1 :: v2 :: v3 :: some (.int x) :: L) (.int x :: S) h Q) : PW cd i (v0 :: v1 :: v2 :: v3 :: some (.int x) :: L) S h Q := PW_op hc (by decide) rfl kk
theorem R_la4 {v0 v1 v2 v3 : Option Value} {x : Nat} (hc : cd[i]? = some (2, 4, b, z, t)) (kk : PW cd (i + 1) (v0 :: v1 :: v2 :: v3 :: some (.ref x) :: L) (.ref x :: S) h Q) : PW cd i (v0 :: v1 :: v2 :: v3 :: some (.ref x) :: L) S h Q := PW_op hc (by decide) rfl kk
theorem R_st4 {v0 v1 v2 v3 : Option Value} {x : Int32} {w : Option Value} (hc : cd[i]? = some (3, 4, b, z, t)) (kk : PW cd (i + 1) (v0 :: v1 :: v2 :: v3 :: some (.int x) :: L) S h Q) : PW cd i (v0 :: v1 :: v2 :: v3 :: w :: L) (.int x :: S) h Q := PW_op hc (by decide) (by simp [p_op, o3]) kk
theorem R_sa4 {v0 v1 v2 v3 : Option Value} {x : Nat} {w : Option Value} (hc : cd[i]? = some (4, 4, b, z, t)) (kk : PW cd (i + 1) (v0 :: v1 :: v2 :: v3 :: some (.ref x) :: L) S h Q) : PW cd i (v0 :: v1 :: v2 :: v3 :: w :: L) (.ref x :: S) h Q := PW_op hc (by decide) (by simp [p_op, o4]) kk
theorem R_in4 {v0 v1 v2 v3 : Option Value} {x : Nat} (hc : cd[i]? = some (5, 4, b, z, t)) (hz : z = 1) (kk : PW cd (i + 1) (v0 :: v1 :: v2 :: v3 :: some (.int (nI (x + 1))) :: L) S h Q) : PW cd i (v0 :: v1 :: v2 :: v3 :: some (.int (nI x)) :: L) S h Q := PW_op hc (by decide) (by subst hz; simp [p_op, o5, nI_1]) kk
theorem R_ii4 {v0 v1 v2 v3 : Option Value} {x : Int32} (hc : cd[i]? = some (5, 4, b, z, t)) (kk : PW cd (i + 1) (v0 :: v1 :: v2 :: v3 :: some (.int (x + z)) :: L) S h Q) : PW cd i (v0 :: v1 :: v2 :: v3 :: some (.int x) :: L) S h Q := PW_op hc (by decide) rfl kk
theorem R_ld5 {v0 v1 v2 v3 v4 : Option Value} {x : Int32} (hc : cd[i]? = some (1, 5, b, z, t)) (kk : PW cd (i + 1) (v0 :: v1 :: v2 :: v3 :: v4 :: some (.int x) :: L) (.int x :: S) h Q) : PW cd i (v0 :: v1 :: v2 :: v3 :: v4 :: some (.int x) :: L) S h Q := PW_op hc (by decide) rfl kk
theorem R_la5 {v0 v1 v2 v3 v4 : Option Value} {x : Nat} (hc : cd[i]? = some (2, 5, b, z, t)) (kk : PW cd (i + 1) (v0 :: v1 :: v2 :: v3 :: v4 :: some (.ref x) :: L) (.ref x :: S) h Q) : PW cd i (v0 :: v1 :: v2 :: v3 :: v4 :: some (.ref x) :: L) S h Q := PW_op hc (by decide) rfl kk
theorem R_st5 {v0 v1 v2 v3 v4 : Option Value} {x : Int32} {w : Option Value} (hc : cd[i]? = some (3, 5, b, z, t)) (kk : PW cd (i + 1) (v0 :: v1 :: v2 :: v3 :: v4 :: some (.int x) :: L) S h Q) : PW cd i (v0 :: v1 :: v2 :: v3 :: v4 :: w :: L) (.int x :: S) h Q := PW_op hc (by decide) (by simp [p_op, o3]) kk
theorem R_sa5 {v0 v1 v2 v3 v4 : Option Value} {x : Nat} {w : Option Value} (hc : cd[i]? = some (4, 5, b, z, t)) (kk : PW cd (i + 1) (v0 :: v1 :: v2 :: v3 :: v4 :: some (.ref x) :: L) S h Q) : PW cd i (v0 :: v1 :: v2 :: v3 :: v4 :: w :: L) (.ref x :: S) h Q := PW_op hc (by decide) (by simp [p_op, o4]) kk
theorem R_in5 {v0 v1 v2 v3 v4 : Option Value} {x : Nat} (hc : cd[i]? = some (5, 5, b, z, t)) (hz : z = 1) (kk : PW cd (i + 1) (v0 :: v1 :: v2 :: v3 :: v4 :: some (.int (nI (x + 1))) :: L) S h Q) : PW cd i (v0 :: v1 :: v2 :: v3 :: v4 :: some (.int (nI x)) :: L) S h Q := PW_op hc (by decide) (by subst hz; simp [p_op, o5, nI_1]) kk
theorem R_ii5 {v0 v1 v2 v3 v4 : Option Value} {x : Int32} (hc : cd[i]? = some (5, 5, b, z, t)) (kk : PW cd (i + 1) (v0 :: v1 :: v2 :: v3 :: v4 :: some (.int (x + z)) :: L) S h Q) : PW cd i (v0 :: v1 :: v2 :: v3 :: v4 :: some (.int x) :: L) S h Q := PW_op hc (by decide) rfl kk
theorem R_ld6 {v0 v1 v2 v3 v4 v5 : Option Value} {x : Int32} (hc : cd[i]? = some (1, 6, b, z, t)) (kk : PW cd (i + 1) (v0 :: v1 :: v2 :: v3 :: v4 :: v5 :: some (.int x) :: L) (.int x :: S) h Q) : PW cd i (v0 :: v1 :: v2 :: v3 :: v4 :: v5 :: some (.int x) :: L) S h Q := PW_op hc (by decide) rfl kk
theorem R_la6 {v0 v1 v2 v3 v4 v5 : Option Value} {x : Nat} (hc : cd[i]? = some (2, 6, b, z, t)) (kk : PW cd (i + 1) (v0 :: v1 :: v2 :: v3 :: v4 :: v5 :: some (.ref x) :: L) (.ref x :: S) h Q) : PW cd i (v0 :: v1 :: v2 :: v3 :: v4 :: v5 :: some (.ref x) :: L) S h Q := PW_op hc (by decide) rfl kk
theorem R_st6 {v0 v1 v2 v3 v4 v5 : Option Value} {x : Int32} {w : Option Value} (hc : cd[i]? = some (3, 6, b, z, t)) (kk : PW cd (i + 1) (v0 :: v1 :: v2 :: v3 :: v4 :: v5 :: some (.int x) :: L) S h Q) : PW cd i (v0 :: v1 :: v2 :: v3 :: v4 :: v5 :: w :: L) (.int x :: S) h Q := PW_op hc (by decide) (by simp [p_op, o3]) kk
theorem R_sa6 {v0 v1 v2 v3 v4 v5 : Option Value} {x : Nat} {w : Option Value} (hc : cd[i]? = some (4, 6, b, z, t)) (kk : PW cd (i + 1) (v0 :: v1 :: v2 :: v3 :: v4 :: v5 :: some (.ref x) :: L) S h Q) : PW cd i (v0 :: v1 :: v2 :: v3 :: v4 :: v5 :: w :: L) (.ref x :: S) h Q := PW_op hc (by decide) (by simp [p_op, o4]) kk
theorem R_in6 {v0 v1 v2 v3 v4 v5 : Option Value} {x : Nat} (hc : cd[i]? = some (5, 6, b, z, t)) (hz : z = 1) (kk : PW cd (i + 1) (v0 :: v1 :: v2 :: v3 :: v4 :: v5 :: some (.int (nI (x + 1))) :: L) S h Q) : PW cd i (v0 :: v1 :: v2 :: v3 :: v4 :: v5 :: some (.int (nI x)) :: L) S h Q := PW_op hc (by decide) (by subst hz; simp [p_op, o5, nI_1]) kk
theorem R_ii6 {v0 v1 v2 v3 v4 v5 : Option Value} {x : Int32} (hc : cd[i]? = some (5, 6, b, z, t)) (kk : PW cd (i + 1) (v0 :: v1 :: v2 :: v3 :: v4 :: v5 :: some (.int (x + z)) :: L) S h Q) : PW cd i (v0 :: v1 :: v2 :: v3 :: v4 :: v5 :: some (.int x) :: L) S h Q := PW_op hc (by decide) rfl kk
theorem R_ld7 {v0 v1 v2 v3 v4 v5 v6 : Option Value} {x : Int32} (hc : cd[i]? = some (1, 7, b, z, t)) (kk : PW cd (i + 1) (v0 :: v1 :: v2 :: v3 :: v4 :: v5 :: v6 :: some (.int x) :: L) (.int x :: S) h Q) : PW cd i (v0 :: v1 :: v2 :: v3 :: v4 :: v5 :: v6 :: some (.int x) :: L) S h Q := PW_op hc (by decide) rfl kk
theorem R_la7 {v0 v1 v2 v3 v4 v5 v6 : Option Value} {x : Nat} (hc : cd[i]? = some (2, 7, b, z, t)) (kk : PW cd (i + 1) (v0 :: v1 :: v2 :: v3 :: v4 :: v5 :: v6 :: some (.ref x) :: L) (.ref x :: S) h Q) : PW cd i (v0 :: v1 :: v2 :: v3 :: v4 :: v5 :: v6 :: some (.ref x) :: L) S h Q := PW_op hc (by decide) rfl kk
theorem R_st7 {v0 v1 v2 v3 v4 v5 v6 : Option Value} {x : Int32} {w : Option Value} (hc : cd[i]? = some (3, 7, b, z, t)) (kk : PW cd (i + 1) (v0 :: v1 :: v2 :: v3 :: v4 :: v5 :: v6 :: some (.int x) :: L) S h Q) : PW cd i (v0 :: v1 :: v2 :: v3 :: v4 :: v5 :: v6 :: w :: L) (.int x :: S) h Q := PW_op hc (by decide) (by simp [p_op, o3]) kk
theorem R_sa7 {v0 v1 v2 v3 v4 v5 v6 : Option Value} {x : Nat} {w : Option Value} (hc : cd[i]? = some (4, 7, b, z, t)) (kk : PW cd (i + 1) (v0 :: v1 :: v2 :: v3 :: v4 :: v5 :: v6 :: some (.ref x) :: L) S h Q) : PW cd i (v0 :: v1 :: v2 :: v3 :: v4 :: v5 :: v6 :: w :: L) (.ref x :: S) h Q := PW_op hc (by decide) (by simp [p_op, o4]) kk
theorem R_in7 {v0 v1 v2 v3 v4 v5 v6 : Option Value} {x : Nat} (hc : cd[i]? = some (5, 7, b, z, t)) (hz : z = 1) (kk : PW cd (i + 1) (v0 :: v1 :: v2 :: v3 :: v4 :: v5 :: v6 :: some (.int (nI (x + 1))) :: L) S h Q) : PW cd i (v0 :: v1 :: v2 :: v3 :: v4 :: v5 :: v6 :: some (.int (nI x)) :: L) S h Q := PW_op hc (by decide) (by subst hz; simp [p_op, o5, nI_1]) kk
theorem R_ii7 {v0 v1 v2 v3 v4 v5 v6 : Option Value} {x : Int32} (hc : cd[i]? = some (5, 7, b, z, t)) (kk : PW cd (i + 1) (v0 :: v1 :: v2 :: v3 :: v4 :: v5 :: v6 :: some (.int (x + z)) :: L) S h Q) : PW cd i (v0 :: v1 :: v2 :: v3 :: v4 :: v5 :: v6 :: some (.int x) :: L) S h Q := PW_op hc (by decide) rfl kk
theorem R_ld8 {v0 v1 v2 v3 v4 v5 v6 v7 : Option Value} {x : Int32} (hc : cd[i]? = some (1, 8, b, z, t)) (kk : PW cd (i + 1) (v0 :: v1 :: v2 :: v3 :: v4 :: v5 :: v6 :: v7 :: some (.int x) :: L) (.int x :: S) h Q) : PW cd i (v0 :: v1 :: v2 :: v3 :: v4 :: v5 :: v6 :: v7 :: some (.int x) :: L) S h Q := PW_op hc (by decide) rfl kk
theorem R_la8 {v0 v1 v2 v3 v4 v5 v6 v7 : Option Value} {x : Nat} (hc : cd[i]? = some (2, 8, b, z, t)) (kk : PW cd (i + 1) (v0 :: v1 :: v2 :: v3 :: v4 :: v5 :: v6 :: v7 :: some (.ref x) :: L) (.ref x :: S) h Q) : PW cd i (v0 :: v1 :: v2 :: v3 :: v4 :: v5 :: v6 :: v7 :: some (.ref x) :: L) S h Q := PW_op hc (by decide) rfl kk
theorem R_st8 {v0 v1 v2 v3 v4 v5 v6 v7 : Option Value} {x : Int32} {w : Option Value} (hc : cd[i]? = some (3, 8, b, z, t)) (kk : PW cd (i + 1) (v0 :: v1 :: v2 :: v3 :: v4 :: v5 :: v6 :: v7 :: some (.int x) :: L) S h Q) : PW cd i (v0 :: v1 :: v2 :: v3 :: v4 :: v5 :: v6 :: v7 :: w :: L) (.int x :: S) h Q := PW_op hc (by decide) (by simp [p_op, o3]) kk
theorem R_sa8 {v0 v1 v2 v3 v4 v5 v6 v7 : Option Value} {x : Nat} {w : Option Value} (hc : cd[i]? = some (4, 8, b, z, t)) (kk : PW cd (i + 1) (v0 :: v1 :: v2 :: v3 :: v4 :: v5 :: v6 :: v7 :: some (.ref x) :: L) S h Q) : PW cd i (v0 :: v1 :: v2 :: v3 :: v4 :: v5 :: v6 :: v7 :: w :: L) (.ref x :: S) h Q := PW_op hc (by decide) (by simp [p_op, o4]) kk
theorem R_in8 {v0 v1 v2 v3 v4 v5 v6 v7 : Option Value} {x : Nat} (hc : cd[i]? = some (5, 8, b, z, t)) (hz : z = 1) (kk : PW cd (i + 1) (v0 :: v1 :: v2 :: v3 :: v4 :: v5 :: v6 :: v7 :: some (.int (nI (x + 1))) :: L) S h Q) : PW cd i (v0 :: v1 :: v2 :: v3 :: v4 :: v5 :: v6 :: v7 :: some (.int (nI x)) :: L) S h Q := PW_op hc (by decide) (by subst hz; simp [p_op, o5, nI_1]) kk
theorem R_ii8 {v0 v1 v2 v3 v4 v5 v6 v7 : Option Value} {x : Int32} (hc : cd[i]? = some (5, 8, b, z, t)) (kk : PW cd (i + 1) (v0 :: v1 :: v2 :: v3 :: v4 :: v5 :: v6 :: v7 :: some (.int (x + z)) :: L) S h Q) : PW cd i (v0 :: v1 :: v2 :: v3 :: v4 :: v5 :: v6 :: v7 :: some (.int x) :: L) S h Q := PW_op hc (by decide) rfl kk
theorem R_addN {x y : Nat} (hc : cd[i]? = some (6, 0, b, z, t)) (kk : PW cd (i + 1) L (.int (nI (x + y)) :: S) h Q) : PW cd i L (.int (nI y) :: .int (nI x) :: S) h Q := PW_op hc (by decide) (by rw [← nI_add]; rfl) kk
theorem R_subN {x y : Nat} (hc : cd[i]? = some (6, 1, b, z, t)) (hy : y ≤ x) (kk : PW cd (i + 1) L (.int (nI (x - y)) :: S) h Q) : PW cd i L (.int (nI y) :: .int (nI x) :: S) h Q := PW_op hc (by decide) (by rw [← pk_sub hy]; rfl) kk
theorem R_mulN {x y : Nat} (hc : cd[i]? = some (6, 2, b, z, t)) (kk : PW cd (i + 1) L (.int (nI (x * y)) :: S) h Q) : PW cd i L (.int (nI y) :: .int (nI x) :: S) h Q := PW_op hc (by decide) (by rw [← pk_mul]; rfl) kk
theorem R_add {x y : Int32} (hc : cd[i]? = some (6, 0, b, z, t)) (kk : PW cd (i + 1) L (.int (x + y) :: S) h Q) : PW cd i L (.int y :: .int x :: S) h Q := PW_op hc (by decide) rfl kk
theorem R_sub {x y : Int32} (hc : cd[i]? = some (6, 1, b, z, t)) (kk : PW cd (i + 1) L (.int (x - y) :: S) h Q) : PW cd i L (.int y :: .int x :: S) h Q := PW_op hc (by decide) rfl kk
theorem R_mul {x y : Int32} (hc : cd[i]? = some (6, 2, b, z, t)) (kk : PW cd (i + 1) L (.int (x * y) :: S) h Q) : PW cd i L (.int y :: .int x :: S) h Q := PW_op hc (by decide) rfl kk
theorem R_and {x y : Int32} (hc : cd[i]? = some (6, 3, b, z, t)) (kk : PW cd (i + 1) L (.int (x &&& y) :: S) h Q) : PW cd i L (.int y :: .int x :: S) h Q := PW_op hc (by decide) rfl kk
theorem R_or {x y : Int32} (hc : cd[i]? = some (6, 4, b, z, t)) (kk : PW cd (i + 1) L (.int (x ||| y) :: S) h Q) : PW cd i L (.int y :: .int x :: S) h Q := PW_op hc (by decide) rfl kk
theorem R_xor {x y : Int32} (hc : cd[i]? = some (6, 5, b, z, t)) (kk : PW cd (i + 1) L (.int (x ^^^ y) :: S) h Q) : PW cd i L (.int y :: .int x :: S) h Q := PW_op hc (by decide) rfl kk
theorem R_shl {x y : Int32} (hc : cd[i]? = some (6, 6, b, z, t)) (kk : PW cd (i + 1) L (.int (x <<< (y &&& 31)) :: S) h Q) : PW cd i L (.int y :: .int x :: S) h Q := PW_op hc (by decide) rfl kk
theorem R_shr {x y : Int32} (hc : cd[i]? = some (6, 7, b, z, t)) (kk : PW cd (i + 1) L (.int (x >>> (y &&& 31)) :: S) h Q) : PW cd i L (.int y :: .int x :: S) h Q := PW_op hc (by decide) rfl kk
theorem R_ushr {x y : Int32} (hc : cd[i]? = some (6, 8, b, z, t)) (kk : PW cd (i + 1) L (.int ((x.toUInt32 >>> (y.toUInt32 &&& Int32.toUInt32 31)).toInt32) :: S) h Q) : PW cd i L (.int y :: .int x :: S) h Q := PW_op hc (by decide) rfl kk
theorem R_neg {x : Int32} (hc : cd[i]? = some (7, a, b, z, t)) (kk : PW cd (i + 1) L (.int (-x) :: S) h Q) : PW cd i L (.int x :: S) h Q := PW_op hc (by decide) rfl kk
theorem R_remN {x y : Nat} (hc : cd[i]? = some (8, a, b, z, t)) (hx : x < 2 ^ 31) (h0 : 0 < y) (hy : y < 2 ^ 31) (kk : PW cd (i + 1) L (.int (nI (x % y)) :: S) h Q) : PW cd i L (.int (nI y) :: .int (nI x) :: S) h Q := PW_op hc (by decide) (by simp only [p_op, o8]; rw [if_neg (nI_ne0 h0 hy), pk_rem hx h0 hy]) kk
theorem R_i2c {x : Int32} (hc : cd[i]? = some (9, a, b, z, t)) (kk : PW cd (i + 1) L (.int ((x.toUInt32 % 65536).toInt32) :: S) h Q) : PW cd i L (.int x :: S) h Q := PW_op hc (by decide) rfl kk
theorem R_dupI {x : Int32} (hc : cd[i]? = some (10, a, b, z, t)) (kk : PW cd (i + 1) L (.int x :: .int x :: S) h Q) : PW cd i L (.int x :: S) h Q := PW_op hc (by decide) rfl kk
theorem R_dupR {x : Nat} (hc : cd[i]? = some (10, a, b, z, t)) (kk : PW cd (i + 1) L (.ref x :: .ref x :: S) h Q) : PW cd i L (.ref x :: S) h Q := PW_op hc (by decide) rfl kk
theorem R_dup2 {x : Int32} {y : Nat} (hc : cd[i]? = some (11, a, b, z, t)) (kk : PW cd (i + 1) L (.int x :: .ref y :: .int x :: .ref y :: S) h Q) : PW cd i L (.int x :: .ref y :: S) h Q := PW_op hc (by decide) rfl kk
theorem R_popI {x : Int32} (hc : cd[i]? = some (12, a, b, z, t)) (kk : PW cd (i + 1) L S h Q) : PW cd i L (.int x :: S) h Q := PW_op hc (by decide) rfl kk
theorem R_goto (hc : cd[i]? = some (30, a, b, z, t)) (kk : PW cd b L S h Q) : PW cd i L S h Q := PW_br hc (by decide) (by decide) rfl kk
theorem R_max {x y : Nat} (hc : cd[i]? = some (26, a, b, z, t)) (hx : x < 2 ^ 31) (hy : y < 2 ^ 31) (hs : (decide (S.length ≤ 8) && p_c1 S) = true) (kk : PW cd (i + 1) L (.int (nI (max x y)) :: S) h Q) : PW cd i L (.int (nI y) :: .int (nI x) :: S) h Q := PW_op hc (by decide) (by
  simp only [Bool.and_eq_true, decide_eq_true_eq] at hs
  simp only [p_op, o26]
  rw [if_pos hs]
  congr 4
  by_cases g : x < y
  · rw [if_pos ((nI_ltI hx hy).mpr g), Nat.max_eq_right (Nat.le_of_lt g)]
  · rw [if_neg (fun q => g ((nI_ltI hx hy).mp q)), Nat.max_eq_left (Nat.le_of_not_lt g)]) kk
theorem R_min {x y : Nat} (hc : cd[i]? = some (27, a, b, z, t)) (hx : x < 2 ^ 31) (hy : y < 2 ^ 31) (hs : (decide (S.length ≤ 8) && p_c1 S) = true) (kk : PW cd (i + 1) L (.int (nI (min x y)) :: S) h Q) : PW cd i L (.int (nI y) :: .int (nI x) :: S) h Q := PW_op hc (by decide) (by
  simp only [Bool.and_eq_true, decide_eq_true_eq] at hs
  simp only [p_op, o27]
  rw [if_pos hs]
  congr 4
  by_cases g : y < x
  · rw [if_pos ((nI_ltI hy hx).mpr g), Nat.min_eq_right (Nat.le_of_lt g)]
  · rw [if_neg (fun q => g ((nI_ltI hy hx).mp q)), Nat.min_eq_left (Nat.le_of_not_lt g)]) kk
theorem B2_eqT {x y : Int32} (hc : cd[i]? = some (31, 0, b, z, t)) (hh : x = y) (kk : PW cd b L S h Q) : PW cd i L (.int y :: .int x :: S) h Q := PW_br hc (by decide) (by decide) (by show some (if p_cmp 0 x y = true then b else i + 1, S) = _; rw [show p_cmp 0 x y = true from decide_eq_true hh, if_pos rfl]) kk
theorem B2_eqF {x y : Int32} (hc : cd[i]? = some (31, 0, b, z, t)) (hh : ¬ x = y) (kk : PW cd (i + 1) L S h Q) : PW cd i L (.int y :: .int x :: S) h Q := PW_br hc (by decide) (by decide) (by show some (if p_cmp 0 x y = true then b else i + 1, S) = _; rw [show p_cmp 0 x y = false from (decide_eq_false hh), if_neg Bool.false_ne_true]) kk
theorem B1_eqT {x : Int32} (hc : cd[i]? = some (32, 0, b, z, t)) (hh : x = 0) (kk : PW cd b L S h Q) : PW cd i L (.int x :: S) h Q := PW_br hc (by decide) (by decide) (by show some (if p_cmp 0 x 0 = true then b else i + 1, S) = _; rw [show p_cmp 0 x 0 = true from decide_eq_true hh, if_pos rfl]) kk
theorem B1_eqF {x : Int32} (hc : cd[i]? = some (32, 0, b, z, t)) (hh : ¬ x = 0) (kk : PW cd (i + 1) L S h Q) : PW cd i L (.int x :: S) h Q := PW_br hc (by decide) (by decide) (by show some (if p_cmp 0 x 0 = true then b else i + 1, S) = _; rw [show p_cmp 0 x 0 = false from (decide_eq_false hh), if_neg Bool.false_ne_true]) kk
theorem B2_eq {x y : Int32} (hc : cd[i]? = some (31, 0, b, z, t)) (kt : x = y → PW cd b L S h Q) (kf : ¬ x = y → PW cd (i + 1) L S h Q) : PW cd i L (.int y :: .int x :: S) h Q := by
  by_cases hh : x = y
  · exact B2_eqT hc hh (kt hh)
  · exact B2_eqF hc hh (kf hh)
theorem B1_eq {x : Int32} (hc : cd[i]? = some (32, 0, b, z, t)) (kt : x = 0 → PW cd b L S h Q) (kf : ¬ x = 0 → PW cd (i + 1) L S h Q) : PW cd i L (.int x :: S) h Q := by
  by_cases hh : x = 0
  · exact B1_eqT hc hh (kt hh)
  · exact B1_eqF hc hh (kf hh)
theorem N2_eqT {x y : Nat} (hc : cd[i]? = some (31, 0, b, z, t)) (hx : x < 2 ^ 31) (hy : y < 2 ^ 31) (hh : x = y) (kk : PW cd b L S h Q) : PW cd i L (.int (nI y) :: .int (nI x) :: S) h Q := B2_eqT hc ((nI_eq hx hy).mpr hh) kk
theorem N2_eqF {x y : Nat} (hc : cd[i]? = some (31, 0, b, z, t)) (hx : x < 2 ^ 31) (hy : y < 2 ^ 31) (hh : ¬ x = y) (kk : PW cd (i + 1) L S h Q) : PW cd i L (.int (nI y) :: .int (nI x) :: S) h Q := B2_eqF hc (fun q => hh ((nI_eq hx hy).mp q)) kk
theorem N2_eq {x y : Nat} (hc : cd[i]? = some (31, 0, b, z, t)) (hx : x < 2 ^ 31) (hy : y < 2 ^ 31) (kt : x = y → PW cd b L S h Q) (kf : ¬ x = y → PW cd (i + 1) L S h Q) : PW cd i L (.int (nI y) :: .int (nI x) :: S) h Q := by
  rcases Classical.em (x = y) with hh | hh
  · exact N2_eqT hc hx hy hh (kt hh)
  · exact N2_eqF hc hx hy (by omega) (kf (by omega))
theorem B2_neT {x y : Int32} (hc : cd[i]? = some (31, 1, b, z, t)) (hh : ¬ x = y) (kk : PW cd b L S h Q) : PW cd i L (.int y :: .int x :: S) h Q := PW_br hc (by decide) (by decide) (by show some (if p_cmp 1 x y = true then b else i + 1, S) = _; rw [show p_cmp 1 x y = true from decide_eq_true hh, if_pos rfl]) kk
theorem B2_neF {x y : Int32} (hc : cd[i]? = some (31, 1, b, z, t)) (hh : x = y) (kk : PW cd (i + 1) L S h Q) : PW cd i L (.int y :: .int x :: S) h Q := PW_br hc (by decide) (by decide) (by show some (if p_cmp 1 x y = true then b else i + 1, S) = _; rw [show p_cmp 1 x y = false from (decide_eq_false (fun q => q hh)), if_neg Bool.false_ne_true]) kk
theorem B1_neT {x : Int32} (hc : cd[i]? = some (32, 1, b, z, t)) (hh : ¬ x = 0) (kk : PW cd b L S h Q) : PW cd i L (.int x :: S) h Q := PW_br hc (by decide) (by decide) (by show some (if p_cmp 1 x 0 = true then b else i + 1, S) = _; rw [show p_cmp 1 x 0 = true from decide_eq_true hh, if_pos rfl]) kk
theorem B1_neF {x : Int32} (hc : cd[i]? = some (32, 1, b, z, t)) (hh : x = 0) (kk : PW cd (i + 1) L S h Q) : PW cd i L (.int x :: S) h Q := PW_br hc (by decide) (by decide) (by show some (if p_cmp 1 x 0 = true then b else i + 1, S) = _; rw [show p_cmp 1 x 0 = false from (decide_eq_false (fun q => q hh)), if_neg Bool.false_ne_true]) kk
theorem B2_ne {x y : Int32} (hc : cd[i]? = some (31, 1, b, z, t)) (kt : ¬ x = y → PW cd b L S h Q) (kf : x = y → PW cd (i + 1) L S h Q) : PW cd i L (.int y :: .int x :: S) h Q := by
  by_cases hh : x = y
  · exact B2_neF hc hh (kf hh)
  · exact B2_neT hc hh (kt hh)
theorem B1_ne {x : Int32} (hc : cd[i]? = some (32, 1, b, z, t)) (kt : ¬ x = 0 → PW cd b L S h Q) (kf : x = 0 → PW cd (i + 1) L S h Q) : PW cd i L (.int x :: S) h Q := by
  by_cases hh : x = 0
  · exact B1_neF hc hh (kf hh)
  · exact B1_neT hc hh (kt hh)
theorem N2_neT {x y : Nat} (hc : cd[i]? = some (31, 1, b, z, t)) (hx : x < 2 ^ 31) (hy : y < 2 ^ 31) (hh : ¬ x = y) (kk : PW cd b L S h Q) : PW cd i L (.int (nI y) :: .int (nI x) :: S) h Q := B2_neT hc (fun q => hh ((nI_eq hx hy).mp q)) kk
theorem N2_neF {x y : Nat} (hc : cd[i]? = some (31, 1, b, z, t)) (hx : x < 2 ^ 31) (hy : y < 2 ^ 31) (hh : x = y) (kk : PW cd (i + 1) L S h Q) : PW cd i L (.int (nI y) :: .int (nI x) :: S) h Q := B2_neF hc ((nI_eq hx hy).mpr hh) kk
theorem N2_ne {x y : Nat} (hc : cd[i]? = some (31, 1, b, z, t)) (hx : x < 2 ^ 31) (hy : y < 2 ^ 31) (kt : ¬ x = y → PW cd b L S h Q) (kf : x = y → PW cd (i + 1) L S h Q) : PW cd i L (.int (nI y) :: .int (nI x) :: S) h Q := by
  rcases Classical.em (¬ x = y) with hh | hh
  · exact N2_neT hc hx hy hh (kt hh)
  · exact N2_neF hc hx hy (by omega) (kf (by omega))
theorem B2_ltT {x y : Int32} (hc : cd[i]? = some (31, 2, b, z, t)) (hh : x < y) (kk : PW cd b L S h Q) : PW cd i L (.int y :: .int x :: S) h Q := PW_br hc (by decide) (by decide) (by show some (if p_cmp 2 x y = true then b else i + 1, S) = _; rw [show p_cmp 2 x y = true from decide_eq_true hh, if_pos rfl]) kk
theorem B2_ltF {x y : Int32} (hc : cd[i]? = some (31, 2, b, z, t)) (hh : ¬ x < y) (kk : PW cd (i + 1) L S h Q) : PW cd i L (.int y :: .int x :: S) h Q := PW_br hc (by decide) (by decide) (by show some (if p_cmp 2 x y = true then b else i + 1, S) = _; rw [show p_cmp 2 x y = false from (decide_eq_false hh), if_neg Bool.false_ne_true]) kk
theorem B1_ltT {x : Int32} (hc : cd[i]? = some (32, 2, b, z, t)) (hh : x < 0) (kk : PW cd b L S h Q) : PW cd i L (.int x :: S) h Q := PW_br hc (by decide) (by decide) (by show some (if p_cmp 2 x 0 = true then b else i + 1, S) = _; rw [show p_cmp 2 x 0 = true from decide_eq_true hh, if_pos rfl]) kk
theorem B1_ltF {x : Int32} (hc : cd[i]? = some (32, 2, b, z, t)) (hh : ¬ x < 0) (kk : PW cd (i + 1) L S h Q) : PW cd i L (.int x :: S) h Q := PW_br hc (by decide) (by decide) (by show some (if p_cmp 2 x 0 = true then b else i + 1, S) = _; rw [show p_cmp 2 x 0 = false from (decide_eq_false hh), if_neg Bool.false_ne_true]) kk
theorem B2_lt {x y : Int32} (hc : cd[i]? = some (31, 2, b, z, t)) (kt : x < y → PW cd b L S h Q) (kf : ¬ x < y → PW cd (i + 1) L S h Q) : PW cd i L (.int y :: .int x :: S) h Q := by
  by_cases hh : x < y
  · exact B2_ltT hc hh (kt hh)
  · exact B2_ltF hc hh (kf hh)
theorem B1_lt {x : Int32} (hc : cd[i]? = some (32, 2, b, z, t)) (kt : x < 0 → PW cd b L S h Q) (kf : ¬ x < 0 → PW cd (i + 1) L S h Q) : PW cd i L (.int x :: S) h Q := by
  by_cases hh : x < 0
  · exact B1_ltT hc hh (kt hh)
  · exact B1_ltF hc hh (kf hh)
theorem N2_ltT {x y : Nat} (hc : cd[i]? = some (31, 2, b, z, t)) (hx : x < 2 ^ 31) (hy : y < 2 ^ 31) (hh : x < y) (kk : PW cd b L S h Q) : PW cd i L (.int (nI y) :: .int (nI x) :: S) h Q := B2_ltT hc ((nI_ltI hx hy).mpr hh) kk
theorem N2_ltF {x y : Nat} (hc : cd[i]? = some (31, 2, b, z, t)) (hx : x < 2 ^ 31) (hy : y < 2 ^ 31) (hh : y ≤ x) (kk : PW cd (i + 1) L S h Q) : PW cd i L (.int (nI y) :: .int (nI x) :: S) h Q := B2_ltF hc (fun q => absurd ((nI_ltI hx hy).mp q) (Nat.not_lt.mpr hh)) kk
theorem N2_lt {x y : Nat} (hc : cd[i]? = some (31, 2, b, z, t)) (hx : x < 2 ^ 31) (hy : y < 2 ^ 31) (kt : x < y → PW cd b L S h Q) (kf : y ≤ x → PW cd (i + 1) L S h Q) : PW cd i L (.int (nI y) :: .int (nI x) :: S) h Q := by
  rcases Classical.em (x < y) with hh | hh
  · exact N2_ltT hc hx hy hh (kt hh)
  · exact N2_ltF hc hx hy (by omega) (kf (by omega))
theorem B2_geT {x y : Int32} (hc : cd[i]? = some (31, 3, b, z, t)) (hh : y ≤ x) (kk : PW cd b L S h Q) : PW cd i L (.int y :: .int x :: S) h Q := PW_br hc (by decide) (by decide) (by show some (if p_cmp 3 x y = true then b else i + 1, S) = _; rw [show p_cmp 3 x y = true from decide_eq_true hh, if_pos rfl]) kk
theorem B2_geF {x y : Int32} (hc : cd[i]? = some (31, 3, b, z, t)) (hh : ¬ y ≤ x) (kk : PW cd (i + 1) L S h Q) : PW cd i L (.int y :: .int x :: S) h Q := PW_br hc (by decide) (by decide) (by show some (if p_cmp 3 x y = true then b else i + 1, S) = _; rw [show p_cmp 3 x y = false from (decide_eq_false hh), if_neg Bool.false_ne_true]) kk
theorem B1_geT {x : Int32} (hc : cd[i]? = some (32, 3, b, z, t)) (hh : 0 ≤ x) (kk : PW cd b L S h Q) : PW cd i L (.int x :: S) h Q := PW_br hc (by decide) (by decide) (by show some (if p_cmp 3 x 0 = true then b else i + 1, S) = _; rw [show p_cmp 3 x 0 = true from decide_eq_true hh, if_pos rfl]) kk
theorem B1_geF {x : Int32} (hc : cd[i]? = some (32, 3, b, z, t)) (hh : ¬ 0 ≤ x) (kk : PW cd (i + 1) L S h Q) : PW cd i L (.int x :: S) h Q := PW_br hc (by decide) (by decide) (by show some (if p_cmp 3 x 0 = true then b else i + 1, S) = _; rw [show p_cmp 3 x 0 = false from (decide_eq_false hh), if_neg Bool.false_ne_true]) kk
theorem B2_ge {x y : Int32} (hc : cd[i]? = some (31, 3, b, z, t)) (kt : y ≤ x → PW cd b L S h Q) (kf : ¬ y ≤ x → PW cd (i + 1) L S h Q) : PW cd i L (.int y :: .int x :: S) h Q := by
  by_cases hh : y ≤ x
  · exact B2_geT hc hh (kt hh)
  · exact B2_geF hc hh (kf hh)
theorem B1_ge {x : Int32} (hc : cd[i]? = some (32, 3, b, z, t)) (kt : 0 ≤ x → PW cd b L S h Q) (kf : ¬ 0 ≤ x → PW cd (i + 1) L S h Q) : PW cd i L (.int x :: S) h Q := by
  by_cases hh : 0 ≤ x
  · exact B1_geT hc hh (kt hh)
  · exact B1_geF hc hh (kf hh)
theorem N2_geT {x y : Nat} (hc : cd[i]? = some (31, 3, b, z, t)) (hx : x < 2 ^ 31) (hy : y < 2 ^ 31) (hh : y ≤ x) (kk : PW cd b L S h Q) : PW cd i L (.int (nI y) :: .int (nI x) :: S) h Q := B2_geT hc ((nI_leI hy hx).mpr hh) kk
theorem N2_geF {x y : Nat} (hc : cd[i]? = some (31, 3, b, z, t)) (hx : x < 2 ^ 31) (hy : y < 2 ^ 31) (hh : x < y) (kk : PW cd (i + 1) L S h Q) : PW cd i L (.int (nI y) :: .int (nI x) :: S) h Q := B2_geF hc (fun q => absurd ((nI_leI hy hx).mp q) (Nat.not_le.mpr hh)) kk
theorem N2_ge {x y : Nat} (hc : cd[i]? = some (31, 3, b, z, t)) (hx : x < 2 ^ 31) (hy : y < 2 ^ 31) (kt : y ≤ x → PW cd b L S h Q) (kf : x < y → PW cd (i + 1) L S h Q) : PW cd i L (.int (nI y) :: .int (nI x) :: S) h Q := by
  rcases Classical.em (y ≤ x) with hh | hh
  · exact N2_geT hc hx hy hh (kt hh)
  · exact N2_geF hc hx hy (by omega) (kf (by omega))
theorem B2_gtT {x y : Int32} (hc : cd[i]? = some (31, 4, b, z, t)) (hh : y < x) (kk : PW cd b L S h Q) : PW cd i L (.int y :: .int x :: S) h Q := PW_br hc (by decide) (by decide) (by show some (if p_cmp 4 x y = true then b else i + 1, S) = _; rw [show p_cmp 4 x y = true from decide_eq_true hh, if_pos rfl]) kk
theorem B2_gtF {x y : Int32} (hc : cd[i]? = some (31, 4, b, z, t)) (hh : ¬ y < x) (kk : PW cd (i + 1) L S h Q) : PW cd i L (.int y :: .int x :: S) h Q := PW_br hc (by decide) (by decide) (by show some (if p_cmp 4 x y = true then b else i + 1, S) = _; rw [show p_cmp 4 x y = false from (decide_eq_false hh), if_neg Bool.false_ne_true]) kk
theorem B1_gtT {x : Int32} (hc : cd[i]? = some (32, 4, b, z, t)) (hh : 0 < x) (kk : PW cd b L S h Q) : PW cd i L (.int x :: S) h Q := PW_br hc (by decide) (by decide) (by show some (if p_cmp 4 x 0 = true then b else i + 1, S) = _; rw [show p_cmp 4 x 0 = true from decide_eq_true hh, if_pos rfl]) kk
theorem B1_gtF {x : Int32} (hc : cd[i]? = some (32, 4, b, z, t)) (hh : ¬ 0 < x) (kk : PW cd (i + 1) L S h Q) : PW cd i L (.int x :: S) h Q := PW_br hc (by decide) (by decide) (by show some (if p_cmp 4 x 0 = true then b else i + 1, S) = _; rw [show p_cmp 4 x 0 = false from (decide_eq_false hh), if_neg Bool.false_ne_true]) kk
theorem B2_gt {x y : Int32} (hc : cd[i]? = some (31, 4, b, z, t)) (kt : y < x → PW cd b L S h Q) (kf : ¬ y < x → PW cd (i + 1) L S h Q) : PW cd i L (.int y :: .int x :: S) h Q := by
  by_cases hh : y < x
  · exact B2_gtT hc hh (kt hh)
  · exact B2_gtF hc hh (kf hh)
theorem B1_gt {x : Int32} (hc : cd[i]? = some (32, 4, b, z, t)) (kt : 0 < x → PW cd b L S h Q) (kf : ¬ 0 < x → PW cd (i + 1) L S h Q) : PW cd i L (.int x :: S) h Q := by
  by_cases hh : 0 < x
  · exact B1_gtT hc hh (kt hh)
  · exact B1_gtF hc hh (kf hh)
theorem N2_gtT {x y : Nat} (hc : cd[i]? = some (31, 4, b, z, t)) (hx : x < 2 ^ 31) (hy : y < 2 ^ 31) (hh : y < x) (kk : PW cd b L S h Q) : PW cd i L (.int (nI y) :: .int (nI x) :: S) h Q := B2_gtT hc ((nI_ltI hy hx).mpr hh) kk
theorem N2_gtF {x y : Nat} (hc : cd[i]? = some (31, 4, b, z, t)) (hx : x < 2 ^ 31) (hy : y < 2 ^ 31) (hh : x ≤ y) (kk : PW cd (i + 1) L S h Q) : PW cd i L (.int (nI y) :: .int (nI x) :: S) h Q := B2_gtF hc (fun q => absurd ((nI_ltI hy hx).mp q) (Nat.not_lt.mpr hh)) kk
theorem N2_gt {x y : Nat} (hc : cd[i]? = some (31, 4, b, z, t)) (hx : x < 2 ^ 31) (hy : y < 2 ^ 31) (kt : y < x → PW cd b L S h Q) (kf : x ≤ y → PW cd (i + 1) L S h Q) : PW cd i L (.int (nI y) :: .int (nI x) :: S) h Q := by
  rcases Classical.em (y < x) with hh | hh
  · exact N2_gtT hc hx hy hh (kt hh)
  · exact N2_gtF hc hx hy (by omega) (kf (by omega))
theorem B2_leT {x y : Int32} (hc : cd[i]? = some (31, 5, b, z, t)) (hh : x ≤ y) (kk : PW cd b L S h Q) : PW cd i L (.int y :: .int x :: S) h Q := PW_br hc (by decide) (by decide) (by show some (if p_cmp 5 x y = true then b else i + 1, S) = _; rw [show p_cmp 5 x y = true from decide_eq_true hh, if_pos rfl]) kk
theorem B2_leF {x y : Int32} (hc : cd[i]? = some (31, 5, b, z, t)) (hh : ¬ x ≤ y) (kk : PW cd (i + 1) L S h Q) : PW cd i L (.int y :: .int x :: S) h Q := PW_br hc (by decide) (by decide) (by show some (if p_cmp 5 x y = true then b else i + 1, S) = _; rw [show p_cmp 5 x y = false from (decide_eq_false hh), if_neg Bool.false_ne_true]) kk
theorem B1_leT {x : Int32} (hc : cd[i]? = some (32, 5, b, z, t)) (hh : x ≤ 0) (kk : PW cd b L S h Q) : PW cd i L (.int x :: S) h Q := PW_br hc (by decide) (by decide) (by show some (if p_cmp 5 x 0 = true then b else i + 1, S) = _; rw [show p_cmp 5 x 0 = true from decide_eq_true hh, if_pos rfl]) kk
theorem B1_leF {x : Int32} (hc : cd[i]? = some (32, 5, b, z, t)) (hh : ¬ x ≤ 0) (kk : PW cd (i + 1) L S h Q) : PW cd i L (.int x :: S) h Q := PW_br hc (by decide) (by decide) (by show some (if p_cmp 5 x 0 = true then b else i + 1, S) = _; rw [show p_cmp 5 x 0 = false from (decide_eq_false hh), if_neg Bool.false_ne_true]) kk
theorem B2_le {x y : Int32} (hc : cd[i]? = some (31, 5, b, z, t)) (kt : x ≤ y → PW cd b L S h Q) (kf : ¬ x ≤ y → PW cd (i + 1) L S h Q) : PW cd i L (.int y :: .int x :: S) h Q := by
  by_cases hh : x ≤ y
  · exact B2_leT hc hh (kt hh)
  · exact B2_leF hc hh (kf hh)
theorem B1_le {x : Int32} (hc : cd[i]? = some (32, 5, b, z, t)) (kt : x ≤ 0 → PW cd b L S h Q) (kf : ¬ x ≤ 0 → PW cd (i + 1) L S h Q) : PW cd i L (.int x :: S) h Q := by
  by_cases hh : x ≤ 0
  · exact B1_leT hc hh (kt hh)
  · exact B1_leF hc hh (kf hh)
theorem N2_leT {x y : Nat} (hc : cd[i]? = some (31, 5, b, z, t)) (hx : x < 2 ^ 31) (hy : y < 2 ^ 31) (hh : x ≤ y) (kk : PW cd b L S h Q) : PW cd i L (.int (nI y) :: .int (nI x) :: S) h Q := B2_leT hc ((nI_leI hx hy).mpr hh) kk
theorem N2_leF {x y : Nat} (hc : cd[i]? = some (31, 5, b, z, t)) (hx : x < 2 ^ 31) (hy : y < 2 ^ 31) (hh : y < x) (kk : PW cd (i + 1) L S h Q) : PW cd i L (.int (nI y) :: .int (nI x) :: S) h Q := B2_leF hc (fun q => absurd ((nI_leI hx hy).mp q) (Nat.not_le.mpr hh)) kk
theorem N2_le {x y : Nat} (hc : cd[i]? = some (31, 5, b, z, t)) (hx : x < 2 ^ 31) (hy : y < 2 ^ 31) (kt : x ≤ y → PW cd b L S h Q) (kf : y < x → PW cd (i + 1) L S h Q) : PW cd i L (.int (nI y) :: .int (nI x) :: S) h Q := by
  rcases Classical.em (x ≤ y) with hh | hh
  · exact N2_leT hc hx hy hh (kt hh)
  · exact N2_leF hc hx hy (by omega) (kf (by omega))
def bI (b : Bool) : Int32 := if b = true then 1 else 0
theorem bI_t : bI true = 1 := rfl
theorem bI_f : bI false = 0 := rfl
theorem bI_0 {x : Bool} : bI x = 0 ↔ x = false := by cases x <;> decide
theorem bI_n0 {x : Bool} : ¬ bI x = 0 ↔ x = true := by cases x <;> decide
theorem BB_eqT {x : Bool} (hc : cd[i]? = some (32, 0, b, z, t)) (hh : x = false) (kk : PW cd b L S h Q) : PW cd i L (.int (bI x) :: S) h Q := B1_eqT hc (bI_0.mpr hh) kk
theorem BB_eqF {x : Bool} (hc : cd[i]? = some (32, 0, b, z, t)) (hh : x = true) (kk : PW cd (i + 1) L S h Q) : PW cd i L (.int (bI x) :: S) h Q := B1_eqF hc (bI_n0.mpr hh) kk
theorem BB_neT {x : Bool} (hc : cd[i]? = some (32, 1, b, z, t)) (hh : x = true) (kk : PW cd b L S h Q) : PW cd i L (.int (bI x) :: S) h Q := B1_neT hc (bI_n0.mpr hh) kk
theorem BB_neF {x : Bool} (hc : cd[i]? = some (32, 1, b, z, t)) (hh : x = false) (kk : PW cd (i + 1) L S h Q) : PW cd i L (.int (bI x) :: S) h Q := B1_neF hc (bI_0.mpr hh) kk
theorem BB_eq {x : Bool} (hc : cd[i]? = some (32, 0, b, z, t)) (kt : x = false → PW cd b L S h Q) (kf : x = true → PW cd (i + 1) L S h Q) : PW cd i L (.int (bI x) :: S) h Q := by
  cases hx : x with
  | false => exact BB_eqT hc rfl (kt hx)
  | true => exact BB_eqF hc rfl (kf hx)
theorem BB_ne {x : Bool} (hc : cd[i]? = some (32, 1, b, z, t)) (kt : x = true → PW cd b L S h Q) (kf : x = false → PW cd (i + 1) L S h Q) : PW cd i L (.int (bI x) :: S) h Q := by
  cases hx : x with
  | true => exact BB_neT hc rfl (kt hx)
  | false => exact BB_neF hc rfl (kf hx)
theorem R_ret (hc : cd[i]? = some (50, a, b, z, t)) (hq : Q (none, h)) : PW cd i L [] h Q := PW_ret hc (by decide) rfl hq
theorem R_iret {x : Int32} (hc : cd[i]? = some (51, a, b, z, t)) (hq : Q (some (.int x), h)) : PW cd i L [.int x] h Q := PW_ret hc (by decide) rfl hq
theorem R_zret {x : Bool} (hc : cd[i]? = some (52, a, b, z, t)) (hq : Q (some (.int (bI x)), h)) : PW cd i L [.int (bI x)] h Q := PW_ret hc (by decide) (by cases x <;> rfl) hq
theorem R_zret1 (hc : cd[i]? = some (52, a, b, z, t)) (hq : Q (some (.int 1), h)) : PW cd i L [.int (nI 1)] h Q := PW_ret hc (by decide) rfl hq
theorem R_zret0 (hc : cd[i]? = some (52, a, b, z, t)) (hq : Q (some (.int 0), h)) : PW cd i L [.int (nI 0)] h Q := PW_ret hc (by decide) rfl hq
theorem R_sw {x : Int32} {i' : Nat} (hc : cd[i]? = some (33, a, b, z, t)) (hi : (if x.toInt < z.toInt ∨ z.toInt + t.length ≤ x.toInt then b else t.getD (x.toInt - z.toInt).toNat 0) = i') (kk : PW cd i' L S h Q) : PW cd i L (.int x :: S) h Q := PW_br hc (by decide) (by decide) (by subst hi; rfl) kk
theorem R_swN {x i' : Nat} (hc : cd[i]? = some (33, a, b, 0, t)) (hx : x < 2 ^ 31) (hi : t.getD x b = i') (kk : PW cd i' L S h Q) : PW cd i L (.int (nI x) :: S) h Q := by
  refine R_sw hc ?_ kk
  rw [nI_toInt hx, show (0 : Int32).toInt = 0 by decide]
  by_cases g : x < t.length
  · rw [if_neg (by omega), ← hi, Int.sub_zero, Int.toNat_natCast, List.getD_eq_getElem?_getD, List.getD_eq_getElem?_getD, List.getElem?_eq_getElem g]
    rfl
  · rw [if_pos (by omega), ← hi, List.getD_eq_getElem?_getD, List.getElem?_eq_none (by omega)]
    rfl
end
theorem down {P : Nat → Prop} {n : Nat} (he : P n) (hs : ∀ j, j < n → P (j + 1) → P j) : ∀ j, j ≤ n → P j := fun j hj => by
  obtain ⟨d, rfl⟩ := Nat.le.dest hj
  clear hj
  induction d generalizing j with
  | zero => exact he
  | succ d ih => exact hs j (by omega) (ih (j + 1) (by rw [show j + 1 + d = j + (d + 1) by omega]; exact he) (fun k hk => hs k (by omega)))
/-- the script's length, and what else lies behind the board -/
abbrev pS : Type := Nat × List (Nat × Nat)
def SH (sl : pS) : List (Nat × Nat) := (10, sl.1) :: (4, 6) :: (2, 2) :: (0, 13) :: (10, 16) :: (10, 16) :: (10, 16) :: (10, 16) :: (10, 16) :: (10, 16) :: (10, 16) :: (10, 16) :: (1, 10) :: (10, 24) :: (10, 6) :: (10, 6) :: (10, 6) :: (10, 6) :: (10, 6) :: (10, 6) :: (10, 6) :: (10, 6) :: (13, 4) :: (2, 2) :: (0, 13) :: (10, 16) :: (10, 16) :: (10, 16) :: (10, 16) :: (10, 16) :: (10, 16) :: (10, 16) :: (10, 16) :: (1, 10) :: (10, 24) :: (10, 6) :: (10, 6) :: (10, 6) :: (10, 6) :: (10, 6) :: (10, 6) :: (10, 6) :: (10, 6) :: (2, 2) :: (0, 13) :: (10, 16) :: (10, 16) :: (10, 16) :: (10, 16) :: (10, 16) :: (10, 16) :: (10, 16) :: (10, 16) :: (1, 10) :: (10, 24) :: (10, 6) :: (10, 6) :: (10, 6) :: (10, 6) :: (10, 6) :: (10, 6) :: (10, 6) :: (10, 6) :: (2, 2) :: (0, 13) :: (10, 16) :: (10, 16) :: (10, 16) :: (10, 16) :: (10, 16) :: (10, 16) :: (10, 16) :: (10, 16) :: (1, 10) :: (10, 24) :: (10, 6) :: (10, 6) :: (10, 6) :: (10, 6) :: (10, 6) :: (10, 6) :: (10, 6) :: (10, 6) :: (2, 2) :: (0, 13) :: (10, 16) :: (10, 16) :: (10, 16) :: (10, 16) :: (10, 16) :: (10, 16) :: (10, 16) :: (10, 16) :: (1, 10) :: (10, 24) :: (10, 6) :: (10, 6) :: (10, 6) :: (10, 6) :: (10, 6) :: (10, 6) :: (10, 6) :: (10, 6) :: (13, 2) :: (2, 2) :: (0, 13) :: (10, 16) :: (10, 16) :: (10, 16) :: (10, 16) :: (10, 16) :: (10, 16) :: (10, 16) :: (10, 16) :: (1, 10) :: (10, 24) :: (10, 6) :: (10, 6) :: (10, 6) :: (10, 6) :: (10, 6) :: (10, 6) :: (10, 6) :: (10, 6) :: (2, 2) :: (0, 13) :: (10, 16) :: (10, 16) :: (10, 16) :: (10, 16) :: (10, 16) :: (10, 16) :: (10, 16) :: (10, 16) :: (1, 10) :: (10, 24) :: (10, 6) :: (10, 6) :: (10, 6) :: (10, 6) :: (10, 6) :: (10, 6) :: (10, 6) :: (10, 6) :: (3, 2) :: (11, 80) :: sl.2
abbrev HP (sl : pS) (ρ : pR) (rf : pF) : pH := (SH sl, ρ, rf)
def RL_ : List (Nat × Nat × Nat) := [(1, 0, 2), (1, 1, 22), (1, 3, 103), (1, 5, 144), (2, 0, 3), (2, 1, 12), (3, 5, 4), (3, 6, 5), (3, 7, 6), (3, 8, 7), (3, 9, 8), (3, 10, 9), (3, 11, 10), (3, 12, 11), (12, 1, 13), (12, 2, 14), (12, 3, 15), (12, 4, 16), (12, 5, 17), (12, 6, 18), (12, 7, 19), (12, 8, 20), (12, 9, 21), (23, 0, 24), (23, 1, 33), (24, 5, 25), (24, 6, 26), (24, 7, 27), (24, 8, 28), (24, 9, 29), (24, 10, 30), (24, 11, 31), (24, 12, 32), (33, 1, 34), (33, 2, 35), (33, 3, 36), (33, 4, 37), (33, 5, 38), (33, 6, 39), (33, 7, 40), (33, 8, 41), (33, 9, 42), (43, 0, 44), (43, 1, 53), (44, 5, 45), (44, 6, 46), (44, 7, 47), (44, 8, 48), (44, 9, 49), (44, 10, 50), (44, 11, 51), (44, 12, 52), (53, 1, 54), (53, 2, 55), (53, 3, 56), (53, 4, 57), (53, 5, 58), (53, 6, 59), (53, 7, 60), (53, 8, 61), (53, 9, 62), (63, 0, 64), (63, 1, 73), (64, 5, 65), (64, 6, 66), (64, 7, 67), (64, 8, 68), (64, 9, 69), (64, 10, 70), (64, 11, 71), (64, 12, 72), (73, 1, 74), (73, 2, 75), (73, 3, 76), (73, 4, 77), (73, 5, 78), (73, 6, 79), (73, 7, 80), (73, 8, 81), (73, 9, 82), (83, 0, 84), (83, 1, 93), (84, 5, 85), (84, 6, 86), (84, 7, 87), (84, 8, 88), (84, 9, 89), (84, 10, 90), (84, 11, 91), (84, 12, 92), (93, 1, 94), (93, 2, 95), (93, 3, 96), (93, 4, 97), (93, 5, 98), (93, 6, 99), (93, 7, 100), (93, 8, 101), (93, 9, 102), (103, 0, 104), (103, 1, 124), (104, 0, 105), (104, 1, 114), (105, 5, 106), (105, 6, 107), (105, 7, 108), (105, 8, 109), (105, 9, 110), (105, 10, 111), (105, 11, 112), (105, 12, 113), (114, 1, 115), (114, 2, 116), (114, 3, 117), (114, 4, 118), (114, 5, 119), (114, 6, 120), (114, 7, 121), (114, 8, 122), (114, 9, 123), (124, 0, 125), (124, 1, 134), (125, 5, 126), (125, 6, 127), (125, 7, 128), (125, 8, 129), (125, 9, 130), (125, 10, 131), (125, 11, 132), (125, 12, 133), (134, 1, 135), (134, 2, 136), (134, 3, 137), (134, 4, 138), (134, 5, 139), (134, 6, 140), (134, 7, 141), (134, 8, 142), (134, 9, 143), (144, 0, 145)]
def RFok (rf : pF) : Prop := ∀ q ∈ RL_, rf q.1 q.2.1 = some q.2.2
section
variable {cd : List pI} {i : Nat} {z : Int32} {t : List Nat} {L : pL} {S : List Value} {Q : Option Value × pH → Prop} {sl : pS} {ρ : pR} {rf : pF}
theorem R_getI {a b o n : Nat} (hc : cd[i]? = some (18, a, b, z, t)) (hs : (SH sl)[o]? = some (a, n)) (hd : (decide (a < 6 ∧ n = p_N a ∧ b < n ∧ 1 ≤ o) && p_isI a b) = true) {v : Int32} (hv : ρ o b = v) (kk : PW cd (i + 1) L (.int v :: S) (HP sl ρ rf) Q) : PW cd i L (.ref o :: S) (HP sl ρ rf) Q := PW_op hc (by decide) (by
  simp only [Bool.and_eq_true, decide_eq_true_eq] at hd
  simp only [p_op, o18]
  rw [hs]
  dsimp only
  rw [if_pos ⟨rfl, hd.1⟩, if_pos hd.2, hv]) kk
theorem R_getR {a b o n v : Nat} (hc : cd[i]? = some (18, a, b, z, t)) (hs : (SH sl)[o]? = some (a, n)) (hd : (decide (a < 6 ∧ n = p_N a ∧ b < n ∧ 1 ≤ o) && !p_isI a b) = true) (hv : rf o b = some v) (kk : PW cd (i + 1) L (.ref v :: S) (HP sl ρ rf) Q) : PW cd i L (.ref o :: S) (HP sl ρ rf) Q := PW_op hc (by decide) (by
  simp only [Bool.and_eq_true, decide_eq_true_eq, Bool.not_eq_true'] at hd
  simp only [p_op, o18]
  rw [hs]
  dsimp only
  rw [if_pos ⟨rfl, hd.1⟩, if_neg (by rw [hd.2]; exact Bool.false_ne_true), hv]
  rfl) kk
theorem R_putI {a b o n : Nat} {x : Int32} (hc : cd[i]? = some (19, a, b, z, t)) (hs : (SH sl)[o]? = some (a, n)) (hd : (decide (a < 6 ∧ n = p_N a ∧ b < n ∧ 1 ≤ o) && (p_isI a b && !p_isZ a b)) = true) (kk : PW cd (i + 1) L S (HP sl (u2 ρ o b x) rf) Q) : PW cd i L (.int x :: .ref o :: S) (HP sl ρ rf) Q := PW_op hc (by decide) (by
  simp only [Bool.and_eq_true, decide_eq_true_eq, Bool.not_eq_true'] at hd
  simp only [p_op, o19]
  rw [hs]
  dsimp only
  rw [if_pos ⟨rfl, hd.1.1, hd.1.2.1, hd.1.2.2.1, hd.1.2.2.2, hd.2.1, by rw [hd.2.2]; rfl⟩]) kk
theorem R_putZ {a b o n : Nat} {x : Bool} (hc : cd[i]? = some (19, a, b, z, t)) (hs : (SH sl)[o]? = some (a, n)) (hd : (decide (a < 6 ∧ n = p_N a ∧ b < n ∧ 1 ≤ o) && p_isI a b) = true) (kk : PW cd (i + 1) L S (HP sl (u2 ρ o b (bI x)) rf) Q) : PW cd i L (.int (bI x) :: .ref o :: S) (HP sl ρ rf) Q := PW_op hc (by decide) (by
  simp only [Bool.and_eq_true, decide_eq_true_eq] at hd
  simp only [p_op, o19]
  rw [hs]
  dsimp only
  rw [if_pos ⟨rfl, hd.1.1, hd.1.2.1, hd.1.2.2.1, hd.1.2.2.2, hd.2, by cases x <;> cases p_isZ a b <;> rfl⟩]) kk
theorem p_inN {j n : Nat} (hj : j < n) (hn : n ≤ 100000) : p_in (nI j) n = true := decide_eq_true (nI_in hj (by omega))
theorem R_ald {b o n j : Nat} (hc : cd[i]? = some (13, 0, b, z, t)) (hs : (SH sl)[o]? = some (b, n)) (hn : n ≤ 100000) (hj : j < n) {v : Int32} (hv : ρ o j = v) (kk : PW cd (i + 1) L (.int v :: S) (HP sl ρ rf) Q) : PW cd i L (.int (nI j) :: .ref o :: S) (HP sl ρ rf) Q := PW_op hc (by decide) (by
  simp only [p_op, o13]
  rw [hs]
  dsimp only
  rw [if_pos ⟨rfl, p_inN hj hn⟩, nI_clamp (by omega), hv]) kk
theorem R_ast {o n j : Nat} {x : Int32} (hc : cd[i]? = some (15, 0, 10, z, t)) (hs : (SH sl)[o]? = some (10, n)) (hn : 1 ≤ o ∧ n ≤ 100000) (hj : j < n) (kk : PW cd (i + 1) L S (HP sl (u2 ρ o j x) rf) Q) : PW cd i L (.int x :: .int (nI j) :: .ref o :: S) (HP sl ρ rf) Q := PW_op hc (by decide) (by
  simp only [p_op, o15]
  rw [hs]
  dsimp only
  rw [if_pos ⟨rfl, hn.1, p_inN hj hn.2, rfl⟩, nI_clamp (by omega)]) kk
theorem R_cst {o n j w : Nat} (hc : cd[i]? = some (15, 0, 11, z, t)) (hs : (SH sl)[o]? = some (11, n)) (hn : 1 ≤ o ∧ n ≤ 100000) (hj : j < n) (hw : w < 65536) (kk : PW cd (i + 1) L S (HP sl (u2 ρ o j (nI w)) rf) Q) : PW cd i L (.int (nI w) :: .int (nI j) :: .ref o :: S) (HP sl ρ rf) Q := PW_op hc (by decide) (by
  simp only [p_op, o15]
  rw [hs]
  dsimp only
  rw [if_pos ⟨rfl, hn.1, p_inN hj hn.2, decide_eq_true (by
    have h1 := (pk_charN hw).1
    rw [vp_nar_char]
    exact Value.int.inj h1)⟩, nI_clamp (by omega)]) kk
theorem R_aaldN {o n j v : Nat} (hc : cd[i]? = some (14, 0, 0, z, t)) (hs : (SH sl)[o]? = some (13, n)) (hn : 1 ≤ o ∧ n ≤ 100000) (hj : j < n) (hv : rf o j = some v) (kk : PW cd (i + 1) L (.ref v :: S) (HP sl ρ rf) Q) : PW cd i L (.int (nI j) :: .ref o :: S) (HP sl ρ rf) Q := PW_op hc (by decide) (by
  simp only [p_op, o14]
  rw [hs]
  dsimp only
  rw [if_pos ⟨rfl, hn.1, p_inN hj hn.2⟩, nI_clamp (by omega), hv]
  rfl) kk
theorem R_aastN {o n j v nv : Nat} (hc : cd[i]? = some (16, 0, 0, z, t)) (hs : (SH sl)[o]? = some (13, n)) (hn : 1 ≤ o ∧ n ≤ 100000) (hj : j < n) (hv : (SH sl)[v]? = some (2, nv)) (h1 : 1 ≤ v) (kk : PW cd (i + 1) L S (HP sl ρ (q2 rf o j (some v))) Q) : PW cd i L (.ref v :: .int (nI j) :: .ref o :: S) (HP sl ρ rf) Q := PW_op hc (by decide) (by
  simp only [p_op, o16]
  rw [hs, hv]
  dsimp only
  rw [if_pos ⟨rfl, hn.1, p_inN hj hn.2, rfl, h1⟩, nI_clamp (by omega)]) kk
theorem R_alen {o n kd : Nat} (hc : cd[i]? = some (17, 0, 0, z, t)) (hs : (SH sl)[o]? = some (kd, n)) (hk : 10 ≤ kd ∧ kd ≤ 13) (kk : PW cd (i + 1) L (.int (nI n) :: S) (HP sl ρ rf) Q) : PW cd i L (.ref o :: S) (HP sl ρ rf) Q := PW_op hc (by decide) (by
  simp only [p_op, o17]
  rw [hs]
  dsimp only
  rw [if_pos hk]
  rfl) kk
theorem R_acp {o d n1 n2 n sp dp : Nat} (hc : cd[i]? = some (25, 0, 0, z, t)) (hs : (SH sl)[o]? = some (10, n1)) (hd : (SH sl)[d]? = some (10, n2)) (h1 : 1 ≤ o) (h2 : 1 ≤ d) (h3 : sp + n ≤ n1) (h4 : dp + n ≤ n2) (h5 : n1 ≤ 100000 ∧ n2 ≤ 100000) (kk : PW cd (i + 1) L [] (HP sl (c2 ρ o d sp dp n) rf) Q) : PW cd i L [.int (nI n), .int (nI dp), .ref d, .int (nI sp), .ref o] (HP sl ρ rf) Q := PW_op hc (by decide) (by
  simp only [p_op, o25]
  rw [hs, hd]
  dsimp only
  rw [if_pos ⟨rfl, rfl, h1, h2, nI_pos (by omega), nI_pos (by omega), nI_pos (by omega), by rw [nI_clamp (by omega), nI_clamp (by omega)]; exact h3, by rw [nI_clamp (by omega), nI_clamp (by omega)]; exact h4⟩, nI_clamp (by omega), nI_clamp (by omega), nI_clamp (by omega)]) kk
theorem R_c0 {o a b : Nat} {args : List Value} {r : Option Value} {ρ' : pR} {rf' : pF} {S' : List Value} (hc : cd[i]? = some (o, a, b, z, t)) (hM : PC a args (HP sl ρ rf) r (HP sl ρ' rf')) (hs : (decide (o = 40) && (decide (b ≤ S.length) && (decide ((S.drop b).length ≤ 8) && p_c1 S))) = true) (hargs : (S.take b).reverse = args) (hS : r.toList ++ S.drop b = S') (kk : PW cd (i + 1) L S' (HP sl ρ' rf') Q) : PW cd i L S (HP sl ρ rf) Q := by
  rw [Bool.and_eq_true, decide_eq_true_eq] at hs
  obtain ⟨rfl, q⟩ := hs
  exact PW_call hc hM (by rw [Bool.and_eq_true]; exact ⟨by decide, q⟩) rfl hargs hS kk
theorem R_c1 {o a b v kd nn : Nat} {args vs : List Value} {r : Option Value} {ρ' : pR} {rf' : pF} {S' : List Value} (hc : cd[i]? = some (o, a, b, z, t)) (hM : PC a args (HP sl ρ rf) r (HP sl ρ' rf')) (hs : (decide (o = 41) && (decide (b ≤ S.length) && (decide ((S.drop b).length ≤ 8) && p_c1 S))) = true) (hargs : (S.take b).reverse = args) (hv : args = .ref v :: vs) (hsh : (SH sl)[v]? = some (kd, nn)) (hk : (kd == p_ow a && (decide (1 ≤ v) && decide (kd < 6))) = true) (hS : r.toList ++ S.drop b = S') (kk : PW cd (i + 1) L S' (HP sl ρ' rf') Q) : PW cd i L S (HP sl ρ rf) Q := by
  rw [Bool.and_eq_true, decide_eq_true_eq] at hs
  obtain ⟨rfl, q⟩ := hs
  refine PW_call hc hM (by rw [Bool.and_eq_true]; exact ⟨by decide, q⟩) ?_ hargs hS kk
  rw [hv]
  show (match (SH sl)[v]? with | some (kd, _) => kd == p_ow a && (decide (1 ≤ v) && decide (kd < 6)) | none => false) = true
  rw [hsh]
  exact hk
theorem sh_0 : (SH sl)[0]? = some (10, sl.1) := rfl
theorem sh_1 : (SH sl)[1]? = some (4, 6) := rfl
theorem sh_2 : (SH sl)[2]? = some (2, 2) := rfl
theorem sh_3 : (SH sl)[3]? = some (0, 13) := rfl
theorem sh_4 : (SH sl)[4]? = some (10, 16) := rfl
theorem sh_5 : (SH sl)[5]? = some (10, 16) := rfl
theorem sh_6 : (SH sl)[6]? = some (10, 16) := rfl
theorem sh_7 : (SH sl)[7]? = some (10, 16) := rfl
theorem sh_8 : (SH sl)[8]? = some (10, 16) := rfl
theorem sh_9 : (SH sl)[9]? = some (10, 16) := rfl
theorem sh_10 : (SH sl)[10]? = some (10, 16) := rfl
theorem sh_11 : (SH sl)[11]? = some (10, 16) := rfl
theorem sh_12 : (SH sl)[12]? = some (1, 10) := rfl
theorem sh_13 : (SH sl)[13]? = some (10, 24) := rfl
theorem sh_14 : (SH sl)[14]? = some (10, 6) := rfl
theorem sh_15 : (SH sl)[15]? = some (10, 6) := rfl
theorem sh_16 : (SH sl)[16]? = some (10, 6) := rfl
theorem sh_17 : (SH sl)[17]? = some (10, 6) := rfl
theorem sh_18 : (SH sl)[18]? = some (10, 6) := rfl
theorem sh_19 : (SH sl)[19]? = some (10, 6) := rfl
theorem sh_20 : (SH sl)[20]? = some (10, 6) := rfl
theorem sh_21 : (SH sl)[21]? = some (10, 6) := rfl
theorem sh_22 : (SH sl)[22]? = some (13, 4) := rfl
theorem sh_23 : (SH sl)[23]? = some (2, 2) := rfl
theorem sh_24 : (SH sl)[24]? = some (0, 13) := rfl
theorem sh_25 : (SH sl)[25]? = some (10, 16) := rfl
theorem sh_26 : (SH sl)[26]? = some (10, 16) := rfl
theorem sh_27 : (SH sl)[27]? = some (10, 16) := rfl
theorem sh_28 : (SH sl)[28]? = some (10, 16) := rfl
theorem sh_29 : (SH sl)[29]? = some (10, 16) := rfl
theorem sh_30 : (SH sl)[30]? = some (10, 16) := rfl
theorem sh_31 : (SH sl)[31]? = some (10, 16) := rfl
theorem sh_32 : (SH sl)[32]? = some (10, 16) := rfl
theorem sh_33 : (SH sl)[33]? = some (1, 10) := rfl
theorem sh_34 : (SH sl)[34]? = some (10, 24) := rfl
theorem sh_35 : (SH sl)[35]? = some (10, 6) := rfl
theorem sh_36 : (SH sl)[36]? = some (10, 6) := rfl
theorem sh_37 : (SH sl)[37]? = some (10, 6) := rfl
theorem sh_38 : (SH sl)[38]? = some (10, 6) := rfl
theorem sh_39 : (SH sl)[39]? = some (10, 6) := rfl
theorem sh_40 : (SH sl)[40]? = some (10, 6) := rfl
theorem sh_41 : (SH sl)[41]? = some (10, 6) := rfl
theorem sh_42 : (SH sl)[42]? = some (10, 6) := rfl
theorem sh_43 : (SH sl)[43]? = some (2, 2) := rfl
theorem sh_44 : (SH sl)[44]? = some (0, 13) := rfl
theorem sh_45 : (SH sl)[45]? = some (10, 16) := rfl
theorem sh_46 : (SH sl)[46]? = some (10, 16) := rfl
theorem sh_47 : (SH sl)[47]? = some (10, 16) := rfl
theorem sh_48 : (SH sl)[48]? = some (10, 16) := rfl
theorem sh_49 : (SH sl)[49]? = some (10, 16) := rfl
theorem sh_50 : (SH sl)[50]? = some (10, 16) := rfl
theorem sh_51 : (SH sl)[51]? = some (10, 16) := rfl
theorem sh_52 : (SH sl)[52]? = some (10, 16) := rfl
theorem sh_53 : (SH sl)[53]? = some (1, 10) := rfl
theorem sh_54 : (SH sl)[54]? = some (10, 24) := rfl
theorem sh_55 : (SH sl)[55]? = some (10, 6) := rfl
theorem sh_56 : (SH sl)[56]? = some (10, 6) := rfl
theorem sh_57 : (SH sl)[57]? = some (10, 6) := rfl
theorem sh_58 : (SH sl)[58]? = some (10, 6) := rfl
theorem sh_59 : (SH sl)[59]? = some (10, 6) := rfl
theorem sh_60 : (SH sl)[60]? = some (10, 6) := rfl
theorem sh_61 : (SH sl)[61]? = some (10, 6) := rfl
theorem sh_62 : (SH sl)[62]? = some (10, 6) := rfl
theorem sh_63 : (SH sl)[63]? = some (2, 2) := rfl
theorem sh_64 : (SH sl)[64]? = some (0, 13) := rfl
theorem sh_65 : (SH sl)[65]? = some (10, 16) := rfl
theorem sh_66 : (SH sl)[66]? = some (10, 16) := rfl
theorem sh_67 : (SH sl)[67]? = some (10, 16) := rfl
theorem sh_68 : (SH sl)[68]? = some (10, 16) := rfl
theorem sh_69 : (SH sl)[69]? = some (10, 16) := rfl
theorem sh_70 : (SH sl)[70]? = some (10, 16) := rfl
theorem sh_71 : (SH sl)[71]? = some (10, 16) := rfl
theorem sh_72 : (SH sl)[72]? = some (10, 16) := rfl
theorem sh_73 : (SH sl)[73]? = some (1, 10) := rfl
theorem sh_74 : (SH sl)[74]? = some (10, 24) := rfl
theorem sh_75 : (SH sl)[75]? = some (10, 6) := rfl
theorem sh_76 : (SH sl)[76]? = some (10, 6) := rfl
theorem sh_77 : (SH sl)[77]? = some (10, 6) := rfl
theorem sh_78 : (SH sl)[78]? = some (10, 6) := rfl
theorem sh_79 : (SH sl)[79]? = some (10, 6) := rfl
theorem sh_80 : (SH sl)[80]? = some (10, 6) := rfl
theorem sh_81 : (SH sl)[81]? = some (10, 6) := rfl
theorem sh_82 : (SH sl)[82]? = some (10, 6) := rfl
theorem sh_83 : (SH sl)[83]? = some (2, 2) := rfl
theorem sh_84 : (SH sl)[84]? = some (0, 13) := rfl
theorem sh_85 : (SH sl)[85]? = some (10, 16) := rfl
theorem sh_86 : (SH sl)[86]? = some (10, 16) := rfl
theorem sh_87 : (SH sl)[87]? = some (10, 16) := rfl
theorem sh_88 : (SH sl)[88]? = some (10, 16) := rfl
theorem sh_89 : (SH sl)[89]? = some (10, 16) := rfl
theorem sh_90 : (SH sl)[90]? = some (10, 16) := rfl
theorem sh_91 : (SH sl)[91]? = some (10, 16) := rfl
theorem sh_92 : (SH sl)[92]? = some (10, 16) := rfl
theorem sh_93 : (SH sl)[93]? = some (1, 10) := rfl
theorem sh_94 : (SH sl)[94]? = some (10, 24) := rfl
theorem sh_95 : (SH sl)[95]? = some (10, 6) := rfl
theorem sh_96 : (SH sl)[96]? = some (10, 6) := rfl
theorem sh_97 : (SH sl)[97]? = some (10, 6) := rfl
theorem sh_98 : (SH sl)[98]? = some (10, 6) := rfl
theorem sh_99 : (SH sl)[99]? = some (10, 6) := rfl
theorem sh_100 : (SH sl)[100]? = some (10, 6) := rfl
theorem sh_101 : (SH sl)[101]? = some (10, 6) := rfl
theorem sh_102 : (SH sl)[102]? = some (10, 6) := rfl
theorem sh_103 : (SH sl)[103]? = some (13, 2) := rfl
theorem sh_104 : (SH sl)[104]? = some (2, 2) := rfl
theorem sh_105 : (SH sl)[105]? = some (0, 13) := rfl
theorem sh_106 : (SH sl)[106]? = some (10, 16) := rfl
theorem sh_107 : (SH sl)[107]? = some (10, 16) := rfl
theorem sh_108 : (SH sl)[108]? = some (10, 16) := rfl
theorem sh_109 : (SH sl)[109]? = some (10, 16) := rfl
theorem sh_110 : (SH sl)[110]? = some (10, 16) := rfl
theorem sh_111 : (SH sl)[111]? = some (10, 16) := rfl
theorem sh_112 : (SH sl)[112]? = some (10, 16) := rfl
theorem sh_113 : (SH sl)[113]? = some (10, 16) := rfl
theorem sh_114 : (SH sl)[114]? = some (1, 10) := rfl
theorem sh_115 : (SH sl)[115]? = some (10, 24) := rfl
theorem sh_116 : (SH sl)[116]? = some (10, 6) := rfl
theorem sh_117 : (SH sl)[117]? = some (10, 6) := rfl
theorem sh_118 : (SH sl)[118]? = some (10, 6) := rfl
theorem sh_119 : (SH sl)[119]? = some (10, 6) := rfl
theorem sh_120 : (SH sl)[120]? = some (10, 6) := rfl
theorem sh_121 : (SH sl)[121]? = some (10, 6) := rfl
theorem sh_122 : (SH sl)[122]? = some (10, 6) := rfl
theorem sh_123 : (SH sl)[123]? = some (10, 6) := rfl
theorem sh_124 : (SH sl)[124]? = some (2, 2) := rfl
theorem sh_125 : (SH sl)[125]? = some (0, 13) := rfl
theorem sh_126 : (SH sl)[126]? = some (10, 16) := rfl
theorem sh_127 : (SH sl)[127]? = some (10, 16) := rfl
theorem sh_128 : (SH sl)[128]? = some (10, 16) := rfl
theorem sh_129 : (SH sl)[129]? = some (10, 16) := rfl
theorem sh_130 : (SH sl)[130]? = some (10, 16) := rfl
theorem sh_131 : (SH sl)[131]? = some (10, 16) := rfl
theorem sh_132 : (SH sl)[132]? = some (10, 16) := rfl
theorem sh_133 : (SH sl)[133]? = some (10, 16) := rfl
theorem sh_134 : (SH sl)[134]? = some (1, 10) := rfl
theorem sh_135 : (SH sl)[135]? = some (10, 24) := rfl
theorem sh_136 : (SH sl)[136]? = some (10, 6) := rfl
theorem sh_137 : (SH sl)[137]? = some (10, 6) := rfl
theorem sh_138 : (SH sl)[138]? = some (10, 6) := rfl
theorem sh_139 : (SH sl)[139]? = some (10, 6) := rfl
theorem sh_140 : (SH sl)[140]? = some (10, 6) := rfl
theorem sh_141 : (SH sl)[141]? = some (10, 6) := rfl
theorem sh_142 : (SH sl)[142]? = some (10, 6) := rfl
theorem sh_143 : (SH sl)[143]? = some (10, 6) := rfl
theorem sh_144 : (SH sl)[144]? = some (3, 2) := rfl
theorem sh_145 : (SH sl)[145]? = some (11, 80) := rfl
theorem rf_1_0 (h : RFok rf) : rf 1 0 = some 2 := h (1, 0, 2) (by decide)
theorem rf_1_1 (h : RFok rf) : rf 1 1 = some 22 := h (1, 1, 22) (by decide)
theorem rf_1_3 (h : RFok rf) : rf 1 3 = some 103 := h (1, 3, 103) (by decide)
theorem rf_1_5 (h : RFok rf) : rf 1 5 = some 144 := h (1, 5, 144) (by decide)
theorem rf_2_0 (h : RFok rf) : rf 2 0 = some 3 := h (2, 0, 3) (by decide)
theorem rf_2_1 (h : RFok rf) : rf 2 1 = some 12 := h (2, 1, 12) (by decide)
theorem rf_3_5 (h : RFok rf) : rf 3 5 = some 4 := h (3, 5, 4) (by decide)
theorem rf_3_6 (h : RFok rf) : rf 3 6 = some 5 := h (3, 6, 5) (by decide)
theorem rf_3_7 (h : RFok rf) : rf 3 7 = some 6 := h (3, 7, 6) (by decide)
theorem rf_3_8 (h : RFok rf) : rf 3 8 = some 7 := h (3, 8, 7) (by decide)
theorem rf_3_9 (h : RFok rf) : rf 3 9 = some 8 := h (3, 9, 8) (by decide)
theorem rf_3_10 (h : RFok rf) : rf 3 10 = some 9 := h (3, 10, 9) (by decide)
theorem rf_3_11 (h : RFok rf) : rf 3 11 = some 10 := h (3, 11, 10) (by decide)
theorem rf_3_12 (h : RFok rf) : rf 3 12 = some 11 := h (3, 12, 11) (by decide)
theorem rf_12_1 (h : RFok rf) : rf 12 1 = some 13 := h (12, 1, 13) (by decide)
theorem rf_12_2 (h : RFok rf) : rf 12 2 = some 14 := h (12, 2, 14) (by decide)
theorem rf_12_3 (h : RFok rf) : rf 12 3 = some 15 := h (12, 3, 15) (by decide)
theorem rf_12_4 (h : RFok rf) : rf 12 4 = some 16 := h (12, 4, 16) (by decide)
theorem rf_12_5 (h : RFok rf) : rf 12 5 = some 17 := h (12, 5, 17) (by decide)
theorem rf_12_6 (h : RFok rf) : rf 12 6 = some 18 := h (12, 6, 18) (by decide)
theorem rf_12_7 (h : RFok rf) : rf 12 7 = some 19 := h (12, 7, 19) (by decide)
theorem rf_12_8 (h : RFok rf) : rf 12 8 = some 20 := h (12, 8, 20) (by decide)
theorem rf_12_9 (h : RFok rf) : rf 12 9 = some 21 := h (12, 9, 21) (by decide)
theorem rf_23_0 (h : RFok rf) : rf 23 0 = some 24 := h (23, 0, 24) (by decide)
theorem rf_23_1 (h : RFok rf) : rf 23 1 = some 33 := h (23, 1, 33) (by decide)
theorem rf_24_5 (h : RFok rf) : rf 24 5 = some 25 := h (24, 5, 25) (by decide)
theorem rf_24_6 (h : RFok rf) : rf 24 6 = some 26 := h (24, 6, 26) (by decide)
theorem rf_24_7 (h : RFok rf) : rf 24 7 = some 27 := h (24, 7, 27) (by decide)
theorem rf_24_8 (h : RFok rf) : rf 24 8 = some 28 := h (24, 8, 28) (by decide)
theorem rf_24_9 (h : RFok rf) : rf 24 9 = some 29 := h (24, 9, 29) (by decide)
theorem rf_24_10 (h : RFok rf) : rf 24 10 = some 30 := h (24, 10, 30) (by decide)
theorem rf_24_11 (h : RFok rf) : rf 24 11 = some 31 := h (24, 11, 31) (by decide)
theorem rf_24_12 (h : RFok rf) : rf 24 12 = some 32 := h (24, 12, 32) (by decide)
theorem rf_33_1 (h : RFok rf) : rf 33 1 = some 34 := h (33, 1, 34) (by decide)
theorem rf_33_2 (h : RFok rf) : rf 33 2 = some 35 := h (33, 2, 35) (by decide)
theorem rf_33_3 (h : RFok rf) : rf 33 3 = some 36 := h (33, 3, 36) (by decide)
theorem rf_33_4 (h : RFok rf) : rf 33 4 = some 37 := h (33, 4, 37) (by decide)
theorem rf_33_5 (h : RFok rf) : rf 33 5 = some 38 := h (33, 5, 38) (by decide)
theorem rf_33_6 (h : RFok rf) : rf 33 6 = some 39 := h (33, 6, 39) (by decide)
theorem rf_33_7 (h : RFok rf) : rf 33 7 = some 40 := h (33, 7, 40) (by decide)
theorem rf_33_8 (h : RFok rf) : rf 33 8 = some 41 := h (33, 8, 41) (by decide)
theorem rf_33_9 (h : RFok rf) : rf 33 9 = some 42 := h (33, 9, 42) (by decide)
theorem rf_43_0 (h : RFok rf) : rf 43 0 = some 44 := h (43, 0, 44) (by decide)
theorem rf_43_1 (h : RFok rf) : rf 43 1 = some 53 := h (43, 1, 53) (by decide)
theorem rf_44_5 (h : RFok rf) : rf 44 5 = some 45 := h (44, 5, 45) (by decide)
theorem rf_44_6 (h : RFok rf) : rf 44 6 = some 46 := h (44, 6, 46) (by decide)
theorem rf_44_7 (h : RFok rf) : rf 44 7 = some 47 := h (44, 7, 47) (by decide)
theorem rf_44_8 (h : RFok rf) : rf 44 8 = some 48 := h (44, 8, 48) (by decide)
theorem rf_44_9 (h : RFok rf) : rf 44 9 = some 49 := h (44, 9, 49) (by decide)
theorem rf_44_10 (h : RFok rf) : rf 44 10 = some 50 := h (44, 10, 50) (by decide)
theorem rf_44_11 (h : RFok rf) : rf 44 11 = some 51 := h (44, 11, 51) (by decide)
theorem rf_44_12 (h : RFok rf) : rf 44 12 = some 52 := h (44, 12, 52) (by decide)
theorem rf_53_1 (h : RFok rf) : rf 53 1 = some 54 := h (53, 1, 54) (by decide)
theorem rf_53_2 (h : RFok rf) : rf 53 2 = some 55 := h (53, 2, 55) (by decide)
theorem rf_53_3 (h : RFok rf) : rf 53 3 = some 56 := h (53, 3, 56) (by decide)
theorem rf_53_4 (h : RFok rf) : rf 53 4 = some 57 := h (53, 4, 57) (by decide)
theorem rf_53_5 (h : RFok rf) : rf 53 5 = some 58 := h (53, 5, 58) (by decide)
theorem rf_53_6 (h : RFok rf) : rf 53 6 = some 59 := h (53, 6, 59) (by decide)
theorem rf_53_7 (h : RFok rf) : rf 53 7 = some 60 := h (53, 7, 60) (by decide)
theorem rf_53_8 (h : RFok rf) : rf 53 8 = some 61 := h (53, 8, 61) (by decide)
theorem rf_53_9 (h : RFok rf) : rf 53 9 = some 62 := h (53, 9, 62) (by decide)
theorem rf_63_0 (h : RFok rf) : rf 63 0 = some 64 := h (63, 0, 64) (by decide)
theorem rf_63_1 (h : RFok rf) : rf 63 1 = some 73 := h (63, 1, 73) (by decide)
theorem rf_64_5 (h : RFok rf) : rf 64 5 = some 65 := h (64, 5, 65) (by decide)
theorem rf_64_6 (h : RFok rf) : rf 64 6 = some 66 := h (64, 6, 66) (by decide)
theorem rf_64_7 (h : RFok rf) : rf 64 7 = some 67 := h (64, 7, 67) (by decide)
theorem rf_64_8 (h : RFok rf) : rf 64 8 = some 68 := h (64, 8, 68) (by decide)
theorem rf_64_9 (h : RFok rf) : rf 64 9 = some 69 := h (64, 9, 69) (by decide)
theorem rf_64_10 (h : RFok rf) : rf 64 10 = some 70 := h (64, 10, 70) (by decide)
theorem rf_64_11 (h : RFok rf) : rf 64 11 = some 71 := h (64, 11, 71) (by decide)
theorem rf_64_12 (h : RFok rf) : rf 64 12 = some 72 := h (64, 12, 72) (by decide)
theorem rf_73_1 (h : RFok rf) : rf 73 1 = some 74 := h (73, 1, 74) (by decide)
theorem rf_73_2 (h : RFok rf) : rf 73 2 = some 75 := h (73, 2, 75) (by decide)
theorem rf_73_3 (h : RFok rf) : rf 73 3 = some 76 := h (73, 3, 76) (by decide)
theorem rf_73_4 (h : RFok rf) : rf 73 4 = some 77 := h (73, 4, 77) (by decide)
theorem rf_73_5 (h : RFok rf) : rf 73 5 = some 78 := h (73, 5, 78) (by decide)
theorem rf_73_6 (h : RFok rf) : rf 73 6 = some 79 := h (73, 6, 79) (by decide)
theorem rf_73_7 (h : RFok rf) : rf 73 7 = some 80 := h (73, 7, 80) (by decide)
theorem rf_73_8 (h : RFok rf) : rf 73 8 = some 81 := h (73, 8, 81) (by decide)
theorem rf_73_9 (h : RFok rf) : rf 73 9 = some 82 := h (73, 9, 82) (by decide)
theorem rf_83_0 (h : RFok rf) : rf 83 0 = some 84 := h (83, 0, 84) (by decide)
theorem rf_83_1 (h : RFok rf) : rf 83 1 = some 93 := h (83, 1, 93) (by decide)
theorem rf_84_5 (h : RFok rf) : rf 84 5 = some 85 := h (84, 5, 85) (by decide)
theorem rf_84_6 (h : RFok rf) : rf 84 6 = some 86 := h (84, 6, 86) (by decide)
theorem rf_84_7 (h : RFok rf) : rf 84 7 = some 87 := h (84, 7, 87) (by decide)
theorem rf_84_8 (h : RFok rf) : rf 84 8 = some 88 := h (84, 8, 88) (by decide)
theorem rf_84_9 (h : RFok rf) : rf 84 9 = some 89 := h (84, 9, 89) (by decide)
theorem rf_84_10 (h : RFok rf) : rf 84 10 = some 90 := h (84, 10, 90) (by decide)
theorem rf_84_11 (h : RFok rf) : rf 84 11 = some 91 := h (84, 11, 91) (by decide)
theorem rf_84_12 (h : RFok rf) : rf 84 12 = some 92 := h (84, 12, 92) (by decide)
theorem rf_93_1 (h : RFok rf) : rf 93 1 = some 94 := h (93, 1, 94) (by decide)
theorem rf_93_2 (h : RFok rf) : rf 93 2 = some 95 := h (93, 2, 95) (by decide)
theorem rf_93_3 (h : RFok rf) : rf 93 3 = some 96 := h (93, 3, 96) (by decide)
theorem rf_93_4 (h : RFok rf) : rf 93 4 = some 97 := h (93, 4, 97) (by decide)
theorem rf_93_5 (h : RFok rf) : rf 93 5 = some 98 := h (93, 5, 98) (by decide)
theorem rf_93_6 (h : RFok rf) : rf 93 6 = some 99 := h (93, 6, 99) (by decide)
theorem rf_93_7 (h : RFok rf) : rf 93 7 = some 100 := h (93, 7, 100) (by decide)
theorem rf_93_8 (h : RFok rf) : rf 93 8 = some 101 := h (93, 8, 101) (by decide)
theorem rf_93_9 (h : RFok rf) : rf 93 9 = some 102 := h (93, 9, 102) (by decide)
theorem rf_103_0 (h : RFok rf) : rf 103 0 = some 104 := h (103, 0, 104) (by decide)
theorem rf_103_1 (h : RFok rf) : rf 103 1 = some 124 := h (103, 1, 124) (by decide)
theorem rf_104_0 (h : RFok rf) : rf 104 0 = some 105 := h (104, 0, 105) (by decide)
theorem rf_104_1 (h : RFok rf) : rf 104 1 = some 114 := h (104, 1, 114) (by decide)
theorem rf_105_5 (h : RFok rf) : rf 105 5 = some 106 := h (105, 5, 106) (by decide)
theorem rf_105_6 (h : RFok rf) : rf 105 6 = some 107 := h (105, 6, 107) (by decide)
theorem rf_105_7 (h : RFok rf) : rf 105 7 = some 108 := h (105, 7, 108) (by decide)
theorem rf_105_8 (h : RFok rf) : rf 105 8 = some 109 := h (105, 8, 109) (by decide)
theorem rf_105_9 (h : RFok rf) : rf 105 9 = some 110 := h (105, 9, 110) (by decide)
theorem rf_105_10 (h : RFok rf) : rf 105 10 = some 111 := h (105, 10, 111) (by decide)
theorem rf_105_11 (h : RFok rf) : rf 105 11 = some 112 := h (105, 11, 112) (by decide)
theorem rf_105_12 (h : RFok rf) : rf 105 12 = some 113 := h (105, 12, 113) (by decide)
theorem rf_114_1 (h : RFok rf) : rf 114 1 = some 115 := h (114, 1, 115) (by decide)
theorem rf_114_2 (h : RFok rf) : rf 114 2 = some 116 := h (114, 2, 116) (by decide)
theorem rf_114_3 (h : RFok rf) : rf 114 3 = some 117 := h (114, 3, 117) (by decide)
theorem rf_114_4 (h : RFok rf) : rf 114 4 = some 118 := h (114, 4, 118) (by decide)
theorem rf_114_5 (h : RFok rf) : rf 114 5 = some 119 := h (114, 5, 119) (by decide)
theorem rf_114_6 (h : RFok rf) : rf 114 6 = some 120 := h (114, 6, 120) (by decide)
theorem rf_114_7 (h : RFok rf) : rf 114 7 = some 121 := h (114, 7, 121) (by decide)
theorem rf_114_8 (h : RFok rf) : rf 114 8 = some 122 := h (114, 8, 122) (by decide)
theorem rf_114_9 (h : RFok rf) : rf 114 9 = some 123 := h (114, 9, 123) (by decide)
theorem rf_124_0 (h : RFok rf) : rf 124 0 = some 125 := h (124, 0, 125) (by decide)
theorem rf_124_1 (h : RFok rf) : rf 124 1 = some 134 := h (124, 1, 134) (by decide)
theorem rf_125_5 (h : RFok rf) : rf 125 5 = some 126 := h (125, 5, 126) (by decide)
theorem rf_125_6 (h : RFok rf) : rf 125 6 = some 127 := h (125, 6, 127) (by decide)
theorem rf_125_7 (h : RFok rf) : rf 125 7 = some 128 := h (125, 7, 128) (by decide)
theorem rf_125_8 (h : RFok rf) : rf 125 8 = some 129 := h (125, 8, 129) (by decide)
theorem rf_125_9 (h : RFok rf) : rf 125 9 = some 130 := h (125, 9, 130) (by decide)
theorem rf_125_10 (h : RFok rf) : rf 125 10 = some 131 := h (125, 10, 131) (by decide)
theorem rf_125_11 (h : RFok rf) : rf 125 11 = some 132 := h (125, 11, 132) (by decide)
theorem rf_125_12 (h : RFok rf) : rf 125 12 = some 133 := h (125, 12, 133) (by decide)
theorem rf_134_1 (h : RFok rf) : rf 134 1 = some 135 := h (134, 1, 135) (by decide)
theorem rf_134_2 (h : RFok rf) : rf 134 2 = some 136 := h (134, 2, 136) (by decide)
theorem rf_134_3 (h : RFok rf) : rf 134 3 = some 137 := h (134, 3, 137) (by decide)
theorem rf_134_4 (h : RFok rf) : rf 134 4 = some 138 := h (134, 4, 138) (by decide)
theorem rf_134_5 (h : RFok rf) : rf 134 5 = some 139 := h (134, 5, 139) (by decide)
theorem rf_134_6 (h : RFok rf) : rf 134 6 = some 140 := h (134, 6, 140) (by decide)
theorem rf_134_7 (h : RFok rf) : rf 134 7 = some 141 := h (134, 7, 141) (by decide)
theorem rf_134_8 (h : RFok rf) : rf 134 8 = some 142 := h (134, 8, 142) (by decide)
theorem rf_134_9 (h : RFok rf) : rf 134 9 = some 143 := h (134, 9, 143) (by decide)
theorem rf_144_0 (h : RFok rf) : rf 144 0 = some 145 := h (144, 0, 145) (by decide)
end
