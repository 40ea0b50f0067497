/-! the script stands -/
set_option maxHeartbeats 100000 in
theorem k0_1 {a b : Nat} {z : Int32} {L L' : pL} {S S' : List Value} {h h' : pH} (e : o1 a L S h = some (L', S', h')) : h'.2.1 0 = h.2.1 0 := by
  unfold o1 at e
  split at e
  · cases e; rfl
  · cases e
set_option maxHeartbeats 100000 in
theorem k0_2 {a b : Nat} {z : Int32} {L L' : pL} {S S' : List Value} {h h' : pH} (e : o2 a L S h = some (L', S', h')) : h'.2.1 0 = h.2.1 0 := by
  unfold o2 at e
  split at e
  · cases e; rfl
  · cases e
set_option maxHeartbeats 100000 in
theorem k0_5 {a b : Nat} {z : Int32} {L L' : pL} {S S' : List Value} {h h' : pH} (e : o5 a z L S h = some (L', S', h')) : h'.2.1 0 = h.2.1 0 := by
  unfold o5 at e
  split at e
  · cases e; rfl
  · cases e
set_option maxHeartbeats 100000 in
theorem k0_6 {a b : Nat} {z : Int32} {L L' : pL} {S S' : List Value} {h h' : pH} (e : o6 a L S h = some (L', S', h')) : h'.2.1 0 = h.2.1 0 := by
  unfold o6 at e
  split at e
  · cases e; rfl
  · cases e
set_option maxHeartbeats 100000 in
theorem k0_7 {a b : Nat} {z : Int32} {L L' : pL} {S S' : List Value} {h h' : pH} (e : o7  L S h = some (L', S', h')) : h'.2.1 0 = h.2.1 0 := by
  unfold o7 at e
  split at e
  · cases e; rfl
  · cases e
set_option maxHeartbeats 100000 in
theorem k0_9 {a b : Nat} {z : Int32} {L L' : pL} {S S' : List Value} {h h' : pH} (e : o9  L S h = some (L', S', h')) : h'.2.1 0 = h.2.1 0 := by
  unfold o9 at e
  split at e
  · cases e; rfl
  · cases e
set_option maxHeartbeats 100000 in
theorem k0_3 {a b : Nat} {z : Int32} {L L' : pL} {S S' : List Value} {h h' : pH} (e : o3 a L S h = some (L', S', h')) : h'.2.1 0 = h.2.1 0 := by
  unfold o3 at e
  split at e
  · split at e
    · cases e; rfl
    · cases e
  · cases e
set_option maxHeartbeats 100000 in
theorem k0_4 {a b : Nat} {z : Int32} {L L' : pL} {S S' : List Value} {h h' : pH} (e : o4 a L S h = some (L', S', h')) : h'.2.1 0 = h.2.1 0 := by
  unfold o4 at e
  split at e
  · split at e
    · cases e; rfl
    · cases e
  · cases e
set_option maxHeartbeats 100000 in
theorem k0_10 {a b : Nat} {z : Int32} {L L' : pL} {S S' : List Value} {h h' : pH} (e : o10  L S h = some (L', S', h')) : h'.2.1 0 = h.2.1 0 := by
  unfold o10 at e
  split at e
  · split at e
    · cases e; rfl
    · cases e
  · cases e
set_option maxHeartbeats 100000 in
theorem k0_11 {a b : Nat} {z : Int32} {L L' : pL} {S S' : List Value} {h h' : pH} (e : o11  L S h = some (L', S', h')) : h'.2.1 0 = h.2.1 0 := by
  unfold o11 at e
  split at e
  · split at e
    · cases e; rfl
    · cases e
  · cases e
set_option maxHeartbeats 100000 in
theorem k0_12 {a b : Nat} {z : Int32} {L L' : pL} {S S' : List Value} {h h' : pH} (e : o12  L S h = some (L', S', h')) : h'.2.1 0 = h.2.1 0 := by
  unfold o12 at e
  split at e
  · split at e
    · cases e; rfl
    · cases e
  · cases e
set_option maxHeartbeats 100000 in
theorem k0_24 {a b : Nat} {z : Int32} {L L' : pL} {S S' : List Value} {h h' : pH} (e : o24  L S h = some (L', S', h')) : h'.2.1 0 = h.2.1 0 := by
  unfold o24 at e
  split at e
  · split at e
    · cases e; rfl
    · cases e
  · cases e
set_option maxHeartbeats 100000 in
theorem k0_26 {a b : Nat} {z : Int32} {L L' : pL} {S S' : List Value} {h h' : pH} (e : o26  L S h = some (L', S', h')) : h'.2.1 0 = h.2.1 0 := by
  unfold o26 at e
  split at e
  · split at e
    · cases e; rfl
    · cases e
  · cases e
set_option maxHeartbeats 100000 in
theorem k0_27 {a b : Nat} {z : Int32} {L L' : pL} {S S' : List Value} {h h' : pH} (e : o27  L S h = some (L', S', h')) : h'.2.1 0 = h.2.1 0 := by
  unfold o27 at e
  split at e
  · split at e
    · cases e; rfl
    · cases e
  · cases e
set_option maxHeartbeats 100000 in
theorem k0_8 {a b : Nat} {z : Int32} {L L' : pL} {S S' : List Value} {h h' : pH} (e : o8  L S h = some (L', S', h')) : h'.2.1 0 = h.2.1 0 := by
  unfold o8 at e
  split at e
  · split at e
    · cases e
    · cases e; rfl
  · cases e
set_option maxHeartbeats 100000 in
theorem k0_13 {a b : Nat} {z : Int32} {L L' : pL} {S S' : List Value} {h h' : pH} (e : o13 b L S h = some (L', S', h')) : h'.2.1 0 = h.2.1 0 := by
  unfold o13 at e
  split at e
  · split at e
    · split at e
      · cases e; rfl
      · cases e
    · cases e
  · cases e
set_option maxHeartbeats 100000 in
theorem k0_14 {a b : Nat} {z : Int32} {L L' : pL} {S S' : List Value} {h h' : pH} (e : o14  L S h = some (L', S', h')) : h'.2.1 0 = h.2.1 0 := by
  unfold o14 at e
  split at e
  · split at e
    · split at e
      · cases e; rfl
      · cases e
    · cases e
  · cases e
set_option maxHeartbeats 100000 in
theorem k0_16 {a b : Nat} {z : Int32} {L L' : pL} {S S' : List Value} {h h' : pH} (e : o16  L S h = some (L', S', h')) : h'.2.1 0 = h.2.1 0 := by
  unfold o16 at e
  split at e
  · split at e
    · split at e
      · cases e; rfl
      · cases e
    · cases e
  · cases e
set_option maxHeartbeats 100000 in
theorem k0_17 {a b : Nat} {z : Int32} {L L' : pL} {S S' : List Value} {h h' : pH} (e : o17  L S h = some (L', S', h')) : h'.2.1 0 = h.2.1 0 := by
  unfold o17 at e
  split at e
  · split at e
    · split at e
      · cases e; rfl
      · cases e
    · cases e
  · cases e
set_option maxHeartbeats 100000 in
theorem k0_18 {a b : Nat} {z : Int32} {L L' : pL} {S S' : List Value} {h h' : pH} (e : o18 a b L S h = some (L', S', h')) : h'.2.1 0 = h.2.1 0 := by
  unfold o18 at e
  split at e
  · split at e
    · split at e
      · cases e; rfl
      · cases e
    · cases e
  · cases e
set_option maxHeartbeats 100000 in
theorem k0_15 {a b : Nat} {z : Int32} {L L' : pL} {S S' : List Value} {h h' : pH} (e : o15 b L S h = some (L', S', h')) : h'.2.1 0 = h.2.1 0 := by
  unfold o15 at e
  split at e
  · split at e
    · split at e
      · rename_i hh; cases e; exact u2_ne (Nat.ne_of_lt hh.2.1)
      · cases e
    · cases e
  · cases e
set_option maxHeartbeats 100000 in
theorem k0_25 {a b : Nat} {z : Int32} {L L' : pL} {S S' : List Value} {h h' : pH} (e : o25  L S h = some (L', S', h')) : h'.2.1 0 = h.2.1 0 := by
  unfold o25 at e
  split at e
  · split at e
    · split at e
      · rename_i hh; cases e; exact if_neg (Nat.ne_of_lt hh.2.2.2.1)
      · cases e
    · cases e
  · cases e
set_option maxHeartbeats 100000 in
theorem k0_19 {a b : Nat} {z : Int32} {L L' : pL} {S S' : List Value} {h h' : pH} (e : o19 a b L S h = some (L', S', h')) : h'.2.1 0 = h.2.1 0 := by
  unfold o19 at e
  split at e
  · split at e
    · split at e
      · rename_i hh; cases e; exact u2_ne (Nat.ne_of_lt hh.2.2.2.2.1)
      · cases e
    · cases e
  · split at e
    · split at e
      · cases e; rfl
      · cases e
    · cases e
  · cases e
set_option maxHeartbeats 100000 in
theorem k0_21 {a b : Nat} {z : Int32} {L L' : pL} {S S' : List Value} {h h' : pH} (e : o21 a L S h = some (L', S', h')) : h'.2.1 0 = h.2.1 0 := by
  unfold o21 at e
  split at e
  · rename_i hh; cases e; exact if_neg (by have := hh.2; omega)
  · cases e
set_option maxHeartbeats 100000 in
theorem k0_22 {a b : Nat} {z : Int32} {L L' : pL} {S S' : List Value} {h h' : pH} (e : o22 a L S h = some (L', S', h')) : h'.2.1 0 = h.2.1 0 := by
  unfold o22 at e
  split at e
  · split at e
    · rename_i hh; cases e; exact if_neg (by have := hh.2.2.1; omega)
    · cases e
  · cases e
set_option maxHeartbeats 100000 in
theorem k0_23 {a b : Nat} {z : Int32} {L L' : pL} {S S' : List Value} {h h' : pH} (e : o23  L S h = some (L', S', h')) : h'.2.1 0 = h.2.1 0 := by
  unfold o23 at e
  split at e
  · split at e
    · rename_i hh; cases e; exact if_neg (by have := hh.2.2; omega)
    · cases e
  · cases e
theorem k0_op {o a b : Nat} {z : Int32} {L L' : pL} {S S' : List Value} {h h' : pH} (e : p_op o a b z L S h = some (L', S', h')) : h'.2.1 0 = h.2.1 0 := by
  unfold p_op at e
  split at e
  · cases e; rfl
  · exact k0_1 (a := a) (b := b) (z := z) e
  · exact k0_2 (a := a) (b := b) (z := z) e
  · exact k0_3 (a := a) (b := b) (z := z) e
  · exact k0_4 (a := a) (b := b) (z := z) e
  · exact k0_5 (a := a) (b := b) (z := z) e
  · exact k0_6 (a := a) (b := b) (z := z) e
  · exact k0_7 (a := a) (b := b) (z := z) e
  · exact k0_8 (a := a) (b := b) (z := z) e
  · exact k0_9 (a := a) (b := b) (z := z) e
  · exact k0_10 (a := a) (b := b) (z := z) e
  · exact k0_11 (a := a) (b := b) (z := z) e
  · exact k0_12 (a := a) (b := b) (z := z) e
  · exact k0_13 (a := a) (b := b) (z := z) e
  · exact k0_14 (a := a) (b := b) (z := z) e
  · exact k0_15 (a := a) (b := b) (z := z) e
  · exact k0_16 (a := a) (b := b) (z := z) e
  · exact k0_17 (a := a) (b := b) (z := z) e
  · exact k0_18 (a := a) (b := b) (z := z) e
  · exact k0_19 (a := a) (b := b) (z := z) e
  · exact k0_19 (a := a) (b := b) (z := z) e
  · exact k0_21 (a := a) (b := b) (z := z) e
  · exact k0_22 (a := a) (b := b) (z := z) e
  · exact k0_23 (a := a) (b := b) (z := z) e
  · exact k0_24 (a := a) (b := b) (z := z) e
  · exact k0_25 (a := a) (b := b) (z := z) e
  · exact k0_26 (a := a) (b := b) (z := z) e
  · exact k0_27 (a := a) (b := b) (z := z) e
  · cases e
theorem k0_ex : ∀ (n : Nat) (cd : List pI) (i : Nat) (L : pL) (S : List Value) (h : pH) (r : Option Value × pH), pex n cd i L S h = some r → r.2.2.1 0 = h.2.1 0
  | 0, cd, i, L, S, h, r, hx => by cases hx
  | n + 1, cd, i, L, S, h, r, hx => by
    unfold pex at hx
    split at hx
    · cases hx
    · split at hx
      · split at hx
        · cases hx
        · rename_i hop
          exact (k0_ex n _ _ _ _ _ _ hx).trans (k0_op hop)
      · split at hx
        · split at hx
          · cases hx
          · exact k0_ex n _ _ _ _ _ _ hx
        · split at hx
          · split at hx
            · split at hx
              · cases hx
              · rename_i hop
                exact (k0_ex n _ _ _ _ _ _ hx).trans (k0_ex n _ _ _ _ _ _ hop)
            · cases hx
          · split at hx
            · cases hx
            · cases hx
              rfl
theorem PC_0 {k : Nat} {args : List Value} {r : Option Value} {sl : Nat} {ρ ρ' : pR} {rf rf' : pF} (hp : PC k args (HP sl ρ rf) r (HP sl ρ' rf')) : ρ' 0 = ρ 0 := by
  obtain ⟨n, e⟩ := hp
  exact k0_ex n _ _ _ _ _ _ e
