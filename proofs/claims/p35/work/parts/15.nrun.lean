/-! the kernel's machine: its instructions, its runs, and that the pure machine runs the same -/
/-- methods by tens: code, locals, class -/
def nT0 : List (List pI × Nat × Nat) := [(p_c_X0_init, 1, 0), (p_c_X0_copyFrom, 2, 0), (p_c_X0_add, 5, 0), (p_c_X0_all, 1, 0), (p_c_X0_isLock, 2, 0), (p_c_X0_overdueOnes, 4, 0), (p_c_X0_bridgedOnes, 3, 0), (p_c_X0_countingAsClosed, 1, 0), (p_c_X0_endsFirst, 4, 0), (p_c_X0_placeOfKey, 3, 0)]
def nT1 : List (List pI × Nat × Nat) := [(p_c_X0_keysInLocks, 3, 0), (p_c_X0_guardAllows, 2, 0), (p_c_X0_canBeTested, 2, 0), (p_c_X0_beginTest, 2, 0), (p_c_X0_openSensor, 2, 0), (p_c_X0_closeSensor, 2, 0), (p_c_X0_tick, 2, 0), (p_c_X1_init, 2, 1), (p_c_X1_copyFrom, 2, 1), (p_c_X1_rowAt, 3, 1)]
def nT2 : List (List pI × Nat × Nat) := [(p_c_X1_addRow, 3, 1), (p_c_X1_inputsOf, 2, 1), (p_c_X1_inputsOfRows, 5, 1), (p_c_X1_isPermitted, 4, 1), (p_c_X1_permittedOnes, 4, 1), (p_c_X1_withFirstOut, 3, 1), (p_c_X1_fewestOpen, 6, 1), (p_c_X1_begin, 2, 1), (p_c_X1_stopUnpermitted, 6, 1), (p_c_X1_leastOpened, 3, 1)]
def nT3 : List (List pI × Nat × Nat) := [(p_c_X1_countTick, 2, 1), (p_c_X2_init, 1, 2), (p_c_X2_copyFrom, 2, 2), (p_c_X3_init, 1, 3), (p_c_X3_endOfRow, 3, 3), (p_c_X3_isRow, 5, 3), (p_c_X3_isDigit, 1, 3), (p_c_X3_motionOfRow, 2, 3), (p_c_X3_highestInputOfRow, 6, 3), (p_c_X3_inputsOfRow, 6, 3)]
def nT4 : List (List pI × Nat × Nat) := [(p_c_X3_rowsOfMotion, 5, 3), (p_c_X4_init, 2, 4), (p_c_X4_sensor, 2, 4), (p_c_X4_lock, 3, 4), (p_c_X4_essential, 4, 4), (p_c_X4_input, 4, 4), (p_c_X4_inputInfo, 4, 4), (p_c_X4_keyIn, 3, 4), (p_c_X4_keyOut, 4, 4), (p_c_X4_key, 2, 4)]
def nT5 : List (List pI × Nat × Nat) := [(p_c_X4_bridge, 4, 4), (p_c_X4_unbridge, 3, 4), (p_c_X4_bridged, 4, 4), (p_c_X4_row, 3, 4), (p_c_X4_dropRows, 3, 4), (p_c_X4_exclude, 6, 4), (p_c_X4_start, 2, 4), (p_c_X4_why, 2, 4), (p_c_X4_stop, 2, 4), (p_c_X4_reset, 3, 4)]
def nT6 : List (List pI × Nat × Nat) := [(p_c_X4_motion, 4, 4), (p_c_X4_ways, 7, 4), (p_c_X4_waysAgain, 9, 4), (p_c_X4_needed, 2, 4), (p_c_X4_test, 2, 4), (p_c_X4_run, 6, 4), (p_c_X4_count, 4, 4), (p_c_X4_snapshot, 2, 4), (p_c_X4_restore, 2, 4), (p_c_X4_undo, 1, 4)]
def nT7 : List (List pI × Nat × Nat) := [(p_c_X4_type, 2, 4), (p_c_X4_clearText, 2, 4), (p_c_X4_fault, 3, 4), (p_c_X4_read, 4, 4), (p_c_X4_isInput, 2, 4), (p_c_X4_isKey, 1, 4), (p_c_X4_isMotion, 1, 4), (p_c_X4_isSnapshotPlace, 1, 4), (p_c_X4_isYesOrNo, 1, 4), (p_c_X4_has, 2, 4)]
def nT8 : List (List pI × Nat × Nat) := [(p_c_X4_bitOf, 2, 4), (p_c_X4_with, 4, 4), (p_c_X4_least, 2, 4), (p_c_X4_sum, 6, 4), (p_c_X4_copyAll, 2, 4), (p_c_X4_orNotFound, 1, 4), (p_c_X4_rowOrNotFound, 3, 4), (p_c_X4_isPermitted, 2, 4), (p_c_X4_reasonAgainstStart, 3, 4), (p_c_X4_remember, 1, 4)]
def nT9 : List (List pI × Nat × Nat) := [(p_c_X4_forgetOldest, 3, 4), (p_c_X4_lookAtMotions, 2, 4), (p_c_X4_placeOfFault, 3, 4), (p_c_X4_faultOfRow, 5, 4), (p_c_J6_bitCount_0f7a4, 1, 7), (p_c_L_part, 2, 6), (p_c_L_take, 2, 6), (p_c_L_mixed, 4, 6), (p_c_L_state, 4, 6), (p_c_L_refusesMotions, 3, 6)]
def nT10 : List (List pI × Nat × Nat) := [(p_c_L_refused, 6, 6), (p_c_L_types, 5, 6), (p_c_L_isFault, 9, 6), (p_c_L_texts, 2, 6), (p_c_L_known, 1, 6), (p_c_L_law, 11, 6)]
def nTT : List (List (List pI × Nat × Nat)) := [nT0, nT1, nT2, nT3, nT4, nT5, nT6, nT7, nT8, nT9, nT10]
noncomputable def nTab {α : Type} (k : Nat) (f : List pI → Nat → Nat → Option α) : Option α := match nth nTT (k / 10) with
  | none => none
  | some l => match nth l (k % 10) with
    | none => none
    | some (c, n, w) => f c n w
theorem nTT_0 : ∀ j, j < 10 → nT0[j]? = some (p_cd (0 + j), p_ml (0 + j), p_ow (0 + j)) := fun j h => match j, h with
  | 0, _ => rfl
  | 1, _ => rfl
  | 2, _ => rfl
  | 3, _ => rfl
  | 4, _ => rfl
  | 5, _ => rfl
  | 6, _ => rfl
  | 7, _ => rfl
  | 8, _ => rfl
  | 9, _ => rfl
  | n + 10, h => absurd h (by omega)
theorem nTT_1 : ∀ j, j < 10 → nT1[j]? = some (p_cd (10 + j), p_ml (10 + j), p_ow (10 + j)) := fun j h => match j, h with
  | 0, _ => rfl
  | 1, _ => rfl
  | 2, _ => rfl
  | 3, _ => rfl
  | 4, _ => rfl
  | 5, _ => rfl
  | 6, _ => rfl
  | 7, _ => rfl
  | 8, _ => rfl
  | 9, _ => rfl
  | n + 10, h => absurd h (by omega)
theorem nTT_2 : ∀ j, j < 10 → nT2[j]? = some (p_cd (20 + j), p_ml (20 + j), p_ow (20 + j)) := fun j h => match j, h with
  | 0, _ => rfl
  | 1, _ => rfl
  | 2, _ => rfl
  | 3, _ => rfl
  | 4, _ => rfl
  | 5, _ => rfl
  | 6, _ => rfl
  | 7, _ => rfl
  | 8, _ => rfl
  | 9, _ => rfl
  | n + 10, h => absurd h (by omega)
theorem nTT_3 : ∀ j, j < 10 → nT3[j]? = some (p_cd (30 + j), p_ml (30 + j), p_ow (30 + j)) := fun j h => match j, h with
  | 0, _ => rfl
  | 1, _ => rfl
  | 2, _ => rfl
  | 3, _ => rfl
  | 4, _ => rfl
  | 5, _ => rfl
  | 6, _ => rfl
  | 7, _ => rfl
  | 8, _ => rfl
  | 9, _ => rfl
  | n + 10, h => absurd h (by omega)
theorem nTT_4 : ∀ j, j < 10 → nT4[j]? = some (p_cd (40 + j), p_ml (40 + j), p_ow (40 + j)) := fun j h => match j, h with
  | 0, _ => rfl
  | 1, _ => rfl
  | 2, _ => rfl
  | 3, _ => rfl
  | 4, _ => rfl
  | 5, _ => rfl
  | 6, _ => rfl
  | 7, _ => rfl
  | 8, _ => rfl
  | 9, _ => rfl
  | n + 10, h => absurd h (by omega)
theorem nTT_5 : ∀ j, j < 10 → nT5[j]? = some (p_cd (50 + j), p_ml (50 + j), p_ow (50 + j)) := fun j h => match j, h with
  | 0, _ => rfl
  | 1, _ => rfl
  | 2, _ => rfl
  | 3, _ => rfl
  | 4, _ => rfl
  | 5, _ => rfl
  | 6, _ => rfl
  | 7, _ => rfl
  | 8, _ => rfl
  | 9, _ => rfl
  | n + 10, h => absurd h (by omega)
theorem nTT_6 : ∀ j, j < 10 → nT6[j]? = some (p_cd (60 + j), p_ml (60 + j), p_ow (60 + j)) := fun j h => match j, h with
  | 0, _ => rfl
  | 1, _ => rfl
  | 2, _ => rfl
  | 3, _ => rfl
  | 4, _ => rfl
  | 5, _ => rfl
  | 6, _ => rfl
  | 7, _ => rfl
  | 8, _ => rfl
  | 9, _ => rfl
  | n + 10, h => absurd h (by omega)
theorem nTT_7 : ∀ j, j < 10 → nT7[j]? = some (p_cd (70 + j), p_ml (70 + j), p_ow (70 + j)) := fun j h => match j, h with
  | 0, _ => rfl
  | 1, _ => rfl
  | 2, _ => rfl
  | 3, _ => rfl
  | 4, _ => rfl
  | 5, _ => rfl
  | 6, _ => rfl
  | 7, _ => rfl
  | 8, _ => rfl
  | 9, _ => rfl
  | n + 10, h => absurd h (by omega)
theorem nTT_8 : ∀ j, j < 10 → nT8[j]? = some (p_cd (80 + j), p_ml (80 + j), p_ow (80 + j)) := fun j h => match j, h with
  | 0, _ => rfl
  | 1, _ => rfl
  | 2, _ => rfl
  | 3, _ => rfl
  | 4, _ => rfl
  | 5, _ => rfl
  | 6, _ => rfl
  | 7, _ => rfl
  | 8, _ => rfl
  | 9, _ => rfl
  | n + 10, h => absurd h (by omega)
theorem nTT_9 : ∀ j, j < 10 → nT9[j]? = some (p_cd (90 + j), p_ml (90 + j), p_ow (90 + j)) := fun j h => match j, h with
  | 0, _ => rfl
  | 1, _ => rfl
  | 2, _ => rfl
  | 3, _ => rfl
  | 4, _ => rfl
  | 5, _ => rfl
  | 6, _ => rfl
  | 7, _ => rfl
  | 8, _ => rfl
  | 9, _ => rfl
  | n + 10, h => absurd h (by omega)
theorem nTT_10 : ∀ j, j < 6 → nT10[j]? = some (p_cd (100 + j), p_ml (100 + j), p_ow (100 + j)) := fun j h => match j, h with
  | 0, _ => rfl
  | 1, _ => rfl
  | 2, _ => rfl
  | 3, _ => rfl
  | 4, _ => rfl
  | 5, _ => rfl
  | n + 6, h => absurd h (by omega)
theorem nTT_ok : ∀ k, k < 106 → ((nTT[k / 10]?).bind fun l => l[k % 10]?) = some (p_cd k, p_ml k, p_ow k) := fun k hk => by
  have e : k = 10 * (k / 10) + k % 10 := by omega
  have h10 : k % 10 < 10 := by omega
  rcases (show k / 10 = 0 ∨ k / 10 = 1 ∨ k / 10 = 2 ∨ k / 10 = 3 ∨ k / 10 = 4 ∨ k / 10 = 5 ∨ k / 10 = 6 ∨ k / 10 = 7 ∨ k / 10 = 8 ∨ k / 10 = 9 ∨ k / 10 = 10 by omega) with q | q | q | q | q | q | q | q | q | q | q
  · have h1 := nTT_0 (k % 10) (by omega)
    rw [show 0 + k % 10 = k by omega] at h1
    rw [q]
    exact h1
  · have h1 := nTT_1 (k % 10) (by omega)
    rw [show 10 + k % 10 = k by omega] at h1
    rw [q]
    exact h1
  · have h1 := nTT_2 (k % 10) (by omega)
    rw [show 20 + k % 10 = k by omega] at h1
    rw [q]
    exact h1
  · have h1 := nTT_3 (k % 10) (by omega)
    rw [show 30 + k % 10 = k by omega] at h1
    rw [q]
    exact h1
  · have h1 := nTT_4 (k % 10) (by omega)
    rw [show 40 + k % 10 = k by omega] at h1
    rw [q]
    exact h1
  · have h1 := nTT_5 (k % 10) (by omega)
    rw [show 50 + k % 10 = k by omega] at h1
    rw [q]
    exact h1
  · have h1 := nTT_6 (k % 10) (by omega)
    rw [show 60 + k % 10 = k by omega] at h1
    rw [q]
    exact h1
  · have h1 := nTT_7 (k % 10) (by omega)
    rw [show 70 + k % 10 = k by omega] at h1
    rw [q]
    exact h1
  · have h1 := nTT_8 (k % 10) (by omega)
    rw [show 80 + k % 10 = k by omega] at h1
    rw [q]
    exact h1
  · have h1 := nTT_9 (k % 10) (by omega)
    rw [show 90 + k % 10 = k by omega] at h1
    rw [q]
    exact h1
  · have h1 := nTT_10 (k % 10) (by omega)
    rw [show 100 + k % 10 = k by omega] at h1
    rw [q]
    exact h1
theorem nTT_len : ∀ k, 106 ≤ k → ((nTT[k / 10]?).bind fun l => l[k % 10]?) = none := fun k hk => by
  by_cases h : k < 110
  · rcases (show k = 106 ∨ k = 107 ∨ k = 108 ∨ k = 109 by omega) with rfl | rfl | rfl | rfl <;> rfl
  · rw [List.getElem?_eq_none (show nTT.length ≤ k / 10 by show 11 ≤ _; omega)]
    rfl
theorem nTab_spec {α : Type} {k : Nat} {f : List pI → Nat → Nat → Option α} {r : α} (h : nTab k f = some r) : f (p_cd k) (p_ml k) (p_ow k) = some r := by
  have key : ((nTT[k / 10]?).bind fun l => l[k % 10]?) = some (p_cd k, p_ml k, p_ow k) := by
    by_cases hk : k < 106
    · exact nTT_ok k hk
    · exfalso
      have h1 := nTT_len k (by omega)
      unfold nTab at h
      split at h
      · cases h
      · rename_i l e
        rw [nth_eq] at e
        rw [e] at h1
        split at h
        · cases h
        · rename_i e2
          rw [nth_eq] at e2
          rw [Option.bind_some, e2] at h1
          cases h1
  unfold nTab at h
  split at h
  · cases h
  · rename_i l e
    rw [nth_eq] at e
    rw [e, Option.bind_some] at key
    split at h
    · cases h
    · rename_i c n w e2
      rw [nth_eq, key] at e2
      cases e2
      exact h
abbrev nK (α : Type) : Type := pL → List Value → Nat → Nat → Nat → Option α
def nhD : pH := ([], fun _ _ => 0, fun _ _ => none)
/-- instructions that don't touch the cells -/
def nHL (o a : Nat) : Bool := match o with
  | 0 => true | 1 => true | 2 => true | 3 => true | 4 => true | 5 => true | 6 => true | 7 => true | 8 => true | 9 => true | 10 => true | 11 => true | 12 => true
  | 24 => true | 26 => true | 27 => true
  | 28 => match a with
    | 0 => true | 1 => true | 2 => true | 3 => true | 4 => true | 5 => true | 6 => true | 7 => true | 8 => true | 9 => true | 12 => true
    | _ => false
  | _ => false
theorem p_op_hl {o a b : Nat} {z : Int32} {L : pL} {S : List Value} {h : pH} (hl : nHL o a = true) : p_op o a b z L S h = (p_op o a b z L S nhD).map (fun x => (x.1, x.2.1, h)) := by
  unfold nHL at hl
  split at hl <;> first | (cases hl; done) | skip
  · rfl
  · show o1 _ _ _ _ = (o1 _ _ _ _).map _; unfold o1; split <;> rfl
  · show o2 _ _ _ _ = (o2 _ _ _ _).map _; unfold o2; split <;> rfl
  · show o3 _ _ _ _ = (o3 _ _ _ _).map _; unfold o3; split <;> first | rfl | (split <;> rfl)
  · show o4 _ _ _ _ = (o4 _ _ _ _).map _; unfold o4; split <;> first | rfl | (split <;> rfl)
  · show o5 _ _ _ _ _ = (o5 _ _ _ _ _).map _; unfold o5; split <;> rfl
  · show o6 _ _ _ _ = (o6 _ _ _ _).map _; unfold o6; split <;> rfl
  · show o7 _ _ _ = (o7 _ _ _).map _; unfold o7; split <;> rfl
  · show o8 _ _ _ = (o8 _ _ _).map _; unfold o8; split <;> first | rfl | (split <;> rfl)
  · show o9 _ _ _ = (o9 _ _ _).map _; unfold o9; split <;> rfl
  · show o10 _ _ _ = (o10 _ _ _).map _; unfold o10; split <;> first | rfl | (split <;> rfl)
  · show o11 _ _ _ = (o11 _ _ _).map _; unfold o11; split <;> first | rfl | (split <;> rfl)
  · show o12 _ _ _ = (o12 _ _ _).map _; unfold o12; split <;> first | rfl | (split <;> rfl)
  · show o24 _ _ _ = (o24 _ _ _).map _; unfold o24; split <;> first | rfl | (split <;> rfl)
  · show o26 _ _ _ = (o26 _ _ _).map _; unfold o26; split <;> first | rfl | (split <;> rfl)
  · show o27 _ _ _ = (o27 _ _ _).map _; unfold o27; split <;> first | rfl | (split <;> rfl)
  · split at hl <;> first | (cases hl; done) | skip
    · rfl
    · show ol1 _ _ _ _ = (ol1 _ _ _ _).map _; unfold ol1; split <;> rfl
    · show ol2 _ _ _ _ = (ol2 _ _ _ _).map _; unfold ol2; split <;> first | rfl | (split <;> rfl)
    · show ol3 _ _ _ _ = (ol3 _ _ _ _).map _; unfold ol3; split <;> rfl
    · show ol3 _ _ _ _ = (ol3 _ _ _ _).map _; unfold ol3; split <;> rfl
    · show ol3 _ _ _ _ = (ol3 _ _ _ _).map _; unfold ol3; split <;> rfl
    · show ol6 _ _ _ = (ol6 _ _ _).map _; unfold ol6; split <;> rfl
    · show ol3 _ _ _ _ = (ol3 _ _ _ _).map _; unfold ol3; split <;> rfl
    · show ol8 _ _ _ = (ol8 _ _ _).map _; unfold ol8; split <;> rfl
    · show ol9 _ _ _ = (ol9 _ _ _).map _; unfold ol9; split <;> rfl
    · show ol12 _ _ _ = (ol12 _ _ _).map _; unfold ol12; split <;> first | rfl | (split <;> rfl)
/-- stores force the locals, all else the top of the stack -/
def nSto (o a : Nat) : Bool := match o with
  | 3 => true | 4 => true | 5 => true
  | 28 => match a with
    | 2 => true
    | _ => false
  | _ => false
noncomputable def n13 {α : Type} (bs b : Nat) (L : pL) (S : List Value) (m H R : Nat) (k : nK α) : Option α := match S with
  | .int i :: .ref o :: S => nCell bs m o fun q kd n => if kd = b ∧ p_in i n = true then nSt (gB 32 H (nix q i.toNatClampNeg)) fun x => k L (.int (Int32.ofNat x) :: S) m H R else none
  | _ => none
noncomputable def n14 {α : Type} (bs : Nat) (L : pL) (S : List Value) (m H R : Nat) (k : nK α) : Option α := match S with
  | .int i :: .ref o :: S => nCell bs m o fun q kd n => if kd = 13 ∧ p_in i n = true then nV (va_rf (nOp (gB 16 R (nir q i.toNatClampNeg)))) fun v => k L (v :: S) m H R else none
  | _ => none
noncomputable def n15 {α : Type} (bs b : Nat) (L : pL) (S : List Value) (m H R : Nat) (k : nK α) : Option α := match S with
  | .int x :: .int i :: .ref o :: S => nCell bs m o fun q kd n => if kd = b ∧ p_in i n = true ∧ p_fit b x = true then nSt (pB 32 H (nix q i.toNatClampNeg) x.toUInt32.toNat) fun H => k L S m H R else none
  | _ => none
noncomputable def n16 {α : Type} (bs : Nat) (L : pL) (S : List Value) (m H R : Nat) (k : nK α) : Option α := match S with
  | .ref v :: .int i :: .ref o :: S => nCell bs m o fun q kd n => nCell bs m v fun _ kv _ => if kd = 13 ∧ p_in i n = true ∧ kv = 2 ∧ v < 65535 then nSt (pB 16 R (nir q i.toNatClampNeg) (v + 1)) fun R => k L S m H R else none
  | _ => none
noncomputable def n17 {α : Type} (bs : Nat) (L : pL) (S : List Value) (m H R : Nat) (k : nK α) : Option α := match S with
  | .ref o :: S => nCell bs m o fun _ kd n => if 10 ≤ kd ∧ kd ≤ 13 then k L (.int (Int32.ofNat n) :: S) m H R else none
  | _ => none
noncomputable def n18 {α : Type} (bs a b : Nat) (L : pL) (S : List Value) (m H R : Nat) (k : nK α) : Option α := match S with
  | .ref o :: S => nCell bs m o fun q kd n => if kd = a ∧ a < 6 ∧ n = p_N a ∧ b < n then match p_isI a b with
      | true => nSt (gB 32 H (nix q b)) fun x => k L (.int (Int32.ofNat x) :: S) m H R
      | false => nV (va_rf (nOp (gB 16 R (nir q b)))) fun v => k L (v :: S) m H R
    else none
  | _ => none
noncomputable def n19 {α : Type} (bs a b : Nat) (L : pL) (S : List Value) (m H R : Nat) (k : nK α) : Option α := match S with
  | .int x :: .ref o :: S => nCell bs m o fun q kd n => if kd = a ∧ a < 6 ∧ n = p_N a ∧ b < n ∧ p_isI a b = true ∧ p_z (p_isZ a b) x = true then nSt (pB 32 H (nix q b) x.toUInt32.toNat) fun H => k L S m H R else none
  | .ref v :: .ref o :: S => nCell bs m o fun q kd n => if kd = a ∧ a < 6 ∧ n = p_N a ∧ b < n ∧ p_isI a b = false ∧ v < 65535 then nSt (pB 16 R (nir q b) (v + 1)) fun R => k L S m H R else none
  | _ => none
/-- a new cell of kind a and size n -/
noncomputable def nNew {α : Type} (bs a n : Nat) (L : pL) (S : List Value) (m H R : Nat) (k : nK α) : Option α := if m < 145 ∧ nC m / 256 = a ∧ nC m % 256 = n ∧ H >>> (1024 * m) = 0 ∧ R >>> (512 * m) = 0 then nSt (bs + m) fun x => nSt (m + 1) fun m => k L (.ref x :: S) m H R else none
noncomputable def n21 {α : Type} (bs a : Nat) (L : pL) (S : List Value) (m H R : Nat) (k : nK α) : Option α := if a < 6 then nNew bs a (p_N a) L S m H R k else none
noncomputable def n22 {α : Type} (bs a : Nat) (L : pL) (S : List Value) (m H R : Nat) (k : nK α) : Option α := match S with
  | .int n :: S => if ¬ n < 0 ∧ n.toNatClampNeg ≤ 100000 ∧ (a = 10 ∨ a = 11) then nNew bs a n.toNatClampNeg L S m H R k else none
  | _ => none
noncomputable def n23 {α : Type} (bs : Nat) (L : pL) (S : List Value) (m H R : Nat) (k : nK α) : Option α := match S with
  | .int n :: S => if ¬ n < 0 ∧ n.toNatClampNeg ≤ 100000 then nNew bs 13 n.toNatClampNeg L S m H R k else none
  | _ => none
noncomputable def n25 {α : Type} (bs : Nat) (L : pL) (S : List Value) (m H R : Nat) (k : nK α) : Option α := match S with
  | [.int n, .int dp, .ref d, .int sp, .ref s] => nCell bs m s fun qs k1 n1 => nCell bs m d fun qd k2 n2 => if k1 = 10 ∧ k2 = 10 ∧ sp = 0 ∧ dp = 0 ∧ ¬ n < 0 ∧ n.toNatClampNeg ≤ n1 ∧ n.toNatClampNeg ≤ n2 then nSt (pB (32 * n.toNatClampNeg) H (nix qd 0) (gB (32 * n.toNatClampNeg) H (nix qs 0))) fun H => k L [] m H R else none
  | _ => none
noncomputable def nop {α : Type} (bs o a b : Nat) (z : Int32) (L : pL) (S : List Value) (m H R : Nat) (k : nK α) : Option α := match nHL o a with
  | true => match p_op o a b z L S nhD with
    | none => none
    | some (L, S, _) => match nSto o a with
      | true => nL L fun L => k L S m H R
      | false => nTop S fun S => k L S m H R
  | false => match o with
    | 13 => n13 bs b L S m H R k
    | 14 => n14 bs L S m H R k
    | 15 => n15 bs b L S m H R k
    | 16 => n16 bs L S m H R k
    | 17 => n17 bs L S m H R k
    | 18 => n18 bs a b L S m H R k
    | 19 => n19 bs a b L S m H R k
    | 20 => n19 bs a b L S m H R k
    | 21 => n21 bs a L S m H R k
    | 22 => n22 bs a L S m H R k
    | 23 => n23 bs L S m H R k
    | 25 => n25 bs L S m H R k
    | _ => none
section
variable {bs m H R : Nat} {h0 h : pH}
theorem p_in_lt {i : Int32} {n : Nat} (h : p_in i n = true) : i.toNatClampNeg < n := Nat.not_le.mp fun e => (of_decide_eq_true (p := ¬ (i < 0 ∨ n ≤ i.toNatClampNeg)) h) (Or.inr e)
theorem nNew_spec {α : Type} (hs : nSim bs h0 m H R h) {a n : Nat} {L : pL} {S : List Value} {k : nK α} {r : α} (hr : nNew bs a n L S m H R k = some r) : nSim bs h0 (m + 1) H R (h.1 ++ [(a, n)], z2 h.2.1 h.1.length, n2 h.2.2 h.1.length) ∧ k L (.ref h.1.length :: S) (m + 1) H R = some r := by
  unfold nNew at hr
  split at hr
  · rename_i hc
    obtain ⟨c1, c2, c3, c4, c5⟩ := hc
    rw [nSt_eq, nSt_eq] at hr
    rw [nSim_len hs]
    refine ⟨?_, hr⟩
    have := nSim_new hs c1 c4 c5
    rw [c2, c3, nSim_len hs] at this
    exact this
  · cases hr
theorem nop19 {α : Type} (hs : nSim bs h0 m H R h) {a b : Nat} {L : pL} {S : List Value} {k : nK α} {r : α} (hr : n19 bs a b L S m H R k = some r) : ∃ L' S' m' H' R' h', nSim bs h0 m' H' R' h' ∧ o19 a b L S h = some (L', S', h') ∧ k L' S' m' H' R' = some r := by
  unfold n19 at hr
  split at hr
  · obtain ⟨q, rfl, hq, h1, hsh, hk⟩ := nCell_spec hs hr
    split at hk
    · rename_i x S0 hc
      have hj : b < nC q % 256 := hc.2.2.2.1
      rw [nSt_eq] at hk
      refine ⟨L, _, m, _, R, _, nSim_u2 hs hq hj, ?_, hk⟩
      simp only [o19]
      rw [hsh]
      dsimp only
      rw [if_pos ⟨hc.1, hc.2.1, hc.2.2.1, hj, h1, hc.2.2.2.2⟩]
    · cases hk
  · obtain ⟨q, rfl, hq, h1, hsh, hk⟩ := nCell_spec hs hr
    split at hk
    · rename_i v S0 hc
      have hj : b < nC q % 256 := hc.2.2.2.1
      rw [nSt_eq] at hk
      refine ⟨L, _, m, H, _, _, nSim_q2 hs hq hj hc.2.2.2.2.2, ?_, hk⟩
      simp only [o19]
      rw [hsh]
      dsimp only
      rw [if_pos ⟨hc.1, hc.2.1, hc.2.2.1, hj, h1, hc.2.2.2.2.1⟩]
    · cases hk
  · cases hr
/-- an instruction -/
theorem nop_spec {α : Type} (hs : nSim bs h0 m H R h) {o a b : Nat} {z : Int32} {L : pL} {S : List Value} {k : nK α} {r : α} (hr : nop bs o a b z L S m H R k = some r) : ∃ L' S' m' H' R' h', nSim bs h0 m' H' R' h' ∧ p_op o a b z L S h = some (L', S', h') ∧ k L' S' m' H' R' = some r := by
  unfold nop at hr
  split at hr
  · rename_i hhl
    have e := p_op_hl (b := b) (z := z) (L := L) (S := S) (h := h) hhl
    split at hr
    · cases hr
    · rename_i L' S' hd hop
      rw [hop] at e
      refine ⟨L', S', m, H, R, h, hs, e, ?_⟩
      split at hr
      · rw [nL_eq] at hr; exact hr
      · rw [nTop_eq] at hr; exact hr
  · have hbs := hs.1
    split at hr
    · unfold n13 at hr
      split at hr
      · obtain ⟨q, rfl, hq, h1, hsh, hk⟩ := nCell_spec hs hr
        split at hk
        · rename_i hc
          rw [nSt_eq] at hk
          refine ⟨L, _, m, H, R, h, hs, ?_, hk⟩
          have hj := p_in_lt hc.2
          simp only [p_op, o13]
          rw [hsh]
          dsimp only
          rw [if_pos hc, (hs.2.2.2.2.2 q _ hq hj).1]
        · cases hk
      · cases hr
    · unfold n14 at hr
      split at hr
      · obtain ⟨q, rfl, hq, h1, hsh, hk⟩ := nCell_spec hs hr
        split at hk
        · rename_i hc
          rw [nV_eq] at hk
          refine ⟨L, _, m, H, R, h, hs, ?_, hk⟩
          have hj := p_in_lt hc.2
          simp only [p_op, o14]
          rw [hsh]
          dsimp only
          rw [if_pos ⟨hc.1, h1, hc.2⟩, (hs.2.2.2.2.2 q _ hq hj).2]
        · cases hk
      · cases hr
    · unfold n15 at hr
      split at hr
      · obtain ⟨q, rfl, hq, h1, hsh, hk⟩ := nCell_spec hs hr
        split at hk
        · rename_i hc
          rw [nSt_eq] at hk
          have hj := p_in_lt hc.2.1
          refine ⟨L, _, m, _, R, _, nSim_u2 hs hq hj, ?_, hk⟩
          simp only [p_op, o15]
          rw [hsh]
          dsimp only
          rw [if_pos ⟨hc.1, h1, hc.2⟩]
        · cases hk
      · cases hr
    · unfold n16 at hr
      split at hr
      · obtain ⟨q, rfl, hq, h1, hsh, hk⟩ := nCell_spec hs hr
        obtain ⟨q2, rfl, hq2, h12, hsh2, hk⟩ := nCell_spec hs hk
        split at hk
        · rename_i hc
          rw [nSt_eq] at hk
          have hj := p_in_lt hc.2.1
          refine ⟨L, _, m, H, _, _, nSim_q2 hs hq hj hc.2.2.2, ?_, hk⟩
          simp only [p_op, o16]
          rw [hsh, hsh2]
          dsimp only
          rw [if_pos ⟨hc.1, h1, hc.2.1, hc.2.2.1, h12⟩]
        · cases hk
      · cases hr
    · unfold n17 at hr
      split at hr
      · obtain ⟨q, rfl, hq, h1, hsh, hk⟩ := nCell_spec hs hr
        split at hk
        · rename_i S0 hc
          refine ⟨L, _, m, H, R, h, hs, ?_, hk⟩
          simp only [p_op, o17]
          rw [hsh]
          dsimp only
          rw [if_pos hc]
        · cases hk
      · cases hr
    · unfold n18 at hr
      split at hr
      · obtain ⟨q, rfl, hq, h1, hsh, hk⟩ := nCell_spec hs hr
        split at hk
        · rename_i S0 hc
          have hj : b < nC q % 256 := hc.2.2.2
          split at hk
          · rename_i hI
            rw [nSt_eq] at hk
            refine ⟨L, _, m, H, R, h, hs, ?_, hk⟩
            simp only [p_op, o18]
            rw [hsh]
            dsimp only
            rw [if_pos ⟨hc.1, hc.2.1, hc.2.2.1, hj, h1⟩, if_pos hI, (hs.2.2.2.2.2 q _ hq hj).1]
          · rename_i hI
            rw [nV_eq] at hk
            refine ⟨L, _, m, H, R, h, hs, ?_, hk⟩
            simp only [p_op, o18]
            rw [hsh]
            dsimp only
            rw [if_pos ⟨hc.1, hc.2.1, hc.2.2.1, hj, h1⟩, if_neg (by rw [hI]; exact Bool.false_ne_true), (hs.2.2.2.2.2 q _ hq hj).2]
        · cases hk
      · cases hr
    · exact nop19 hs hr
    · exact nop19 hs hr
    · unfold n21 at hr
      split at hr
      · rename_i h6
        obtain ⟨g1, g2⟩ := nNew_spec hs hr
        refine ⟨L, _, _, H, R, _, g1, ?_, g2⟩
        simp only [p_op, o21]
        rw [if_pos ⟨h6, by rw [nSim_len hs]; omega⟩]
      · cases hr
    · unfold n22 at hr
      split at hr
      · split at hr
        · rename_i hc
          obtain ⟨g1, g2⟩ := nNew_spec hs hr
          refine ⟨L, _, _, H, R, _, g1, ?_, g2⟩
          simp only [p_op, o22]
          rw [if_pos ⟨hc.1, hc.2.1, by rw [nSim_len hs]; omega, by omega⟩]
        · cases hr
      · cases hr
    · unfold n23 at hr
      split at hr
      · split at hr
        · rename_i hc
          obtain ⟨g1, g2⟩ := nNew_spec hs hr
          refine ⟨L, _, _, H, R, _, g1, ?_, g2⟩
          simp only [p_op, o23]
          rw [if_pos ⟨hc.1, hc.2, by rw [nSim_len hs]; omega⟩]
        · cases hr
      · cases hr
    · unfold n25 at hr
      split at hr
      · obtain ⟨q, rfl, hq, h1, hsh, hk⟩ := nCell_spec hs hr
        obtain ⟨q2, rfl, hq2, h12, hsh2, hk⟩ := nCell_spec hs hk
        split at hk
        · rename_i n dp sp hc
          obtain ⟨c1, c2, c3, c4, c5, c6, c7⟩ := hc
          subst c3
          subst c4
          rw [nSt_eq] at hk
          refine ⟨L, _, m, _, R, _, nSim_c2 hs hq hq2 c6 c7, ?_, hk⟩
          simp only [p_op, o25]
          rw [hsh, hsh2]
          dsimp only
          rw [if_pos ⟨c1, c2, h1, h12, by decide, by decide, c5, by simpa using c6, by simpa using c7⟩]
          rfl
        · cases hk
      · cases hr
    · cases hr
end

noncomputable def nCall1 (bs m a : Nat) (args : List Value) : Bool := match args with
  | .ref r :: _ => (nCell bs m r (fun _ kd _ => nTab a fun _ _ w => match Nat.beq kd w && Nat.blt kd 6 with
      | true => some ()
      | false => none)).isSome
  | _ => false
noncomputable def nCall (bs m o a : Nat) (args : List Value) : Bool := match o with
  | 40 => true
  | 43 => true
  | 42 => match args with
    | .ref _ :: _ => true
    | _ => false
  | 41 => nCall1 bs m a args
  | 44 => nCall1 bs m a args
  | _ => false
/-- an instruction that goes on, a branch, a call -/
noncomputable def nStep {α : Type} (bs : Nat) (call : Nat → List Value → Nat → Nat → Nat → Option (Option Value × Nat × Nat × Nat)) (o a b : Nat) (z : Int32) (t : List Nat) (i : Nat) (L : pL) (S : List Value) (m H R : Nat) (k : Nat → nK α) : Option α :=
  match Nat.blt o 30 with
  | true => nop bs o a b z L S m H R fun L S m H R => nSt (i + 1) fun i => k i L S m H R
  | false => match Nat.blt o 40 with
    | true => match p_br o a b z t i S with
      | none => none
      | some (i, S) => nSt i fun i => k i L S m H R
    | false => match p_cc o a b S && nCall bs m o a (S.take b).reverse with
      | true => nS (S.take b).reverse fun args => match call a args m H R with
        | none => none
        | some (r, m, H, R) => nDr b S fun T => nSt (i + 1) fun i => match r with
          | none => k i L T m H R
          | some v => k i L (v :: T) m H R
      | false => none
noncomputable def pexN (bs : Nat) : Nat → List pI → Nat → pL → List Value → Nat → Nat → Nat → Option (Option Value × Nat × Nat × Nat)
  | 0, _, _, _, _, _, _, _ => none
  | n + 1, cd, i, L, S, m, H, R => match nth cd i with
    | none => none
    | some (o, a, b, z, t) => match Nat.blt o 50 with
      | true => nStep bs (fun a args m H R => nTab a fun c ml _ => nL (p_e2 args ++ List.replicate (ml - (p_e2 args).length) none) fun L => pexN bs n c 0 L [] m H R) o a b z t i L S m H R fun i L S m H R => pexN bs n cd i L S m H R
      | false => match p_ret o S with
        | none => none
        | some r => some (r, m, H, R)
noncomputable def nrun (bs F stop : Nat) (cd : List pI) : Nat → Nat → pL → List Value → Nat → Nat → Nat → Option (Nat × pL × List Value × Nat × Nat × Nat)
  | 0, _, _, _, _, _, _ => none
  | n + 1, i, L, S, m, H, R => match nth cd i with
    | none => none
    | some (o, a, b, z, t) => match Nat.blt o 50 with
      | true => nStep bs (fun a args m H R => nTab a fun c ml _ => nL (p_e2 args ++ List.replicate (ml - (p_e2 args).length) none) fun L => pexN bs F c 0 L [] m H R) o a b z t i L S m H R fun i L S m H R => match Nat.beq i stop with
        | true => some (i, L, S, m, H, R)
        | false => nrun bs F stop cd n i L S m H R
      | false => none
section
variable {bs m H R : Nat} {h0 h : pH}
theorem nCall1_spec (hs : nSim bs h0 m H R h) {a : Nat} : ∀ {args : List Value}, nCall1 bs m a args = true → ∃ r tl kd n, args = .ref r :: tl ∧ h.1[r]? = some (kd, n) ∧ kd = p_ow a ∧ 1 ≤ r ∧ kd < 6
  | .ref r :: tl, hc => by
    unfold nCall1 at hc
    dsimp only at hc
    cases e : nCell bs m r (fun _ kd _ => nTab a fun _ _ w => match Nat.beq kd w && Nat.blt kd 6 with
        | true => some ()
        | false => none) with
    | none => rw [e] at hc; cases hc
    | some u =>
      obtain ⟨q, hq0, hq, h1, hsh, hk⟩ := nCell_spec hs e
      have hk := nTab_spec hk
      split at hk
      · rename_i hb
        rw [Bool.and_eq_true] at hb
        have h2 : nC q / 256 + 1 ≤ 6 := Nat.le_of_ble_eq_true hb.2
        exact ⟨r, tl, _, _, rfl, hsh, Nat.eq_of_beq_eq_true hb.1, h1, by omega⟩
      · cases hk
  | [], hc => by cases hc
  | .int _ :: _, hc => by cases hc
  | .long _ :: _, hc => by cases hc
  | .float _ :: _, hc => by cases hc
  | .double _ :: _, hc => by cases hc
  | .null :: _, hc => by cases hc
theorem nCall_spec (hs : nSim bs h0 m H R h) {o a : Nat} {args : List Value} (hc : nCall bs m o a args = true) : p_call o a args h = true ∧ ¬ o < 40 ∧ o < 50 := by
  have g : nCall1 bs m a args = true → p_call 41 a args h = true ∧ p_call 44 a args h = true := fun hc => by
    obtain ⟨r, tl, kd, n, rfl, h1, h2, h3, h4⟩ := nCall1_spec hs hc
    have e : (match h.1[r]? with
      | some (kd, _) => kd == p_ow a && (decide (1 ≤ r) && decide (kd < 6))
      | none => false) = true := by
      rw [h1]
      dsimp only
      rw [h2]
      simp only [beq_self_eq_true, Bool.true_and, Bool.and_eq_true, decide_eq_true_eq]
      exact ⟨h3, by omega⟩
    exact ⟨e, e⟩
  unfold nCall at hc
  split at hc
  · exact ⟨rfl, by decide, by decide⟩
  · exact ⟨rfl, by decide, by decide⟩
  · exact ⟨hc, by decide, by decide⟩
  · exact ⟨(g hc).1, by decide, by decide⟩
  · exact ⟨(g hc).2, by decide, by decide⟩
  · cases hc
def nOK (bs : Nat) (h0 : pH) (call : Nat → List Value → Nat → Nat → Nat → Option (Option Value × Nat × Nat × Nat)) : Prop := ∀ (a : Nat) (args : List Value) (m H R : Nat) (h : pH) (r : Option Value) (m' H' R' : Nat), nSim bs h0 m H R h → call a args m H R = some (r, m', H', R') → ∃ h', nSim bs h0 m' H' R' h' ∧ PC a args h r h'
theorem nStep_spec {α : Type} {call : Nat → List Value → Nat → Nat → Nat → Option (Option Value × Nat × Nat × Nat)} (hcall : nOK bs h0 call) (hs : nSim bs h0 m H R h) {cd : List pI} {o a b i : Nat} {z : Int32} {t : List Nat} {L : pL} {S : List Value} (hcd : cd[i]? = some (o, a, b, z, t)) {k : Nat → nK α} {r : α} (hr : nStep bs call o a b z t i L S m H R k = some r) :
    ∃ i' L' S' m' H' R' h', nSim bs h0 m' H' R' h' ∧ k i' L' S' m' H' R' = some r ∧ ∀ Q, PW cd i' L' S' h' Q → PW cd i L S h Q := by
  unfold nStep at hr
  split at hr
  · rename_i ho
    have ho : o + 1 ≤ 30 := Nat.le_of_ble_eq_true ho
    obtain ⟨L', S', m', H', R', h', g1, g2, g3⟩ := nop_spec hs hr
    rw [nSt_eq] at g3
    exact ⟨_, _, _, _, _, _, _, g1, g3, fun Q kk => PW_op hcd (by omega) g2 kk⟩
  · rename_i ho
    have ho : ¬ o < 30 := fun e => by
      have := Nat.ble_eq_true_of_le (show o + 1 ≤ 30 from e)
      rw [show Nat.blt o 30 = Nat.ble (o + 1) 30 from rfl] at ho
      rw [this] at ho
      cases ho
    split at hr
    · rename_i ho2
      have ho2 : o + 1 ≤ 40 := Nat.le_of_ble_eq_true ho2
      split at hr
      · cases hr
      · rename_i i' S' hbr
        rw [nSt_eq] at hr
        exact ⟨_, _, _, _, _, _, _, hs, hr, fun Q kk => PW_br hcd ho (by omega) hbr kk⟩
    · split at hr
      · rename_i hc
        rw [Bool.and_eq_true] at hc
        obtain ⟨c1, c2⟩ := hc
        obtain ⟨c3, c4, c5⟩ := nCall_spec hs c2
        rw [nS_eq] at hr
        split at hr
        · cases hr
        · rename_i r1 m1 H1 R1 hca
          obtain ⟨h1, g1, g2⟩ := hcall _ _ _ _ _ _ _ _ _ _ hs hca
          rw [nDr_eq, nSt_eq] at hr
          have hs2 : (decide (¬ o < 40 ∧ o < 50) && p_cc o a b S) = true := by
            rw [Bool.and_eq_true, decide_eq_true_eq]
            exact ⟨⟨c4, c5⟩, c1⟩
          cases r1 with
          | none => exact ⟨_, _, _, _, _, _, _, g1, hr, fun Q kk => PW_call hcd g2 hs2 c3 rfl rfl kk⟩
          | some v => exact ⟨_, _, _, _, _, _, _, g1, hr, fun Q kk => PW_call hcd g2 hs2 c3 rfl rfl kk⟩
      · cases hr
theorem nOK_of {n : Nat} (IH : ∀ (cd : List pI) (i : Nat) (L : pL) (S : List Value) (m H R : Nat) (h : pH) (r : Option Value) (m' H' R' : Nat), nSim bs h0 m H R h → pexN bs n cd i L S m H R = some (r, m', H', R') → ∃ h', nSim bs h0 m' H' R' h' ∧ PW cd i L S h fun x => x = (r, h')) :
    nOK bs h0 fun a args m H R => nTab a fun c ml _ => nL (p_e2 args ++ List.replicate (ml - (p_e2 args).length) none) fun L => pexN bs n c 0 L [] m H R := by
  intro a args m H R h r m' H' R' hs hca
  have hca := nTab_spec hca
  rw [nL_eq] at hca
  obtain ⟨h', g1, g2⟩ := IH _ _ _ _ _ _ _ _ _ _ _ _ hs hca
  exact ⟨h', g1, PC_of rfl rfl g2⟩
theorem pexN_spec : ∀ (n : Nat) (cd : List pI) (i : Nat) (L : pL) (S : List Value) (m H R : Nat) (h : pH) (r : Option Value) (m' H' R' : Nat), nSim bs h0 m H R h → pexN bs n cd i L S m H R = some (r, m', H', R') → ∃ h', nSim bs h0 m' H' R' h' ∧ PW cd i L S h fun x => x = (r, h')
  | 0, cd, i, L, S, m, H, R, h, r, m', H', R', hs, hr => by cases hr
  | n + 1, cd, i, L, S, m, H, R, h, r, m', H', R', hs, hr => by
    unfold pexN at hr
    split at hr
    · cases hr
    · rename_i o a b z t hcd
      rw [nth_eq] at hcd
      split at hr
      · obtain ⟨i1, L1, S1, m1, H1, R1, h1, g1, g2, g3⟩ := nStep_spec (nOK_of (pexN_spec n)) hs hcd hr
        obtain ⟨h', q1, q2⟩ := pexN_spec n _ _ _ _ _ _ _ _ _ _ _ _ g1 g2
        exact ⟨h', q1, g3 _ q2⟩
      · rename_i ho
        have ho : 50 ≤ o := Nat.not_lt.mp fun e => by
          have := Nat.ble_eq_true_of_le (show o + 1 ≤ 50 from e)
          rw [show Nat.blt o 50 = Nat.ble (o + 1) 50 from rfl, this] at ho
          cases ho
        split at hr
        · cases hr
        · rename_i r0 hret
          cases hr
          exact ⟨h, hs, PW_ret hcd ho hret rfl⟩
theorem nrun_spec {F stop : Nat} {cd : List pI} : ∀ (n i : Nat) (L : pL) (S : List Value) (m H R : Nat) (h : pH) (i' : Nat) (L' : pL) (S' : List Value) (m' H' R' : Nat), nSim bs h0 m H R h → nrun bs F stop cd n i L S m H R = some (i', L', S', m', H', R') → ∃ h', nSim bs h0 m' H' R' h' ∧ ∀ Q, PW cd i' L' S' h' Q → PW cd i L S h Q
  | 0, i, L, S, m, H, R, h, i', L', S', m', H', R', hs, hr => by cases hr
  | n + 1, i, L, S, m, H, R, h, i', L', S', m', H', R', hs, hr => by
    unfold nrun at hr
    split at hr
    · cases hr
    · rename_i o a b z t hcd
      rw [nth_eq] at hcd
      split at hr
      · obtain ⟨i1, L1, S1, m1, H1, R1, h1, g1, g2, g3⟩ := nStep_spec (nOK_of (pexN_spec F)) hs hcd hr
        split at g2
        · cases g2
          exact ⟨h1, g1, g3⟩
        · obtain ⟨h', q1, q2⟩ := nrun_spec n _ _ _ _ _ _ _ _ _ _ _ _ _ g1 g2
          exact ⟨h', q1, fun Q kk => g3 _ (q2 _ kk)⟩
      · cases hr
end
/-- locals by codes: 0 unset, 2x+1 a reference, 2x+2 a small int -/
def nLe : pL → List Nat → Bool
  | [], [] => true
  | none :: L, 0 :: l => nLe L l
  | some (.ref x) :: L, c :: l => Nat.beq (2 * x + 1) c && nLe L l
  | some (.int x) :: L, c :: l => Nat.beq (2 * x.toUInt32.toNat + 2) c && nLe L l
  | _, _ => false
def nLd : List Nat → pL
  | [] => []
  | c :: l => (if c = 0 then none else if c % 2 = 1 then some (.ref (c / 2)) else some (.int (Int32.ofNat (c / 2 - 1)))) :: nLd l
theorem nLd_ref (x : Nat) (l : List Nat) : nLd ((2 * x + 1) :: l) = some (.ref x) :: nLd l := by
  show (if 2 * x + 1 = 0 then none else if (2 * x + 1) % 2 = 1 then some (.ref ((2 * x + 1) / 2)) else some (.int (Int32.ofNat ((2 * x + 1) / 2 - 1)))) :: nLd l = _
  rw [if_neg (by omega), if_pos (by omega), show (2 * x + 1) / 2 = x by omega]
theorem nLe_spec : ∀ (L : pL) (l : List Nat), nLe L l = true → L = nLd l
  | [], [], _ => rfl
  | none :: L, 0 :: l, h => by
    have := nLe_spec L l h
    show _ = none :: nLd l
    rw [this]
  | some (.ref x) :: L, c :: l, h => by
    simp only [nLe, Bool.and_eq_true] at h
    have h1 := Nat.eq_of_beq_eq_true h.1
    have := nLe_spec L l h.2
    subst h1
    rw [this]
    exact (nLd_ref x _).symm
  | some (.int x) :: L, c :: l, h => by
    simp only [nLe, Bool.and_eq_true] at h
    have h1 := Nat.eq_of_beq_eq_true h.1
    have := nLe_spec L l h.2
    subst h1
    show _ = (if 2 * x.toUInt32.toNat + 2 = 0 then none else if (2 * x.toUInt32.toNat + 2) % 2 = 1 then some (.ref ((2 * x.toUInt32.toNat + 2) / 2)) else some (.int (Int32.ofNat ((2 * x.toUInt32.toNat + 2) / 2 - 1)))) :: nLd l
    rw [if_neg (by omega), if_neg (by omega), show (2 * x.toUInt32.toNat + 2) / 2 - 1 = x.toUInt32.toNat by omega, nI32, this]
  | [], _ :: _, h => by simp [nLe] at h
  | none :: _, [], h => by simp [nLe] at h
  | none :: _, (_ + 1) :: _, h => by simp [nLe] at h
  | some _ :: _, [], h => by simp [nLe] at h
  | some (.long _) :: _, _ :: _, h => by simp [nLe] at h
  | some (.float _) :: _, _ :: _, h => by simp [nLe] at h
  | some (.double _) :: _, _ :: _, h => by simp [nLe] at h
  | some .null :: _, _ :: _, h => by simp [nLe] at h
/-- a piece of a run, with an empty stack at both ends -/
noncomputable def nPc (bs stop : Nat) (cd : List pI) (n i : Nat) (l : List Nat) (m H R : Nat) (l' : List Nat) (m' H' R' : Nat) : Bool := nL (nLd l) fun L => match nrun bs 100000 stop cd n i L [] m H R with
  | some (i1, L1, [], m1, H1, R1) => Nat.beq i1 stop && (nLe L1 l' && (Nat.beq m1 m' && (Nat.beq H1 H' && Nat.beq R1 R')))
  | _ => false
theorem nPc_spec {bs m H R stop n i m' H' R' : Nat} {h0 h : pH} {cd : List pI} {l l' : List Nat} (hs : nSim bs h0 m H R h) (hp : nPc bs stop cd n i l m H R l' m' H' R' = true) : ∃ h', nSim bs h0 m' H' R' h' ∧ ∀ Q, PW cd stop (nLd l') [] h' Q → PW cd i (nLd l) [] h Q := by
  unfold nPc at hp
  rw [nL_eq] at hp
  split at hp
  · rename_i i1 L1 m1 H1 R1 e
    simp only [Bool.and_eq_true] at hp
    obtain ⟨p1, p2, p3, p4, p5⟩ := hp
    have p1 := Nat.eq_of_beq_eq_true p1
    have p2 := nLe_spec _ _ p2
    have p3 := Nat.eq_of_beq_eq_true p3
    have p4 := Nat.eq_of_beq_eq_true p4
    have p5 := Nat.eq_of_beq_eq_true p5
    subst p1 p2 p3 p4 p5
    exact nrun_spec _ _ _ _ _ _ _ _ _ _ _ _ _ _ hs e
  · cases hp

