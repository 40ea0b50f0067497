/-- the script alone -/
def p_h0 (L : Nat) (xs : Nat → Int32) : pH := ([(10, L)], fun k j => if k = 0 then xs j else 0, fun _ _ => none)
/-- the law, in the pure machine, answers 1 on every script of at most 260 ints -/
def p_claim : Prop := ∀ (L : Nat) (xs : Nat → Int32), L ≤ 260 → ∃ (n : Nat) (h' : pH), pex n (p_cd 105) 0 (p_ent 105 [.ref 0]) [] (p_h0 L xs) = some (some (.int 1), h') ∧ h'.1.length ≤ 600000 ∧ p_sl h' ≤ 7302250
