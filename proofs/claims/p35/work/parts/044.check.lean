/-! the methods' words in the tables -/
def p_mok (k : Nat) : Bool := decide (lw_tbl[p_wc k]? = some (.code (p_y k) (p_by k) (p_ml k) (p_rt k))) &&
  (match p_kd k with
    | 0 => decide (lw_tbl[p_wi k]? = some (.static (p_y k)))
    | 1 => decide (lw_tbl[p_wi k]? = some (.instanceMethod (p_y k))) && decide (lw_tbl[p_wl k]? = some (.selects (p_cn (p_ow k)) (p_y k) (p_y k)))
    | 2 => decide (lw_tbl[p_wi k]? = some (.instanceMethod (p_y k))) && decide ((p_y k).name = "<init>") && decide (p_rt k = none)
    | _ => false) &&
  decide ((p_y k).cls = p_cn (p_ow k)) && decide ((p_y k).cls ≠ "java/lang/invoke/MethodHandle") && decide ((p_y k).cls ≠ "java/lang/invoke/VarHandle") &&
  decide ((parseMethodDescriptor (p_y k).desc).map (fun d => d.parameters.length) = some (p_na k - (if p_kd k = 0 then 0 else 1))) && plainName (p_y k).cls && decide (p_na k ≤ p_ml k) && decide (p_kd k = 0 ∨ 1 ≤ p_na k) && decide (p_ow k < 9)
set_option maxRecDepth 100000 in
theorem p_a104 : lw_tbl[p_wc 104]? = some (.code (p_y 104) (p_by 104) (p_ml 104) (p_rt 104)) := by rfl
theorem p_mok1_104 : p_mok 104 = true := by
  unfold p_mok
  rw [decide_eq_true p_a104]
  decide +kernel
