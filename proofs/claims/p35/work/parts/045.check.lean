/-! the methods' words in the tables -/
theorem p_FL_ok : ∀ q ∈ p_FL, q.2.2.1 < 6 ∧ q.2.2.2.1 < p_N q.2.2.1 ∧ lw_tbl[q.2.2.2.2]? = some (.fieldLink (p_cn q.1) q.2.1 (p_cn q.2.2.1) (p_T q.2.2.1 q.2.2.2.1).2.1 (p_T q.2.2.1 q.2.2.2.1).2.2.1) := by decide +kernel
theorem p_ML_ok : ∀ q ∈ p_ML, q.2.2.1 < 105 ∧ ((q.2.2.2.1 = 0 ∧ lw_tbl[q.2.2.2.2]? = some (.methodLink (p_cn q.1) q.2.1 (p_y q.2.2.1))) ∨ (q.2.2.2.1 = 1 ∧ lw_tbl[q.2.2.2.2]? = some (.methodLinkNest (p_cn q.1) q.2.1 (p_y q.2.2.1) "InterlockBoard"))) := by decide +kernel
theorem p_NL_ok : ∀ q ∈ p_NL, lw_tbl[q.2.2.2]? = some (.classLink (p_cn q.1) q.2.1 (p_cn q.2.2.1)) := by decide +kernel
theorem p_KL_ok : ∀ q ∈ p_KL, lw_tbl[q.2.2.2]? = some (.methodLink (p_cn q.1) q.2.1 (if q.2.2.1 = 26 then Lib.Math.max.name else Lib.Math.min.name)) := by decide +kernel
theorem p_OL_ok : ∀ q ∈ p_OL, lw_tbl[q.2.2]? = some (.methodLink (p_cn q.1) q.2.1 objectInit) := by decide +kernel
theorem p_mok_0 : (List.range' 0 15).all p_mok = true := by decide +kernel
theorem p_mok_15 : (List.range' 15 15).all p_mok = true := by decide +kernel
theorem p_mok_30 : (List.range' 30 15).all p_mok = true := by decide +kernel
theorem p_mok_45 : (List.range' 45 15).all p_mok = true := by decide +kernel
theorem p_mok_60 : (List.range' 60 15).all p_mok = true := by decide +kernel
theorem p_mok_75 : (List.range' 75 15).all p_mok = true := by decide +kernel
theorem p_mok_90 : (List.range' 90 5).all p_mok = true := by decide +kernel
theorem p_mok1_95 : p_mok 95 = true := by decide +kernel
theorem p_mok1_96 : p_mok 96 = true := by decide +kernel
theorem p_mok1_97 : p_mok 97 = true := by decide +kernel
theorem p_mok1_98 : p_mok 98 = true := by decide +kernel
theorem p_mok1_99 : p_mok 99 = true := by decide +kernel
theorem p_mok1_100 : p_mok 100 = true := by decide +kernel
theorem p_mok1_101 : p_mok 101 = true := by decide +kernel
theorem p_mok1_102 : p_mok 102 = true := by decide +kernel
theorem p_mok1_103 : p_mok 103 = true := by decide +kernel
theorem p_mok_all : ∀ k, k < 105 → p_mok k = true := by
  intro k hk
  have g : ∀ a n, (List.range' a n).all p_mok = true → a ≤ k → k < a + n → p_mok k = true := fun a n e h1 h2 => List.all_eq_true.mp e k (List.mem_range'.mpr ⟨k - a, by omega, by omega⟩)
  rcases (show (0 ≤ k ∧ k < 15) ∨ (15 ≤ k ∧ k < 30) ∨ (30 ≤ k ∧ k < 45) ∨ (45 ≤ k ∧ k < 60) ∨ (60 ≤ k ∧ k < 75) ∨ (75 ≤ k ∧ k < 90) ∨ (90 ≤ k ∧ k < 95) ∨ k = 95 ∨ k = 96 ∨ k = 97 ∨ k = 98 ∨ k = 99 ∨ k = 100 ∨ k = 101 ∨ k = 102 ∨ k = 103 ∨ k = 104 by omega) with q | q | q | q | q | q | q | rfl | rfl | rfl | rfl | rfl | rfl | rfl | rfl | rfl | rfl
  · exact g 0 15 p_mok_0 (by omega) (by omega)
  · exact g 15 15 p_mok_15 (by omega) (by omega)
  · exact g 30 15 p_mok_30 (by omega) (by omega)
  · exact g 45 15 p_mok_45 (by omega) (by omega)
  · exact g 60 15 p_mok_60 (by omega) (by omega)
  · exact g 75 15 p_mok_75 (by omega) (by omega)
  · exact g 90 5 p_mok_90 (by omega) (by omega)
  · exact p_mok1_95
  · exact p_mok1_96
  · exact p_mok1_97
  · exact p_mok1_98
  · exact p_mok1_99
  · exact p_mok1_100
  · exact p_mok1_101
  · exact p_mok1_102
  · exact p_mok1_103
  · exact p_mok1_104
theorem p_ini : ∀ o, o < 9 → lw_tbl[[12, 13, 11, 14, 10, 12, 9, 15, 16].getD o 0]? = some (.initialized (p_cn o)) := by decide +kernel
theorem p_ins : ∀ o, o < 6 → lw_tbl[[33, 92, 27, 148, 19, 33].getD o 0]? = some (.instantiable (p_cn o) (p_N o)) := by decide +kernel
theorem p_lay : ∀ a, a < 6 → ∀ w ∈ u_ws (p_cn a) (p_T a) (p_N a), w ∈ lw_tbl := by decide +kernel
theorem p_tyok : ∀ a, a < 6 → ∀ j, j < p_N a → parseFieldDescriptor (p_T a j).2.2.1 = some (p_ty a j) := by decide +kernel
theorem p_nm : ∀ a, a < 6 → ∀ x, x < p_N a → ∀ y, y < p_N a → x ≠ y → (p_T a x).2.1 ≠ (p_T a y).2.1 := by decide +kernel
theorem p_own : ∀ a, a < 6 → ∀ j, j < p_N a → (p_T a j).1 = p_cn a := by decide +kernel
theorem p_cls : ∀ a, a < 6 → p_cl[a]? = some (p_cn a, p_T a, p_N a) := fun a h => match a, h with
  | 0, _ => rfl
  | 1, _ => rfl
  | 2, _ => rfl
  | 3, _ => rfl
  | 4, _ => rfl
  | 5, _ => rfl
  | n + 6, h => absurd h (by omega)
/-- the good ones of the tables' words: they hold wherever they held -/
def p_G : List Cond := lw_tbl.filter goodWord
theorem p_GG : GoodIn p_G p_G := fun w h => ⟨h, good_of_word (List.mem_filter.mp h).2⟩
theorem p_Gm {i : Nat} {w : Cond} (h : lw_tbl[i]? = some w) (hg : goodWord w = true) : w ∈ p_G := List.mem_filter.mpr ⟨List.mem_of_getElem? h, hg⟩
