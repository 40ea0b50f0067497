/-! further checks -/
theorem p_ckl_99_0 : p_ckr 99 0 40 = true := by decide +kernel
theorem p_ckl_99_40 : p_ckr 99 40 40 = true := by decide +kernel
theorem p_ckl_99_80 : p_ckr 99 80 40 = true := by decide +kernel
theorem p_ckl_99_120 : p_ckr 99 120 40 = true := by decide +kernel
theorem p_ckl_99_160 : p_ckr 99 160 40 = true := by decide +kernel
theorem p_len_99 : (p_cd 99).length = 168 := by decide +kernel
theorem p_ckb_99 {i o a b : Nat} {z : Int32} {t : List Nat} (hc : (p_cd 99)[i]? = some (o, a, b, z, t)) : p_ck 99 i o a b z t = true := by
  have hi : i < 168 := by rw [← p_len_99]; exact (List.getElem?_eq_some_iff.mp hc).1
  rcases (show (0 ≤ i ∧ i < 40) ∨ (40 ≤ i ∧ i < 80) ∨ (80 ≤ i ∧ i < 120) ∨ (120 ≤ i ∧ i < 160) ∨ (160 ≤ i ∧ i < 200) by omega) with q | q | q | q | q
  · exact p_ckr_at p_ckl_99_0 (by omega) (by omega) hc
  · exact p_ckr_at p_ckl_99_40 (by omega) (by omega) hc
  · exact p_ckr_at p_ckl_99_80 (by omega) (by omega) hc
  · exact p_ckr_at p_ckl_99_120 (by omega) (by omega) hc
  · exact p_ckr_at p_ckl_99_160 (by omega) (by omega) hc
theorem p_ckl_100_0 : p_ckr 100 0 40 = true := by decide +kernel
theorem p_ckl_100_40 : p_ckr 100 40 40 = true := by decide +kernel
theorem p_ckl_100_80 : p_ckr 100 80 40 = true := by decide +kernel
theorem p_ckl_100_120 : p_ckr 100 120 40 = true := by decide +kernel
theorem p_ckl_100_160 : p_ckr 100 160 40 = true := by decide +kernel
theorem p_ckl_100_200 : p_ckr 100 200 40 = true := by decide +kernel
theorem p_ckl_100_240 : p_ckr 100 240 40 = true := by decide +kernel
theorem p_len_100 : (p_cd 100).length = 250 := by decide +kernel
theorem p_ckb_100 {i o a b : Nat} {z : Int32} {t : List Nat} (hc : (p_cd 100)[i]? = some (o, a, b, z, t)) : p_ck 100 i o a b z t = true := by
  have hi : i < 250 := by rw [← p_len_100]; exact (List.getElem?_eq_some_iff.mp hc).1
  rcases (show (0 ≤ i ∧ i < 40) ∨ (40 ≤ i ∧ i < 80) ∨ (80 ≤ i ∧ i < 120) ∨ (120 ≤ i ∧ i < 160) ∨ (160 ≤ i ∧ i < 200) ∨ (200 ≤ i ∧ i < 240) ∨ (240 ≤ i ∧ i < 280) by omega) with q | q | q | q | q | q | q
  · exact p_ckr_at p_ckl_100_0 (by omega) (by omega) hc
  · exact p_ckr_at p_ckl_100_40 (by omega) (by omega) hc
  · exact p_ckr_at p_ckl_100_80 (by omega) (by omega) hc
  · exact p_ckr_at p_ckl_100_120 (by omega) (by omega) hc
  · exact p_ckr_at p_ckl_100_160 (by omega) (by omega) hc
  · exact p_ckr_at p_ckl_100_200 (by omega) (by omega) hc
  · exact p_ckr_at p_ckl_100_240 (by omega) (by omega) hc
theorem p_ckl_103_0 : p_ckr 103 0 40 = true := by decide +kernel
theorem p_ckl_103_40 : p_ckr 103 40 40 = true := by decide +kernel
theorem p_ckl_103_80 : p_ckr 103 80 40 = true := by decide +kernel
theorem p_ckl_103_120 : p_ckr 103 120 40 = true := by decide +kernel
theorem p_ckl_103_160 : p_ckr 103 160 40 = true := by decide +kernel
theorem p_ckl_103_200 : p_ckr 103 200 40 = true := by decide +kernel
theorem p_ckl_103_240 : p_ckr 103 240 40 = true := by decide +kernel
theorem p_ckl_103_280 : p_ckr 103 280 40 = true := by decide +kernel
theorem p_len_103 : (p_cd 103).length = 302 := by decide +kernel
theorem p_ckb_103 {i o a b : Nat} {z : Int32} {t : List Nat} (hc : (p_cd 103)[i]? = some (o, a, b, z, t)) : p_ck 103 i o a b z t = true := by
  have hi : i < 302 := by rw [← p_len_103]; exact (List.getElem?_eq_some_iff.mp hc).1
  rcases (show (0 ≤ i ∧ i < 40) ∨ (40 ≤ i ∧ i < 80) ∨ (80 ≤ i ∧ i < 120) ∨ (120 ≤ i ∧ i < 160) ∨ (160 ≤ i ∧ i < 200) ∨ (200 ≤ i ∧ i < 240) ∨ (240 ≤ i ∧ i < 280) ∨ (280 ≤ i ∧ i < 320) by omega) with q | q | q | q | q | q | q | q
  · exact p_ckr_at p_ckl_103_0 (by omega) (by omega) hc
  · exact p_ckr_at p_ckl_103_40 (by omega) (by omega) hc
  · exact p_ckr_at p_ckl_103_80 (by omega) (by omega) hc
  · exact p_ckr_at p_ckl_103_120 (by omega) (by omega) hc
  · exact p_ckr_at p_ckl_103_160 (by omega) (by omega) hc
  · exact p_ckr_at p_ckl_103_200 (by omega) (by omega) hc
  · exact p_ckr_at p_ckl_103_240 (by omega) (by omega) hc
  · exact p_ckr_at p_ckl_103_280 (by omega) (by omega) hc
