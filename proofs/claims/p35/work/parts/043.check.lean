/-! further checks -/
theorem p_ckl_105_0 : p_ckr 105 0 40 = true := by decide +kernel
theorem p_ckl_105_40 : p_ckr 105 40 40 = true := by decide +kernel
theorem p_ckl_105_80 : p_ckr 105 80 40 = true := by decide +kernel
theorem p_ckl_105_120 : p_ckr 105 120 40 = true := by decide +kernel
theorem p_ckl_105_160 : p_ckr 105 160 40 = true := by decide +kernel
theorem p_ckl_105_200 : p_ckr 105 200 40 = true := by decide +kernel
theorem p_ckl_105_240 : p_ckr 105 240 40 = true := by decide +kernel
theorem p_ckl_105_280 : p_ckr 105 280 40 = true := by decide +kernel
theorem p_ckl_105_320 : p_ckr 105 320 40 = true := by decide +kernel
theorem p_ckl_105_360 : p_ckr 105 360 40 = true := by decide +kernel
theorem p_ckl_105_400 : p_ckr 105 400 40 = true := by decide +kernel
theorem p_len_105 : (p_cd 105).length = 411 := by decide +kernel
theorem p_ckb_105 {i o a b : Nat} {z : Int32} {t : List Nat} (hc : (p_cd 105)[i]? = some (o, a, b, z, t)) : p_ck 105 i o a b z t = true := by
  have hi : i < 411 := by rw [← p_len_105]; exact (List.getElem?_eq_some_iff.mp hc).1
  rcases (show (0 ≤ i ∧ i < 40) ∨ (40 ≤ i ∧ i < 80) ∨ (80 ≤ i ∧ i < 120) ∨ (120 ≤ i ∧ i < 160) ∨ (160 ≤ i ∧ i < 200) ∨ (200 ≤ i ∧ i < 240) ∨ (240 ≤ i ∧ i < 280) ∨ (280 ≤ i ∧ i < 320) ∨ (320 ≤ i ∧ i < 360) ∨ (360 ≤ i ∧ i < 400) ∨ (400 ≤ i ∧ i < 440) by omega) with q | q | q | q | q | q | q | q | q | q | q
  · exact p_ckr_at p_ckl_105_0 (by omega) (by omega) hc
  · exact p_ckr_at p_ckl_105_40 (by omega) (by omega) hc
  · exact p_ckr_at p_ckl_105_80 (by omega) (by omega) hc
  · exact p_ckr_at p_ckl_105_120 (by omega) (by omega) hc
  · exact p_ckr_at p_ckl_105_160 (by omega) (by omega) hc
  · exact p_ckr_at p_ckl_105_200 (by omega) (by omega) hc
  · exact p_ckr_at p_ckl_105_240 (by omega) (by omega) hc
  · exact p_ckr_at p_ckl_105_280 (by omega) (by omega) hc
  · exact p_ckr_at p_ckl_105_320 (by omega) (by omega) hc
  · exact p_ckr_at p_ckl_105_360 (by omega) (by omega) hc
  · exact p_ckr_at p_ckl_105_400 (by omega) (by omega) hc
theorem p_ck_at {k i : Nat} (hk : k < 106) {o a b : Nat} {z : Int32} {t : List Nat} (h : (p_cd k)[i]? = some (o, a, b, z, t)) : p_ck k i o a b z t = true := by
  have g : ∀ a n, (List.range' a n).all p_cka = true → a ≤ k → k < a + n → p_cka k = true := fun a n e h1 h2 => List.all_eq_true.mp e k (List.mem_range'.mpr ⟨k - a, by omega, by omega⟩)
  have g2 : p_cka k = true → p_ck k i o a b z t = true := fun e => List.all_eq_true.mp e ((o, a, b, z, t), i) (List.mem_zipIdx_iff_getElem?.mpr h)
  rcases (show (0 ≤ k ∧ k < 20) ∨ (20 ≤ k ∧ k < 40) ∨ (40 ≤ k ∧ k < 60) ∨ (60 ≤ k ∧ k < 80) ∨ (80 ≤ k ∧ k < 99) ∨ (101 ≤ k ∧ k < 103) ∨ k = 99 ∨ k = 100 ∨ k = 103 ∨ k = 104 ∨ k = 105 by omega) with q | q | q | q | q | q | rfl | rfl | rfl | rfl | rfl
  · exact g2 (g 0 20 p_ck0 (by omega) (by omega))
  · exact g2 (g 20 20 p_ck20 (by omega) (by omega))
  · exact g2 (g 40 20 p_ck40 (by omega) (by omega))
  · exact g2 (g 60 20 p_ck60 (by omega) (by omega))
  · exact g2 (g 80 19 p_ck80 (by omega) (by omega))
  · exact g2 (g 101 2 p_ck101 (by omega) (by omega))
  · exact p_ckb_99 h
  · exact p_ckb_100 h
  · exact p_ckb_103 h
  · exact p_ckb_104 h
  · exact p_ckb_105 h
