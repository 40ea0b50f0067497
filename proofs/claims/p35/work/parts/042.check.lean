/-! further checks -/
theorem p_ckl_104_0 : p_ckr 104 0 40 = true := by decide +kernel
theorem p_ckl_104_40 : p_ckr 104 40 40 = true := by decide +kernel
theorem p_ckl_104_80 : p_ckr 104 80 40 = true := by decide +kernel
theorem p_ckl_104_120 : p_ckr 104 120 40 = true := by decide +kernel
theorem p_ckl_104_160 : p_ckr 104 160 40 = true := by decide +kernel
theorem p_ckl_104_200 : p_ckr 104 200 40 = true := by decide +kernel
theorem p_ckl_104_240 : p_ckr 104 240 40 = true := by decide +kernel
theorem p_ckl_104_280 : p_ckr 104 280 40 = true := by decide +kernel
theorem p_ckl_104_320 : p_ckr 104 320 40 = true := by decide +kernel
theorem p_ckl_104_360 : p_ckr 104 360 40 = true := by decide +kernel
theorem p_ckl_104_400 : p_ckr 104 400 40 = true := by decide +kernel
theorem p_ckl_104_440 : p_ckr 104 440 40 = true := by decide +kernel
theorem p_ckl_104_480 : p_ckr 104 480 40 = true := by decide +kernel
theorem p_ckl_104_520 : p_ckr 104 520 40 = true := by decide +kernel
theorem p_ckl_104_560 : p_ckr 104 560 40 = true := by decide +kernel
theorem p_ckl_104_600 : p_ckr 104 600 40 = true := by decide +kernel
theorem p_ckl_104_640 : p_ckr 104 640 40 = true := by decide +kernel
theorem p_ckl_104_680 : p_ckr 104 680 40 = true := by decide +kernel
theorem p_ckl_104_720 : p_ckr 104 720 40 = true := by decide +kernel
theorem p_len_104 : (p_cd 104).length = 739 := by decide +kernel
theorem p_ckb_104 {i o a b : Nat} {z : Int32} {t : List Nat} (hc : (p_cd 104)[i]? = some (o, a, b, z, t)) : p_ck 104 i o a b z t = true := by
  have hi : i < 739 := by rw [← p_len_104]; exact (List.getElem?_eq_some_iff.mp hc).1
  rcases (show (0 ≤ i ∧ i < 40) ∨ (40 ≤ i ∧ i < 80) ∨ (80 ≤ i ∧ i < 120) ∨ (120 ≤ i ∧ i < 160) ∨ (160 ≤ i ∧ i < 200) ∨ (200 ≤ i ∧ i < 240) ∨ (240 ≤ i ∧ i < 280) ∨ (280 ≤ i ∧ i < 320) ∨ (320 ≤ i ∧ i < 360) ∨ (360 ≤ i ∧ i < 400) ∨ (400 ≤ i ∧ i < 440) ∨ (440 ≤ i ∧ i < 480) ∨ (480 ≤ i ∧ i < 520) ∨ (520 ≤ i ∧ i < 560) ∨ (560 ≤ i ∧ i < 600) ∨ (600 ≤ i ∧ i < 640) ∨ (640 ≤ i ∧ i < 680) ∨ (680 ≤ i ∧ i < 720) ∨ (720 ≤ i ∧ i < 760) by omega) with q | q | q | q | q | q | q | q | q | q | q | q | q | q | q | q | q | q | q
  · exact p_ckr_at p_ckl_104_0 (by omega) (by omega) hc
  · exact p_ckr_at p_ckl_104_40 (by omega) (by omega) hc
  · exact p_ckr_at p_ckl_104_80 (by omega) (by omega) hc
  · exact p_ckr_at p_ckl_104_120 (by omega) (by omega) hc
  · exact p_ckr_at p_ckl_104_160 (by omega) (by omega) hc
  · exact p_ckr_at p_ckl_104_200 (by omega) (by omega) hc
  · exact p_ckr_at p_ckl_104_240 (by omega) (by omega) hc
  · exact p_ckr_at p_ckl_104_280 (by omega) (by omega) hc
  · exact p_ckr_at p_ckl_104_320 (by omega) (by omega) hc
  · exact p_ckr_at p_ckl_104_360 (by omega) (by omega) hc
  · exact p_ckr_at p_ckl_104_400 (by omega) (by omega) hc
  · exact p_ckr_at p_ckl_104_440 (by omega) (by omega) hc
  · exact p_ckr_at p_ckl_104_480 (by omega) (by omega) hc
  · exact p_ckr_at p_ckl_104_520 (by omega) (by omega) hc
  · exact p_ckr_at p_ckl_104_560 (by omega) (by omega) hc
  · exact p_ckr_at p_ckl_104_600 (by omega) (by omega) hc
  · exact p_ckr_at p_ckl_104_640 (by omega) (by omega) hc
  · exact p_ckr_at p_ckl_104_680 (by omega) (by omega) hc
  · exact p_ckr_at p_ckl_104_720 (by omega) (by omega) hc
