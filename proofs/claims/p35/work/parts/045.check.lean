/-! the methods' words in the tables -/
theorem p_FL_ok : ∀ q ∈ p_FL, q.2.2.1 < 6 ∧ q.2.2.2.1 < p_N q.2.2.1 ∧ lw_tbl[q.2.2.2.2]? = some (.fieldLink (p_cn q.1) q.2.1 (p_cn q.2.2.1) (p_T q.2.2.1 q.2.2.2.1).2.1 (p_T q.2.2.1 q.2.2.2.1).2.2.1) := by decide +kernel
theorem p_ML_ok : ∀ q ∈ p_ML, q.2.2.1 < 105 ∧ ((q.2.2.2.1 = 0 ∧ lw_tbl[q.2.2.2.2]? = some (.methodLink (p_cn q.1) q.2.1 (p_y q.2.2.1))) ∨ (q.2.2.2.1 = 1 ∧ lw_tbl[q.2.2.2.2]? = some (.methodLinkNest (p_cn q.1) q.2.1 (p_y q.2.2.1) "InterlockBoard"))) := by decide +kernel
theorem p_NL_ok : ∀ q ∈ p_NL, lw_tbl[q.2.2.2]? = some (.classLink (p_cn q.1) q.2.1 (p_cn q.2.2.1)) := by decide +kernel
theorem p_KL_ok : ∀ q ∈ p_KL, lw_tbl[q.2.2.2]? = some (.methodLink (p_cn q.1) q.2.1 (if q.2.2.1 = 26 then Lib.Math.max.name else Lib.Math.min.name)) := by decide +kernel
theorem p_OL_ok : ∀ q ∈ p_OL, lw_tbl[q.2.2]? = some (.methodLink (p_cn q.1) q.2.1 objectInit) := by decide +kernel
set_option maxRecDepth 100000 in
theorem p_a0 : lw_tbl[p_wc 0]? = some (.code (p_y 0) (p_by 0) (p_ml 0) (p_rt 0)) := by rfl
theorem p_mok1_0 : p_mok 0 = true := by
  unfold p_mok
  rw [decide_eq_true p_a0]
  decide +kernel
set_option maxRecDepth 100000 in
theorem p_a1 : lw_tbl[p_wc 1]? = some (.code (p_y 1) (p_by 1) (p_ml 1) (p_rt 1)) := by rfl
theorem p_mok1_1 : p_mok 1 = true := by
  unfold p_mok
  rw [decide_eq_true p_a1]
  decide +kernel
set_option maxRecDepth 100000 in
theorem p_a2 : lw_tbl[p_wc 2]? = some (.code (p_y 2) (p_by 2) (p_ml 2) (p_rt 2)) := by rfl
theorem p_mok1_2 : p_mok 2 = true := by
  unfold p_mok
  rw [decide_eq_true p_a2]
  decide +kernel
set_option maxRecDepth 100000 in
theorem p_a3 : lw_tbl[p_wc 3]? = some (.code (p_y 3) (p_by 3) (p_ml 3) (p_rt 3)) := by rfl
theorem p_mok1_3 : p_mok 3 = true := by
  unfold p_mok
  rw [decide_eq_true p_a3]
  decide +kernel
set_option maxRecDepth 100000 in
theorem p_a4 : lw_tbl[p_wc 4]? = some (.code (p_y 4) (p_by 4) (p_ml 4) (p_rt 4)) := by rfl
theorem p_mok1_4 : p_mok 4 = true := by
  unfold p_mok
  rw [decide_eq_true p_a4]
  decide +kernel
set_option maxRecDepth 100000 in
theorem p_a5 : lw_tbl[p_wc 5]? = some (.code (p_y 5) (p_by 5) (p_ml 5) (p_rt 5)) := by rfl
theorem p_mok1_5 : p_mok 5 = true := by
  unfold p_mok
  rw [decide_eq_true p_a5]
  decide +kernel
set_option maxRecDepth 100000 in
theorem p_a6 : lw_tbl[p_wc 6]? = some (.code (p_y 6) (p_by 6) (p_ml 6) (p_rt 6)) := by rfl
theorem p_mok1_6 : p_mok 6 = true := by
  unfold p_mok
  rw [decide_eq_true p_a6]
  decide +kernel
set_option maxRecDepth 100000 in
theorem p_a7 : lw_tbl[p_wc 7]? = some (.code (p_y 7) (p_by 7) (p_ml 7) (p_rt 7)) := by rfl
theorem p_mok1_7 : p_mok 7 = true := by
  unfold p_mok
  rw [decide_eq_true p_a7]
  decide +kernel
set_option maxRecDepth 100000 in
theorem p_a8 : lw_tbl[p_wc 8]? = some (.code (p_y 8) (p_by 8) (p_ml 8) (p_rt 8)) := by rfl
theorem p_mok1_8 : p_mok 8 = true := by
  unfold p_mok
  rw [decide_eq_true p_a8]
  decide +kernel
set_option maxRecDepth 100000 in
theorem p_a9 : lw_tbl[p_wc 9]? = some (.code (p_y 9) (p_by 9) (p_ml 9) (p_rt 9)) := by rfl
theorem p_mok1_9 : p_mok 9 = true := by
  unfold p_mok
  rw [decide_eq_true p_a9]
  decide +kernel
set_option maxRecDepth 100000 in
theorem p_a10 : lw_tbl[p_wc 10]? = some (.code (p_y 10) (p_by 10) (p_ml 10) (p_rt 10)) := by rfl
theorem p_mok1_10 : p_mok 10 = true := by
  unfold p_mok
  rw [decide_eq_true p_a10]
  decide +kernel
set_option maxRecDepth 100000 in
theorem p_a11 : lw_tbl[p_wc 11]? = some (.code (p_y 11) (p_by 11) (p_ml 11) (p_rt 11)) := by rfl
theorem p_mok1_11 : p_mok 11 = true := by
  unfold p_mok
  rw [decide_eq_true p_a11]
  decide +kernel
set_option maxRecDepth 100000 in
theorem p_a12 : lw_tbl[p_wc 12]? = some (.code (p_y 12) (p_by 12) (p_ml 12) (p_rt 12)) := by rfl
theorem p_mok1_12 : p_mok 12 = true := by
  unfold p_mok
  rw [decide_eq_true p_a12]
  decide +kernel
set_option maxRecDepth 100000 in
theorem p_a13 : lw_tbl[p_wc 13]? = some (.code (p_y 13) (p_by 13) (p_ml 13) (p_rt 13)) := by rfl
theorem p_mok1_13 : p_mok 13 = true := by
  unfold p_mok
  rw [decide_eq_true p_a13]
  decide +kernel
set_option maxRecDepth 100000 in
theorem p_a14 : lw_tbl[p_wc 14]? = some (.code (p_y 14) (p_by 14) (p_ml 14) (p_rt 14)) := by rfl
theorem p_mok1_14 : p_mok 14 = true := by
  unfold p_mok
  rw [decide_eq_true p_a14]
  decide +kernel
set_option maxRecDepth 100000 in
theorem p_a15 : lw_tbl[p_wc 15]? = some (.code (p_y 15) (p_by 15) (p_ml 15) (p_rt 15)) := by rfl
theorem p_mok1_15 : p_mok 15 = true := by
  unfold p_mok
  rw [decide_eq_true p_a15]
  decide +kernel
set_option maxRecDepth 100000 in
theorem p_a16 : lw_tbl[p_wc 16]? = some (.code (p_y 16) (p_by 16) (p_ml 16) (p_rt 16)) := by rfl
theorem p_mok1_16 : p_mok 16 = true := by
  unfold p_mok
  rw [decide_eq_true p_a16]
  decide +kernel
set_option maxRecDepth 100000 in
theorem p_a17 : lw_tbl[p_wc 17]? = some (.code (p_y 17) (p_by 17) (p_ml 17) (p_rt 17)) := by rfl
theorem p_mok1_17 : p_mok 17 = true := by
  unfold p_mok
  rw [decide_eq_true p_a17]
  decide +kernel
set_option maxRecDepth 100000 in
theorem p_a18 : lw_tbl[p_wc 18]? = some (.code (p_y 18) (p_by 18) (p_ml 18) (p_rt 18)) := by rfl
theorem p_mok1_18 : p_mok 18 = true := by
  unfold p_mok
  rw [decide_eq_true p_a18]
  decide +kernel
set_option maxRecDepth 100000 in
theorem p_a19 : lw_tbl[p_wc 19]? = some (.code (p_y 19) (p_by 19) (p_ml 19) (p_rt 19)) := by rfl
theorem p_mok1_19 : p_mok 19 = true := by
  unfold p_mok
  rw [decide_eq_true p_a19]
  decide +kernel
set_option maxRecDepth 100000 in
theorem p_a20 : lw_tbl[p_wc 20]? = some (.code (p_y 20) (p_by 20) (p_ml 20) (p_rt 20)) := by rfl
theorem p_mok1_20 : p_mok 20 = true := by
  unfold p_mok
  rw [decide_eq_true p_a20]
  decide +kernel
set_option maxRecDepth 100000 in
theorem p_a21 : lw_tbl[p_wc 21]? = some (.code (p_y 21) (p_by 21) (p_ml 21) (p_rt 21)) := by rfl
theorem p_mok1_21 : p_mok 21 = true := by
  unfold p_mok
  rw [decide_eq_true p_a21]
  decide +kernel
set_option maxRecDepth 100000 in
theorem p_a22 : lw_tbl[p_wc 22]? = some (.code (p_y 22) (p_by 22) (p_ml 22) (p_rt 22)) := by rfl
theorem p_mok1_22 : p_mok 22 = true := by
  unfold p_mok
  rw [decide_eq_true p_a22]
  decide +kernel
set_option maxRecDepth 100000 in
theorem p_a23 : lw_tbl[p_wc 23]? = some (.code (p_y 23) (p_by 23) (p_ml 23) (p_rt 23)) := by rfl
theorem p_mok1_23 : p_mok 23 = true := by
  unfold p_mok
  rw [decide_eq_true p_a23]
  decide +kernel
set_option maxRecDepth 100000 in
theorem p_a24 : lw_tbl[p_wc 24]? = some (.code (p_y 24) (p_by 24) (p_ml 24) (p_rt 24)) := by rfl
theorem p_mok1_24 : p_mok 24 = true := by
  unfold p_mok
  rw [decide_eq_true p_a24]
  decide +kernel
set_option maxRecDepth 100000 in
theorem p_a25 : lw_tbl[p_wc 25]? = some (.code (p_y 25) (p_by 25) (p_ml 25) (p_rt 25)) := by rfl
theorem p_mok1_25 : p_mok 25 = true := by
  unfold p_mok
  rw [decide_eq_true p_a25]
  decide +kernel
set_option maxRecDepth 100000 in
theorem p_a26 : lw_tbl[p_wc 26]? = some (.code (p_y 26) (p_by 26) (p_ml 26) (p_rt 26)) := by rfl
theorem p_mok1_26 : p_mok 26 = true := by
  unfold p_mok
  rw [decide_eq_true p_a26]
  decide +kernel
set_option maxRecDepth 100000 in
theorem p_a27 : lw_tbl[p_wc 27]? = some (.code (p_y 27) (p_by 27) (p_ml 27) (p_rt 27)) := by rfl
theorem p_mok1_27 : p_mok 27 = true := by
  unfold p_mok
  rw [decide_eq_true p_a27]
  decide +kernel
set_option maxRecDepth 100000 in
theorem p_a28 : lw_tbl[p_wc 28]? = some (.code (p_y 28) (p_by 28) (p_ml 28) (p_rt 28)) := by rfl
theorem p_mok1_28 : p_mok 28 = true := by
  unfold p_mok
  rw [decide_eq_true p_a28]
  decide +kernel
set_option maxRecDepth 100000 in
theorem p_a29 : lw_tbl[p_wc 29]? = some (.code (p_y 29) (p_by 29) (p_ml 29) (p_rt 29)) := by rfl
theorem p_mok1_29 : p_mok 29 = true := by
  unfold p_mok
  rw [decide_eq_true p_a29]
  decide +kernel
set_option maxRecDepth 100000 in
theorem p_a30 : lw_tbl[p_wc 30]? = some (.code (p_y 30) (p_by 30) (p_ml 30) (p_rt 30)) := by rfl
theorem p_mok1_30 : p_mok 30 = true := by
  unfold p_mok
  rw [decide_eq_true p_a30]
  decide +kernel
set_option maxRecDepth 100000 in
theorem p_a31 : lw_tbl[p_wc 31]? = some (.code (p_y 31) (p_by 31) (p_ml 31) (p_rt 31)) := by rfl
theorem p_mok1_31 : p_mok 31 = true := by
  unfold p_mok
  rw [decide_eq_true p_a31]
  decide +kernel
set_option maxRecDepth 100000 in
theorem p_a32 : lw_tbl[p_wc 32]? = some (.code (p_y 32) (p_by 32) (p_ml 32) (p_rt 32)) := by rfl
theorem p_mok1_32 : p_mok 32 = true := by
  unfold p_mok
  rw [decide_eq_true p_a32]
  decide +kernel
set_option maxRecDepth 100000 in
theorem p_a33 : lw_tbl[p_wc 33]? = some (.code (p_y 33) (p_by 33) (p_ml 33) (p_rt 33)) := by rfl
theorem p_mok1_33 : p_mok 33 = true := by
  unfold p_mok
  rw [decide_eq_true p_a33]
  decide +kernel
set_option maxRecDepth 100000 in
theorem p_a34 : lw_tbl[p_wc 34]? = some (.code (p_y 34) (p_by 34) (p_ml 34) (p_rt 34)) := by rfl
theorem p_mok1_34 : p_mok 34 = true := by
  unfold p_mok
  rw [decide_eq_true p_a34]
  decide +kernel
set_option maxRecDepth 100000 in
theorem p_a35 : lw_tbl[p_wc 35]? = some (.code (p_y 35) (p_by 35) (p_ml 35) (p_rt 35)) := by rfl
theorem p_mok1_35 : p_mok 35 = true := by
  unfold p_mok
  rw [decide_eq_true p_a35]
  decide +kernel
set_option maxRecDepth 100000 in
theorem p_a36 : lw_tbl[p_wc 36]? = some (.code (p_y 36) (p_by 36) (p_ml 36) (p_rt 36)) := by rfl
theorem p_mok1_36 : p_mok 36 = true := by
  unfold p_mok
  rw [decide_eq_true p_a36]
  decide +kernel
set_option maxRecDepth 100000 in
theorem p_a37 : lw_tbl[p_wc 37]? = some (.code (p_y 37) (p_by 37) (p_ml 37) (p_rt 37)) := by rfl
theorem p_mok1_37 : p_mok 37 = true := by
  unfold p_mok
  rw [decide_eq_true p_a37]
  decide +kernel
set_option maxRecDepth 100000 in
theorem p_a38 : lw_tbl[p_wc 38]? = some (.code (p_y 38) (p_by 38) (p_ml 38) (p_rt 38)) := by rfl
theorem p_mok1_38 : p_mok 38 = true := by
  unfold p_mok
  rw [decide_eq_true p_a38]
  decide +kernel
set_option maxRecDepth 100000 in
theorem p_a39 : lw_tbl[p_wc 39]? = some (.code (p_y 39) (p_by 39) (p_ml 39) (p_rt 39)) := by rfl
theorem p_mok1_39 : p_mok 39 = true := by
  unfold p_mok
  rw [decide_eq_true p_a39]
  decide +kernel
set_option maxRecDepth 100000 in
theorem p_a40 : lw_tbl[p_wc 40]? = some (.code (p_y 40) (p_by 40) (p_ml 40) (p_rt 40)) := by rfl
theorem p_mok1_40 : p_mok 40 = true := by
  unfold p_mok
  rw [decide_eq_true p_a40]
  decide +kernel
set_option maxRecDepth 100000 in
theorem p_a41 : lw_tbl[p_wc 41]? = some (.code (p_y 41) (p_by 41) (p_ml 41) (p_rt 41)) := by rfl
theorem p_mok1_41 : p_mok 41 = true := by
  unfold p_mok
  rw [decide_eq_true p_a41]
  decide +kernel
set_option maxRecDepth 100000 in
theorem p_a42 : lw_tbl[p_wc 42]? = some (.code (p_y 42) (p_by 42) (p_ml 42) (p_rt 42)) := by rfl
theorem p_mok1_42 : p_mok 42 = true := by
  unfold p_mok
  rw [decide_eq_true p_a42]
  decide +kernel
set_option maxRecDepth 100000 in
theorem p_a43 : lw_tbl[p_wc 43]? = some (.code (p_y 43) (p_by 43) (p_ml 43) (p_rt 43)) := by rfl
theorem p_mok1_43 : p_mok 43 = true := by
  unfold p_mok
  rw [decide_eq_true p_a43]
  decide +kernel
set_option maxRecDepth 100000 in
theorem p_a44 : lw_tbl[p_wc 44]? = some (.code (p_y 44) (p_by 44) (p_ml 44) (p_rt 44)) := by rfl
theorem p_mok1_44 : p_mok 44 = true := by
  unfold p_mok
  rw [decide_eq_true p_a44]
  decide +kernel
set_option maxRecDepth 100000 in
theorem p_a45 : lw_tbl[p_wc 45]? = some (.code (p_y 45) (p_by 45) (p_ml 45) (p_rt 45)) := by rfl
theorem p_mok1_45 : p_mok 45 = true := by
  unfold p_mok
  rw [decide_eq_true p_a45]
  decide +kernel
set_option maxRecDepth 100000 in
theorem p_a46 : lw_tbl[p_wc 46]? = some (.code (p_y 46) (p_by 46) (p_ml 46) (p_rt 46)) := by rfl
theorem p_mok1_46 : p_mok 46 = true := by
  unfold p_mok
  rw [decide_eq_true p_a46]
  decide +kernel
set_option maxRecDepth 100000 in
theorem p_a47 : lw_tbl[p_wc 47]? = some (.code (p_y 47) (p_by 47) (p_ml 47) (p_rt 47)) := by rfl
theorem p_mok1_47 : p_mok 47 = true := by
  unfold p_mok
  rw [decide_eq_true p_a47]
  decide +kernel
set_option maxRecDepth 100000 in
theorem p_a48 : lw_tbl[p_wc 48]? = some (.code (p_y 48) (p_by 48) (p_ml 48) (p_rt 48)) := by rfl
theorem p_mok1_48 : p_mok 48 = true := by
  unfold p_mok
  rw [decide_eq_true p_a48]
  decide +kernel
set_option maxRecDepth 100000 in
theorem p_a49 : lw_tbl[p_wc 49]? = some (.code (p_y 49) (p_by 49) (p_ml 49) (p_rt 49)) := by rfl
theorem p_mok1_49 : p_mok 49 = true := by
  unfold p_mok
  rw [decide_eq_true p_a49]
  decide +kernel
set_option maxRecDepth 100000 in
theorem p_a50 : lw_tbl[p_wc 50]? = some (.code (p_y 50) (p_by 50) (p_ml 50) (p_rt 50)) := by rfl
theorem p_mok1_50 : p_mok 50 = true := by
  unfold p_mok
  rw [decide_eq_true p_a50]
  decide +kernel
set_option maxRecDepth 100000 in
theorem p_a51 : lw_tbl[p_wc 51]? = some (.code (p_y 51) (p_by 51) (p_ml 51) (p_rt 51)) := by rfl
theorem p_mok1_51 : p_mok 51 = true := by
  unfold p_mok
  rw [decide_eq_true p_a51]
  decide +kernel
set_option maxRecDepth 100000 in
theorem p_a52 : lw_tbl[p_wc 52]? = some (.code (p_y 52) (p_by 52) (p_ml 52) (p_rt 52)) := by rfl
theorem p_mok1_52 : p_mok 52 = true := by
  unfold p_mok
  rw [decide_eq_true p_a52]
  decide +kernel
set_option maxRecDepth 100000 in
theorem p_a53 : lw_tbl[p_wc 53]? = some (.code (p_y 53) (p_by 53) (p_ml 53) (p_rt 53)) := by rfl
theorem p_mok1_53 : p_mok 53 = true := by
  unfold p_mok
  rw [decide_eq_true p_a53]
  decide +kernel
set_option maxRecDepth 100000 in
theorem p_a54 : lw_tbl[p_wc 54]? = some (.code (p_y 54) (p_by 54) (p_ml 54) (p_rt 54)) := by rfl
theorem p_mok1_54 : p_mok 54 = true := by
  unfold p_mok
  rw [decide_eq_true p_a54]
  decide +kernel
set_option maxRecDepth 100000 in
theorem p_a55 : lw_tbl[p_wc 55]? = some (.code (p_y 55) (p_by 55) (p_ml 55) (p_rt 55)) := by rfl
theorem p_mok1_55 : p_mok 55 = true := by
  unfold p_mok
  rw [decide_eq_true p_a55]
  decide +kernel
set_option maxRecDepth 100000 in
theorem p_a56 : lw_tbl[p_wc 56]? = some (.code (p_y 56) (p_by 56) (p_ml 56) (p_rt 56)) := by rfl
theorem p_mok1_56 : p_mok 56 = true := by
  unfold p_mok
  rw [decide_eq_true p_a56]
  decide +kernel
set_option maxRecDepth 100000 in
theorem p_a57 : lw_tbl[p_wc 57]? = some (.code (p_y 57) (p_by 57) (p_ml 57) (p_rt 57)) := by rfl
theorem p_mok1_57 : p_mok 57 = true := by
  unfold p_mok
  rw [decide_eq_true p_a57]
  decide +kernel
set_option maxRecDepth 100000 in
theorem p_a58 : lw_tbl[p_wc 58]? = some (.code (p_y 58) (p_by 58) (p_ml 58) (p_rt 58)) := by rfl
theorem p_mok1_58 : p_mok 58 = true := by
  unfold p_mok
  rw [decide_eq_true p_a58]
  decide +kernel
set_option maxRecDepth 100000 in
theorem p_a59 : lw_tbl[p_wc 59]? = some (.code (p_y 59) (p_by 59) (p_ml 59) (p_rt 59)) := by rfl
theorem p_mok1_59 : p_mok 59 = true := by
  unfold p_mok
  rw [decide_eq_true p_a59]
  decide +kernel
set_option maxRecDepth 100000 in
theorem p_a60 : lw_tbl[p_wc 60]? = some (.code (p_y 60) (p_by 60) (p_ml 60) (p_rt 60)) := by rfl
theorem p_mok1_60 : p_mok 60 = true := by
  unfold p_mok
  rw [decide_eq_true p_a60]
  decide +kernel
set_option maxRecDepth 100000 in
theorem p_a61 : lw_tbl[p_wc 61]? = some (.code (p_y 61) (p_by 61) (p_ml 61) (p_rt 61)) := by rfl
theorem p_mok1_61 : p_mok 61 = true := by
  unfold p_mok
  rw [decide_eq_true p_a61]
  decide +kernel
set_option maxRecDepth 100000 in
theorem p_a62 : lw_tbl[p_wc 62]? = some (.code (p_y 62) (p_by 62) (p_ml 62) (p_rt 62)) := by rfl
theorem p_mok1_62 : p_mok 62 = true := by
  unfold p_mok
  rw [decide_eq_true p_a62]
  decide +kernel
set_option maxRecDepth 100000 in
theorem p_a63 : lw_tbl[p_wc 63]? = some (.code (p_y 63) (p_by 63) (p_ml 63) (p_rt 63)) := by rfl
theorem p_mok1_63 : p_mok 63 = true := by
  unfold p_mok
  rw [decide_eq_true p_a63]
  decide +kernel
set_option maxRecDepth 100000 in
theorem p_a64 : lw_tbl[p_wc 64]? = some (.code (p_y 64) (p_by 64) (p_ml 64) (p_rt 64)) := by rfl
theorem p_mok1_64 : p_mok 64 = true := by
  unfold p_mok
  rw [decide_eq_true p_a64]
  decide +kernel
set_option maxRecDepth 100000 in
theorem p_a65 : lw_tbl[p_wc 65]? = some (.code (p_y 65) (p_by 65) (p_ml 65) (p_rt 65)) := by rfl
theorem p_mok1_65 : p_mok 65 = true := by
  unfold p_mok
  rw [decide_eq_true p_a65]
  decide +kernel
set_option maxRecDepth 100000 in
theorem p_a66 : lw_tbl[p_wc 66]? = some (.code (p_y 66) (p_by 66) (p_ml 66) (p_rt 66)) := by rfl
theorem p_mok1_66 : p_mok 66 = true := by
  unfold p_mok
  rw [decide_eq_true p_a66]
  decide +kernel
set_option maxRecDepth 100000 in
theorem p_a67 : lw_tbl[p_wc 67]? = some (.code (p_y 67) (p_by 67) (p_ml 67) (p_rt 67)) := by rfl
theorem p_mok1_67 : p_mok 67 = true := by
  unfold p_mok
  rw [decide_eq_true p_a67]
  decide +kernel
set_option maxRecDepth 100000 in
theorem p_a68 : lw_tbl[p_wc 68]? = some (.code (p_y 68) (p_by 68) (p_ml 68) (p_rt 68)) := by rfl
theorem p_mok1_68 : p_mok 68 = true := by
  unfold p_mok
  rw [decide_eq_true p_a68]
  decide +kernel
set_option maxRecDepth 100000 in
theorem p_a69 : lw_tbl[p_wc 69]? = some (.code (p_y 69) (p_by 69) (p_ml 69) (p_rt 69)) := by rfl
theorem p_mok1_69 : p_mok 69 = true := by
  unfold p_mok
  rw [decide_eq_true p_a69]
  decide +kernel
set_option maxRecDepth 100000 in
theorem p_a70 : lw_tbl[p_wc 70]? = some (.code (p_y 70) (p_by 70) (p_ml 70) (p_rt 70)) := by rfl
theorem p_mok1_70 : p_mok 70 = true := by
  unfold p_mok
  rw [decide_eq_true p_a70]
  decide +kernel
set_option maxRecDepth 100000 in
theorem p_a71 : lw_tbl[p_wc 71]? = some (.code (p_y 71) (p_by 71) (p_ml 71) (p_rt 71)) := by rfl
theorem p_mok1_71 : p_mok 71 = true := by
  unfold p_mok
  rw [decide_eq_true p_a71]
  decide +kernel
set_option maxRecDepth 100000 in
theorem p_a72 : lw_tbl[p_wc 72]? = some (.code (p_y 72) (p_by 72) (p_ml 72) (p_rt 72)) := by rfl
theorem p_mok1_72 : p_mok 72 = true := by
  unfold p_mok
  rw [decide_eq_true p_a72]
  decide +kernel
set_option maxRecDepth 100000 in
theorem p_a73 : lw_tbl[p_wc 73]? = some (.code (p_y 73) (p_by 73) (p_ml 73) (p_rt 73)) := by rfl
theorem p_mok1_73 : p_mok 73 = true := by
  unfold p_mok
  rw [decide_eq_true p_a73]
  decide +kernel
set_option maxRecDepth 100000 in
theorem p_a74 : lw_tbl[p_wc 74]? = some (.code (p_y 74) (p_by 74) (p_ml 74) (p_rt 74)) := by rfl
theorem p_mok1_74 : p_mok 74 = true := by
  unfold p_mok
  rw [decide_eq_true p_a74]
  decide +kernel
set_option maxRecDepth 100000 in
theorem p_a75 : lw_tbl[p_wc 75]? = some (.code (p_y 75) (p_by 75) (p_ml 75) (p_rt 75)) := by rfl
theorem p_mok1_75 : p_mok 75 = true := by
  unfold p_mok
  rw [decide_eq_true p_a75]
  decide +kernel
set_option maxRecDepth 100000 in
theorem p_a76 : lw_tbl[p_wc 76]? = some (.code (p_y 76) (p_by 76) (p_ml 76) (p_rt 76)) := by rfl
theorem p_mok1_76 : p_mok 76 = true := by
  unfold p_mok
  rw [decide_eq_true p_a76]
  decide +kernel
set_option maxRecDepth 100000 in
theorem p_a77 : lw_tbl[p_wc 77]? = some (.code (p_y 77) (p_by 77) (p_ml 77) (p_rt 77)) := by rfl
theorem p_mok1_77 : p_mok 77 = true := by
  unfold p_mok
  rw [decide_eq_true p_a77]
  decide +kernel
set_option maxRecDepth 100000 in
theorem p_a78 : lw_tbl[p_wc 78]? = some (.code (p_y 78) (p_by 78) (p_ml 78) (p_rt 78)) := by rfl
theorem p_mok1_78 : p_mok 78 = true := by
  unfold p_mok
  rw [decide_eq_true p_a78]
  decide +kernel
set_option maxRecDepth 100000 in
theorem p_a79 : lw_tbl[p_wc 79]? = some (.code (p_y 79) (p_by 79) (p_ml 79) (p_rt 79)) := by rfl
theorem p_mok1_79 : p_mok 79 = true := by
  unfold p_mok
  rw [decide_eq_true p_a79]
  decide +kernel
set_option maxRecDepth 100000 in
theorem p_a80 : lw_tbl[p_wc 80]? = some (.code (p_y 80) (p_by 80) (p_ml 80) (p_rt 80)) := by rfl
theorem p_mok1_80 : p_mok 80 = true := by
  unfold p_mok
  rw [decide_eq_true p_a80]
  decide +kernel
set_option maxRecDepth 100000 in
theorem p_a81 : lw_tbl[p_wc 81]? = some (.code (p_y 81) (p_by 81) (p_ml 81) (p_rt 81)) := by rfl
theorem p_mok1_81 : p_mok 81 = true := by
  unfold p_mok
  rw [decide_eq_true p_a81]
  decide +kernel
set_option maxRecDepth 100000 in
theorem p_a82 : lw_tbl[p_wc 82]? = some (.code (p_y 82) (p_by 82) (p_ml 82) (p_rt 82)) := by rfl
theorem p_mok1_82 : p_mok 82 = true := by
  unfold p_mok
  rw [decide_eq_true p_a82]
  decide +kernel
set_option maxRecDepth 100000 in
theorem p_a83 : lw_tbl[p_wc 83]? = some (.code (p_y 83) (p_by 83) (p_ml 83) (p_rt 83)) := by rfl
theorem p_mok1_83 : p_mok 83 = true := by
  unfold p_mok
  rw [decide_eq_true p_a83]
  decide +kernel
set_option maxRecDepth 100000 in
theorem p_a84 : lw_tbl[p_wc 84]? = some (.code (p_y 84) (p_by 84) (p_ml 84) (p_rt 84)) := by rfl
theorem p_mok1_84 : p_mok 84 = true := by
  unfold p_mok
  rw [decide_eq_true p_a84]
  decide +kernel
set_option maxRecDepth 100000 in
theorem p_a85 : lw_tbl[p_wc 85]? = some (.code (p_y 85) (p_by 85) (p_ml 85) (p_rt 85)) := by rfl
theorem p_mok1_85 : p_mok 85 = true := by
  unfold p_mok
  rw [decide_eq_true p_a85]
  decide +kernel
set_option maxRecDepth 100000 in
theorem p_a86 : lw_tbl[p_wc 86]? = some (.code (p_y 86) (p_by 86) (p_ml 86) (p_rt 86)) := by rfl
theorem p_mok1_86 : p_mok 86 = true := by
  unfold p_mok
  rw [decide_eq_true p_a86]
  decide +kernel
set_option maxRecDepth 100000 in
theorem p_a87 : lw_tbl[p_wc 87]? = some (.code (p_y 87) (p_by 87) (p_ml 87) (p_rt 87)) := by rfl
theorem p_mok1_87 : p_mok 87 = true := by
  unfold p_mok
  rw [decide_eq_true p_a87]
  decide +kernel
set_option maxRecDepth 100000 in
theorem p_a88 : lw_tbl[p_wc 88]? = some (.code (p_y 88) (p_by 88) (p_ml 88) (p_rt 88)) := by rfl
theorem p_mok1_88 : p_mok 88 = true := by
  unfold p_mok
  rw [decide_eq_true p_a88]
  decide +kernel
set_option maxRecDepth 100000 in
theorem p_a89 : lw_tbl[p_wc 89]? = some (.code (p_y 89) (p_by 89) (p_ml 89) (p_rt 89)) := by rfl
theorem p_mok1_89 : p_mok 89 = true := by
  unfold p_mok
  rw [decide_eq_true p_a89]
  decide +kernel
set_option maxRecDepth 100000 in
theorem p_a90 : lw_tbl[p_wc 90]? = some (.code (p_y 90) (p_by 90) (p_ml 90) (p_rt 90)) := by rfl
theorem p_mok1_90 : p_mok 90 = true := by
  unfold p_mok
  rw [decide_eq_true p_a90]
  decide +kernel
set_option maxRecDepth 100000 in
theorem p_a91 : lw_tbl[p_wc 91]? = some (.code (p_y 91) (p_by 91) (p_ml 91) (p_rt 91)) := by rfl
theorem p_mok1_91 : p_mok 91 = true := by
  unfold p_mok
  rw [decide_eq_true p_a91]
  decide +kernel
set_option maxRecDepth 100000 in
theorem p_a92 : lw_tbl[p_wc 92]? = some (.code (p_y 92) (p_by 92) (p_ml 92) (p_rt 92)) := by rfl
theorem p_mok1_92 : p_mok 92 = true := by
  unfold p_mok
  rw [decide_eq_true p_a92]
  decide +kernel
set_option maxRecDepth 100000 in
theorem p_a93 : lw_tbl[p_wc 93]? = some (.code (p_y 93) (p_by 93) (p_ml 93) (p_rt 93)) := by rfl
theorem p_mok1_93 : p_mok 93 = true := by
  unfold p_mok
  rw [decide_eq_true p_a93]
  decide +kernel
set_option maxRecDepth 100000 in
theorem p_a94 : lw_tbl[p_wc 94]? = some (.code (p_y 94) (p_by 94) (p_ml 94) (p_rt 94)) := by rfl
theorem p_mok1_94 : p_mok 94 = true := by
  unfold p_mok
  rw [decide_eq_true p_a94]
  decide +kernel
set_option maxRecDepth 100000 in
theorem p_a95 : lw_tbl[p_wc 95]? = some (.code (p_y 95) (p_by 95) (p_ml 95) (p_rt 95)) := by rfl
theorem p_mok1_95 : p_mok 95 = true := by
  unfold p_mok
  rw [decide_eq_true p_a95]
  decide +kernel
set_option maxRecDepth 100000 in
theorem p_a96 : lw_tbl[p_wc 96]? = some (.code (p_y 96) (p_by 96) (p_ml 96) (p_rt 96)) := by rfl
theorem p_mok1_96 : p_mok 96 = true := by
  unfold p_mok
  rw [decide_eq_true p_a96]
  decide +kernel
set_option maxRecDepth 100000 in
theorem p_a97 : lw_tbl[p_wc 97]? = some (.code (p_y 97) (p_by 97) (p_ml 97) (p_rt 97)) := by rfl
theorem p_mok1_97 : p_mok 97 = true := by
  unfold p_mok
  rw [decide_eq_true p_a97]
  decide +kernel
set_option maxRecDepth 100000 in
theorem p_a98 : lw_tbl[p_wc 98]? = some (.code (p_y 98) (p_by 98) (p_ml 98) (p_rt 98)) := by rfl
theorem p_mok1_98 : p_mok 98 = true := by
  unfold p_mok
  rw [decide_eq_true p_a98]
  decide +kernel
set_option maxRecDepth 100000 in
theorem p_a99 : lw_tbl[p_wc 99]? = some (.code (p_y 99) (p_by 99) (p_ml 99) (p_rt 99)) := by rfl
theorem p_mok1_99 : p_mok 99 = true := by
  unfold p_mok
  rw [decide_eq_true p_a99]
  decide +kernel
set_option maxRecDepth 100000 in
theorem p_a100 : lw_tbl[p_wc 100]? = some (.code (p_y 100) (p_by 100) (p_ml 100) (p_rt 100)) := by rfl
theorem p_mok1_100 : p_mok 100 = true := by
  unfold p_mok
  rw [decide_eq_true p_a100]
  decide +kernel
set_option maxRecDepth 100000 in
theorem p_a101 : lw_tbl[p_wc 101]? = some (.code (p_y 101) (p_by 101) (p_ml 101) (p_rt 101)) := by rfl
theorem p_mok1_101 : p_mok 101 = true := by
  unfold p_mok
  rw [decide_eq_true p_a101]
  decide +kernel
set_option maxRecDepth 100000 in
theorem p_a102 : lw_tbl[p_wc 102]? = some (.code (p_y 102) (p_by 102) (p_ml 102) (p_rt 102)) := by rfl
theorem p_mok1_102 : p_mok 102 = true := by
  unfold p_mok
  rw [decide_eq_true p_a102]
  decide +kernel
set_option maxRecDepth 100000 in
theorem p_a103 : lw_tbl[p_wc 103]? = some (.code (p_y 103) (p_by 103) (p_ml 103) (p_rt 103)) := by rfl
theorem p_mok1_103 : p_mok 103 = true := by
  unfold p_mok
  rw [decide_eq_true p_a103]
  decide +kernel
theorem p_mokg_0 : ∀ j, j < 15 → p_mok (0 + j) = true := fun j h => match j, h with
  | 0, _ => p_mok1_0
  | 1, _ => p_mok1_1
  | 2, _ => p_mok1_2
  | 3, _ => p_mok1_3
  | 4, _ => p_mok1_4
  | 5, _ => p_mok1_5
  | 6, _ => p_mok1_6
  | 7, _ => p_mok1_7
  | 8, _ => p_mok1_8
  | 9, _ => p_mok1_9
  | 10, _ => p_mok1_10
  | 11, _ => p_mok1_11
  | 12, _ => p_mok1_12
  | 13, _ => p_mok1_13
  | 14, _ => p_mok1_14
  | n + 15, h => absurd h (by omega)
theorem p_mokg_1 : ∀ j, j < 15 → p_mok (15 + j) = true := fun j h => match j, h with
  | 0, _ => p_mok1_15
  | 1, _ => p_mok1_16
  | 2, _ => p_mok1_17
  | 3, _ => p_mok1_18
  | 4, _ => p_mok1_19
  | 5, _ => p_mok1_20
  | 6, _ => p_mok1_21
  | 7, _ => p_mok1_22
  | 8, _ => p_mok1_23
  | 9, _ => p_mok1_24
  | 10, _ => p_mok1_25
  | 11, _ => p_mok1_26
  | 12, _ => p_mok1_27
  | 13, _ => p_mok1_28
  | 14, _ => p_mok1_29
  | n + 15, h => absurd h (by omega)
theorem p_mokg_2 : ∀ j, j < 15 → p_mok (30 + j) = true := fun j h => match j, h with
  | 0, _ => p_mok1_30
  | 1, _ => p_mok1_31
  | 2, _ => p_mok1_32
  | 3, _ => p_mok1_33
  | 4, _ => p_mok1_34
  | 5, _ => p_mok1_35
  | 6, _ => p_mok1_36
  | 7, _ => p_mok1_37
  | 8, _ => p_mok1_38
  | 9, _ => p_mok1_39
  | 10, _ => p_mok1_40
  | 11, _ => p_mok1_41
  | 12, _ => p_mok1_42
  | 13, _ => p_mok1_43
  | 14, _ => p_mok1_44
  | n + 15, h => absurd h (by omega)
theorem p_mokg_3 : ∀ j, j < 15 → p_mok (45 + j) = true := fun j h => match j, h with
  | 0, _ => p_mok1_45
  | 1, _ => p_mok1_46
  | 2, _ => p_mok1_47
  | 3, _ => p_mok1_48
  | 4, _ => p_mok1_49
  | 5, _ => p_mok1_50
  | 6, _ => p_mok1_51
  | 7, _ => p_mok1_52
  | 8, _ => p_mok1_53
  | 9, _ => p_mok1_54
  | 10, _ => p_mok1_55
  | 11, _ => p_mok1_56
  | 12, _ => p_mok1_57
  | 13, _ => p_mok1_58
  | 14, _ => p_mok1_59
  | n + 15, h => absurd h (by omega)
theorem p_mokg_4 : ∀ j, j < 15 → p_mok (60 + j) = true := fun j h => match j, h with
  | 0, _ => p_mok1_60
  | 1, _ => p_mok1_61
  | 2, _ => p_mok1_62
  | 3, _ => p_mok1_63
  | 4, _ => p_mok1_64
  | 5, _ => p_mok1_65
  | 6, _ => p_mok1_66
  | 7, _ => p_mok1_67
  | 8, _ => p_mok1_68
  | 9, _ => p_mok1_69
  | 10, _ => p_mok1_70
  | 11, _ => p_mok1_71
  | 12, _ => p_mok1_72
  | 13, _ => p_mok1_73
  | 14, _ => p_mok1_74
  | n + 15, h => absurd h (by omega)
theorem p_mokg_5 : ∀ j, j < 15 → p_mok (75 + j) = true := fun j h => match j, h with
  | 0, _ => p_mok1_75
  | 1, _ => p_mok1_76
  | 2, _ => p_mok1_77
  | 3, _ => p_mok1_78
  | 4, _ => p_mok1_79
  | 5, _ => p_mok1_80
  | 6, _ => p_mok1_81
  | 7, _ => p_mok1_82
  | 8, _ => p_mok1_83
  | 9, _ => p_mok1_84
  | 10, _ => p_mok1_85
  | 11, _ => p_mok1_86
  | 12, _ => p_mok1_87
  | 13, _ => p_mok1_88
  | 14, _ => p_mok1_89
  | n + 15, h => absurd h (by omega)
theorem p_mokg_6 : ∀ j, j < 15 → p_mok (90 + j) = true := fun j h => match j, h with
  | 0, _ => p_mok1_90
  | 1, _ => p_mok1_91
  | 2, _ => p_mok1_92
  | 3, _ => p_mok1_93
  | 4, _ => p_mok1_94
  | 5, _ => p_mok1_95
  | 6, _ => p_mok1_96
  | 7, _ => p_mok1_97
  | 8, _ => p_mok1_98
  | 9, _ => p_mok1_99
  | 10, _ => p_mok1_100
  | 11, _ => p_mok1_101
  | 12, _ => p_mok1_102
  | 13, _ => p_mok1_103
  | 14, _ => p_mok1_104
  | n + 15, h => absurd h (by omega)
theorem p_mok_all : ∀ k, k < 105 → p_mok k = true := by
  intro k hk
  rcases (show (0 ≤ k ∧ k < 15) ∨ (15 ≤ k ∧ k < 30) ∨ (30 ≤ k ∧ k < 45) ∨ (45 ≤ k ∧ k < 60) ∨ (60 ≤ k ∧ k < 75) ∨ (75 ≤ k ∧ k < 90) ∨ (90 ≤ k ∧ k < 105) by omega) with q | q | q | q | q | q | q
  · have h := p_mokg_0 (k - 0) (by omega)
    rw [show 0 + (k - 0) = k by omega] at h
    exact h
  · have h := p_mokg_1 (k - 15) (by omega)
    rw [show 15 + (k - 15) = k by omega] at h
    exact h
  · have h := p_mokg_2 (k - 30) (by omega)
    rw [show 30 + (k - 30) = k by omega] at h
    exact h
  · have h := p_mokg_3 (k - 45) (by omega)
    rw [show 45 + (k - 45) = k by omega] at h
    exact h
  · have h := p_mokg_4 (k - 60) (by omega)
    rw [show 60 + (k - 60) = k by omega] at h
    exact h
  · have h := p_mokg_5 (k - 75) (by omega)
    rw [show 75 + (k - 75) = k by omega] at h
    exact h
  · have h := p_mokg_6 (k - 90) (by omega)
    rw [show 90 + (k - 90) = k by omega] at h
    exact h
theorem p_ini : ∀ o, o < 9 → lw_tbl[[12, 13, 11, 14, 10, 12, 9, 15, 16].getD o 0]? = some (.initialized (p_cn o)) := by decide +kernel
theorem p_ins : ∀ o, o < 6 → lw_tbl[[33, 92, 27, 148, 19, 33].getD o 0]? = some (.instantiable (p_cn o) (p_N o)) := by decide +kernel
theorem p_lay : ∀ a, a < 6 → ∀ w ∈ u_ws (p_cn a) (p_T a) (p_N a), w ∈ lw_tbl := by decide +kernel
theorem p_tyok : ∀ a, a < 6 → ∀ j, j < p_N a → parseFieldDescriptor (p_T a j).2.2.1 = some (p_ty a j) := by decide +kernel
theorem p_nm : ∀ a, a < 6 → ∀ x, x < p_N a → ∀ y, y < p_N a → x ≠ y → (p_T a x).2.1 ≠ (p_T a y).2.1 := by decide +kernel
theorem p_own : ∀ a, a < 6 → ∀ j, j < p_N a → (p_T a j).1 = p_cn a := by decide +kernel
theorem p_cls : ∀ a, a < 6 → p_cl[a]? = some (p_cn a, p_T a, p_N a) := fun a h => match a, h with
  | 0, _ => rfl
  | 1, _ => rfl
  | 2, _ => rfl
  | 3, _ => rfl
  | 4, _ => rfl
  | 5, _ => rfl
  | n + 6, h => absurd h (by omega)
/-- the good ones of the tables' words: they hold wherever they held -/
def p_G : List Cond := lw_tbl.filter goodWord
theorem p_GG : GoodIn p_G p_G := fun w h => ⟨h, good_of_word (List.mem_filter.mp h).2⟩
theorem p_Gm {i : Nat} {w : Cond} (h : lw_tbl[i]? = some w) (hg : goodWord w = true) : w ∈ p_G := List.mem_filter.mpr ⟨List.mem_of_getElem? h, hg⟩
