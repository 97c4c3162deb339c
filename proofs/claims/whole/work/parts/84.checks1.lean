theorem zYok_1 : zYok 1 = true := by decide +kernel
theorem zOk_1 : zT_1.all (zOk 1) = true := by decide +kernel
theorem zYok_2 : zYok 2 = true := by decide +kernel
theorem zOk_2 : zT_2.all (zOk 2) = true := by decide +kernel
theorem zYok_3 : zYok 3 = true := by decide +kernel
theorem zOk_3 : zT_3.all (zOk 3) = true := by decide +kernel
theorem zYok_4 : zYok 4 = true := by decide +kernel
theorem zOk_4 : zT_4.all (zOk 4) = true := by decide +kernel
theorem zYok_5 : zYok 5 = true := by decide +kernel
theorem zOk_5 : zT_5.all (zOk 5) = true := by decide +kernel
theorem zYok_6 : zYok 6 = true := by decide +kernel
theorem zOk_6 : zT_6.all (zOk 6) = true := by decide +kernel
theorem zYok_7 : zYok 7 = true := by decide +kernel
theorem zOk_7 : zT_7.all (zOk 7) = true := by decide +kernel
theorem zYok_8 : zYok 8 = true := by decide +kernel
theorem zOk_8 : zT_8.all (zOk 8) = true := by decide +kernel
theorem zYok_9 : zYok 9 = true := by decide +kernel
theorem zOk_9 : zT_9.all (zOk 9) = true := by decide +kernel
theorem zYok_10 : zYok 10 = true := by decide +kernel
theorem zOk_10 : zT_10.all (zOk 10) = true := by decide +kernel
theorem zYok_11 : zYok 11 = true := by decide +kernel
theorem zOk_11 : zT_11.all (zOk 11) = true := by decide +kernel
theorem zYok_12 : zYok 12 = true := by decide +kernel
theorem zOk_12 : zT_12.all (zOk 12) = true := by decide +kernel
theorem zYok_13 : zYok 13 = true := by decide +kernel
theorem zOk_13 : zT_13.all (zOk 13) = true := by decide +kernel
theorem zYok_14 : zYok 14 = true := by decide +kernel
theorem zOk_14 : zT_14.all (zOk 14) = true := by decide +kernel
theorem zYok_15 : zYok 15 = true := by decide +kernel
theorem zOk_15 : zT_15.all (zOk 15) = true := by decide +kernel
theorem zYok_16 : zYok 16 = true := by decide +kernel
theorem zOk_16 : zT_16.all (zOk 16) = true := by decide +kernel
theorem zYok_17 : zYok 17 = true := by decide +kernel
theorem zOk_17 : zT_17.all (zOk 17) = true := by decide +kernel
theorem zYok_18 : zYok 18 = true := by decide +kernel
theorem zOk_18 : zT_18.all (zOk 18) = true := by decide +kernel
theorem zYok_19 : zYok 19 = true := by decide +kernel
theorem zOk_19 : zT_19.all (zOk 19) = true := by decide +kernel
theorem zYok_20 : zYok 20 = true := by decide +kernel
theorem zOk_20 : zT_20.all (zOk 20) = true := by decide +kernel
theorem zYok_21 : zYok 21 = true := by decide +kernel
theorem zOk_21 : zT_21.all (zOk 21) = true := by decide +kernel
theorem zYok_22 : zYok 22 = true := by decide +kernel
theorem zOk_22 : zT_22.all (zOk 22) = true := by decide +kernel
theorem zYok_23 : zYok 23 = true := by decide +kernel
theorem zOk_23 : zT_23.all (zOk 23) = true := by decide +kernel
theorem zYok_24 : zYok 24 = true := by decide +kernel
theorem zOk_24 : zT_24.all (zOk 24) = true := by decide +kernel
theorem zYok_25 : zYok 25 = true := by decide +kernel
theorem zOk_25 : zT_25.all (zOk 25) = true := by decide +kernel
theorem zYok_26 : zYok 26 = true := by decide +kernel
theorem zOk_26 : zT_26.all (zOk 26) = true := by decide +kernel
theorem zYok_27 : zYok 27 = true := by decide +kernel
theorem zOk_27 : zT_27.all (zOk 27) = true := by decide +kernel
theorem zYok_28 : zYok 28 = true := by decide +kernel
theorem zOk_28 : zT_28.all (zOk 28) = true := by decide +kernel
theorem zYok_29 : zYok 29 = true := by decide +kernel
theorem zOk_29 : zT_29.all (zOk 29) = true := by decide +kernel
