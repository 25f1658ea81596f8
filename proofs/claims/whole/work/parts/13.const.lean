/-! constants -/
theorem ii_1 (a : Nat) : nI a + Int32.ofInt 1 = nI (a + 1) := nI_1 a
theorem bp_m2 : (Int8.ofInt (-2)).toInt32 = (-2) := by decide +kernel
theorem bp_6 : (Int8.ofInt 6).toInt32 = nI 6 := by decide +kernel
theorem bp_7 : (Int8.ofInt 7).toInt32 = nI 7 := by decide +kernel
theorem bp_8 : (Int8.ofInt 8).toInt32 = nI 8 := by decide +kernel
theorem bp_12 : (Int8.ofInt 12).toInt32 = nI 12 := by decide +kernel
theorem bp_13 : (Int8.ofInt 13).toInt32 = nI 13 := by decide +kernel
theorem bp_14 : (Int8.ofInt 14).toInt32 = nI 14 := by decide +kernel
theorem bp_15 : (Int8.ofInt 15).toInt32 = nI 15 := by decide +kernel
theorem bp_16 : (Int8.ofInt 16).toInt32 = nI 16 := by decide +kernel
theorem bp_17 : (Int8.ofInt 17).toInt32 = nI 17 := by decide +kernel
theorem bp_18 : (Int8.ofInt 18).toInt32 = nI 18 := by decide +kernel
theorem bp_19 : (Int8.ofInt 19).toInt32 = nI 19 := by decide +kernel
theorem bp_20 : (Int8.ofInt 20).toInt32 = nI 20 := by decide +kernel
theorem bp_21 : (Int8.ofInt 21).toInt32 = nI 21 := by decide +kernel
theorem bp_22 : (Int8.ofInt 22).toInt32 = nI 22 := by decide +kernel
theorem bp_23 : (Int8.ofInt 23).toInt32 = nI 23 := by decide +kernel
theorem bp_24 : (Int8.ofInt 24).toInt32 = nI 24 := by decide +kernel
theorem bp_25 : (Int8.ofInt 25).toInt32 = nI 25 := by decide +kernel
theorem bp_31 : (Int8.ofInt 31).toInt32 = nI 31 := by decide +kernel
theorem bp_32 : (Int8.ofInt 32).toInt32 = nI 32 := by decide +kernel
theorem bp_40 : (Int8.ofInt 40).toInt32 = nI 40 := by decide +kernel
theorem bp_41 : (Int8.ofInt 41).toInt32 = nI 41 := by decide +kernel
theorem bp_64 : (Int8.ofInt 64).toInt32 = nI 64 := by decide +kernel
theorem bp_80 : (Int8.ofInt 80).toInt32 = nI 80 := by decide +kernel
theorem bp_82 : (Int8.ofInt 82).toInt32 = nI 82 := by decide +kernel
theorem ic_m1 : Int32.ofInt (-1) = (-1) := by decide +kernel
theorem ic_0 : Int32.ofInt 0 = nI 0 := by decide +kernel
theorem ic_1 : Int32.ofInt 1 = nI 1 := by decide +kernel
theorem ic_2 : Int32.ofInt 2 = nI 2 := by decide +kernel
theorem ic_3 : Int32.ofInt 3 = nI 3 := by decide +kernel
theorem ic_4 : Int32.ofInt 4 = nI 4 := by decide +kernel
theorem ic_5 : Int32.ofInt 5 = nI 5 := by decide +kernel
theorem sp_160 : (Int16.ofInt 160).toInt32 = nI 160 := by decide +kernel
theorem sp_200 : (Int16.ofInt 200).toInt32 = nI 200 := by decide +kernel
theorem sp_320 : (Int16.ofInt 320).toInt32 = nI 320 := by decide +kernel
theorem sp_1600 : (Int16.ofInt 1600).toInt32 = nI 1600 := by decide +kernel
theorem sp_1640 : (Int16.ofInt 1640).toInt32 = nI 1640 := by decide +kernel
theorem sp_3280 : (Int16.ofInt 3280).toInt32 = nI 3280 := by decide +kernel
theorem sp_4096 : (Int16.ofInt 4096).toInt32 = nI 4096 := by decide +kernel
theorem sp_6400 : (Int16.ofInt 6400).toInt32 = nI 6400 := by decide +kernel
