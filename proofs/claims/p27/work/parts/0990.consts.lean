theorem bp_m10 : (Int8.ofInt (-10)).toInt32 = (-10) := by decide +kernel
theorem bp_m9 : (Int8.ofInt (-9)).toInt32 = (-9) := by decide +kernel
theorem bp_m3 : (Int8.ofInt (-3)).toInt32 = (-3) := by decide +kernel
theorem bp_m2 : (Int8.ofInt (-2)).toInt32 = (-2) := by decide +kernel
theorem bp_6 : (Int8.ofInt (6)).toInt32 = nI 6 := by decide +kernel
theorem bp_7 : (Int8.ofInt (7)).toInt32 = nI 7 := by decide +kernel
theorem bp_8 : (Int8.ofInt (8)).toInt32 = nI 8 := by decide +kernel
theorem bp_9 : (Int8.ofInt (9)).toInt32 = nI 9 := by decide +kernel
theorem bp_10 : (Int8.ofInt (10)).toInt32 = nI 10 := by decide +kernel
theorem bp_11 : (Int8.ofInt (11)).toInt32 = nI 11 := by decide +kernel
theorem bp_12 : (Int8.ofInt (12)).toInt32 = nI 12 := by decide +kernel
theorem bp_13 : (Int8.ofInt (13)).toInt32 = nI 13 := by decide +kernel
theorem bp_15 : (Int8.ofInt (15)).toInt32 = nI 15 := by decide +kernel
theorem bp_16 : (Int8.ofInt (16)).toInt32 = nI 16 := by decide +kernel
theorem bp_20 : (Int8.ofInt (20)).toInt32 = nI 20 := by decide +kernel
theorem bp_25 : (Int8.ofInt (25)).toInt32 = nI 25 := by decide +kernel
theorem bp_31 : (Int8.ofInt (31)).toInt32 = nI 31 := by decide +kernel
theorem bp_32 : (Int8.ofInt (32)).toInt32 = nI 32 := by decide +kernel
theorem bp_43 : (Int8.ofInt (43)).toInt32 = nI 43 := by decide +kernel
theorem bp_47 : (Int8.ofInt (47)).toInt32 = nI 47 := by decide +kernel
theorem bp_48 : (Int8.ofInt (48)).toInt32 = nI 48 := by decide +kernel
theorem bp_49 : (Int8.ofInt (49)).toInt32 = nI 49 := by decide +kernel
theorem bp_60 : (Int8.ofInt (60)).toInt32 = nI 60 := by decide +kernel
theorem bp_65 : (Int8.ofInt (65)).toInt32 = nI 65 := by decide +kernel
theorem bp_72 : (Int8.ofInt (72)).toInt32 = nI 72 := by decide +kernel
theorem bp_97 : (Int8.ofInt (97)).toInt32 = nI 97 := by decide +kernel
theorem bp_104 : (Int8.ofInt (104)).toInt32 = nI 104 := by decide +kernel
theorem ic_m1 : Int32.ofInt (-1) = (-1) := by decide +kernel
theorem ic_0 : Int32.ofInt (0) = nI 0 := by decide +kernel
theorem ic_1 : Int32.ofInt (1) = nI 1 := by decide +kernel
theorem ic_2 : Int32.ofInt (2) = nI 2 := by decide +kernel
theorem ic_3 : Int32.ofInt (3) = nI 3 := by decide +kernel
theorem ic_4 : Int32.ofInt (4) = nI 4 := by decide +kernel
theorem ic_5 : Int32.ofInt (5) = nI 5 := by decide +kernel
theorem ii_1 : Int32.ofInt 1 = nI 1 := by decide +kernel
theorem ii_5 : Int32.ofInt 5 = nI 5 := by decide +kernel
theorem sp_200 : (Int16.ofInt (200)).toInt32 = nI 200 := by decide +kernel
theorem sp_201 : (Int16.ofInt (201)).toInt32 = nI 201 := by decide +kernel
theorem sp_203 : (Int16.ofInt (203)).toInt32 = nI 203 := by decide +kernel
theorem sp_255 : (Int16.ofInt (255)).toInt32 = nI 255 := by decide +kernel
theorem sp_256 : (Int16.ofInt (256)).toInt32 = nI 256 := by decide +kernel
theorem sp_1000 : (Int16.ofInt (1000)).toInt32 = nI 1000 := by decide +kernel
theorem sp_1015 : (Int16.ofInt (1015)).toInt32 = nI 1015 := by decide +kernel
theorem sp_1218 : (Int16.ofInt (1218)).toInt32 = nI 1218 := by decide +kernel
