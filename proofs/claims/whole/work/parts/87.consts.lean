theorem cb_m10 : (Int8.ofInt (-10)).toInt32 = (-10) := by decide +kernel
theorem cb_6 : (Int8.ofInt 6).toInt32 = nI 6 := by decide +kernel
theorem cb_7 : (Int8.ofInt 7).toInt32 = nI 7 := by decide +kernel
theorem cb_8 : (Int8.ofInt 8).toInt32 = nI 8 := by decide +kernel
theorem cb_9 : (Int8.ofInt 9).toInt32 = nI 9 := by decide +kernel
theorem cb_10 : (Int8.ofInt 10).toInt32 = nI 10 := by decide +kernel
theorem cb_11 : (Int8.ofInt 11).toInt32 = nI 11 := by decide +kernel
theorem cb_12 : (Int8.ofInt 12).toInt32 = nI 12 := by decide +kernel
theorem cb_16 : (Int8.ofInt 16).toInt32 = nI 16 := by decide +kernel
theorem cb_20 : (Int8.ofInt 20).toInt32 = nI 20 := by decide +kernel
theorem cb_31 : (Int8.ofInt 31).toInt32 = nI 31 := by decide +kernel
theorem cb_32 : (Int8.ofInt 32).toInt32 = nI 32 := by decide +kernel
theorem cb_33 : (Int8.ofInt 33).toInt32 = nI 33 := by decide +kernel
theorem cb_48 : (Int8.ofInt 48).toInt32 = nI 48 := by decide +kernel
theorem cb_57 : (Int8.ofInt 57).toInt32 = nI 57 := by decide +kernel
theorem cb_58 : (Int8.ofInt 58).toInt32 = nI 58 := by decide +kernel
theorem cb_59 : (Int8.ofInt 59).toInt32 = nI 59 := by decide +kernel
theorem cb_60 : (Int8.ofInt 60).toInt32 = nI 60 := by decide +kernel
theorem cb_62 : (Int8.ofInt 62).toInt32 = nI 62 := by decide +kernel
theorem cb_63 : (Int8.ofInt 63).toInt32 = nI 63 := by decide +kernel
theorem cb_64 : (Int8.ofInt 64).toInt32 = nI 64 := by decide +kernel
theorem cb_65 : (Int8.ofInt 65).toInt32 = nI 65 := by decide +kernel
theorem cb_70 : (Int8.ofInt 70).toInt32 = nI 70 := by decide +kernel
theorem cb_71 : (Int8.ofInt 71).toInt32 = nI 71 := by decide +kernel
theorem cb_80 : (Int8.ofInt 80).toInt32 = nI 80 := by decide +kernel
theorem cb_96 : (Int8.ofInt 96).toInt32 = nI 96 := by decide +kernel
theorem cb_98 : (Int8.ofInt 98).toInt32 = nI 98 := by decide +kernel
theorem cb_100 : (Int8.ofInt 100).toInt32 = nI 100 := by decide +kernel
theorem cb_102 : (Int8.ofInt 102).toInt32 = nI 102 := by decide +kernel
theorem cb_103 : (Int8.ofInt 103).toInt32 = nI 103 := by decide +kernel
theorem cb_115 : (Int8.ofInt 115).toInt32 = nI 115 := by decide +kernel
theorem ci_m1 : Int32.ofInt (-1) = (-1) := by decide +kernel
theorem ci_0 : Int32.ofInt 0 = nI 0 := by decide +kernel
theorem ci_1 : Int32.ofInt 1 = nI 1 := by decide +kernel
theorem ci_2 : Int32.ofInt 2 = nI 2 := by decide +kernel
theorem ci_3 : Int32.ofInt 3 = nI 3 := by decide +kernel
theorem ci_4 : Int32.ofInt 4 = nI 4 := by decide +kernel
theorem ci_5 : Int32.ofInt 5 = nI 5 := by decide +kernel
theorem cl_0 : Int64.ofNat ((0 : Fin 2) : Nat) = 0 := by decide +kernel
theorem cl_1 : Int64.ofNat ((1 : Fin 2) : Nat) = 1 := by decide +kernel
theorem cs_m1004 : (Int16.ofInt (-1004)).toInt32 = (-1004) := by decide +kernel
theorem cs_m1003 : (Int16.ofInt (-1003)).toInt32 = (-1003) := by decide +kernel
theorem cs_m1002 : (Int16.ofInt (-1002)).toInt32 = (-1002) := by decide +kernel
theorem cs_m1001 : (Int16.ofInt (-1001)).toInt32 = (-1001) := by decide +kernel
theorem cs_140 : (Int16.ofInt 140).toInt32 = nI 140 := by decide +kernel
theorem cs_210 : (Int16.ofInt 210).toInt32 = nI 210 := by decide +kernel
theorem cs_255 : (Int16.ofInt 255).toInt32 = nI 255 := by decide +kernel
theorem cs_399 : (Int16.ofInt 399).toInt32 = nI 399 := by decide +kernel
theorem cs_400 : (Int16.ofInt 400).toInt32 = nI 400 := by decide +kernel
theorem cs_924 : (Int16.ofInt 924).toInt32 = nI 924 := by decide +kernel
theorem cs_999 : (Int16.ofInt 999).toInt32 = nI 999 := by decide +kernel
theorem cs_1023 : (Int16.ofInt 1023).toInt32 = nI 1023 := by decide +kernel
theorem cs_7392 : (Int16.ofInt 7392).toInt32 = nI 7392 := by decide +kernel
