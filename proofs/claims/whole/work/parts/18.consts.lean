theorem cb_10 : (Int8.ofInt (10)).toInt32 = 10 := by decide +kernel
theorem cb_122 : (Int8.ofInt (122)).toInt32 = 122 := by decide +kernel
theorem cb_16 : (Int8.ofInt (16)).toInt32 = 16 := by decide +kernel
theorem cb_17 : (Int8.ofInt (17)).toInt32 = 17 := by decide +kernel
theorem cb_18 : (Int8.ofInt (18)).toInt32 = 18 := by decide +kernel
theorem cb_19 : (Int8.ofInt (19)).toInt32 = 19 := by decide +kernel
theorem cb_20 : (Int8.ofInt (20)).toInt32 = 20 := by decide +kernel
theorem cb_21 : (Int8.ofInt (21)).toInt32 = 21 := by decide +kernel
theorem cb_22 : (Int8.ofInt (22)).toInt32 = 22 := by decide +kernel
theorem cb_23 : (Int8.ofInt (23)).toInt32 = 23 := by decide +kernel
theorem cb_24 : (Int8.ofInt (24)).toInt32 = 24 := by decide +kernel
theorem cb_25 : (Int8.ofInt (25)).toInt32 = 25 := by decide +kernel
theorem cb_30 : (Int8.ofInt (30)).toInt32 = 30 := by decide +kernel
theorem cb_32 : (Int8.ofInt (32)).toInt32 = 32 := by decide +kernel
theorem cb_34 : (Int8.ofInt (34)).toInt32 = 34 := by decide +kernel
theorem cb_38 : (Int8.ofInt (38)).toInt32 = 38 := by decide +kernel
theorem cb_48 : (Int8.ofInt (48)).toInt32 = 48 := by decide +kernel
theorem cb_57 : (Int8.ofInt (57)).toInt32 = 57 := by decide +kernel
theorem cb_59 : (Int8.ofInt (59)).toInt32 = 59 := by decide +kernel
theorem cb_6 : (Int8.ofInt (6)).toInt32 = 6 := by decide +kernel
theorem cb_60 : (Int8.ofInt (60)).toInt32 = 60 := by decide +kernel
theorem cb_61 : (Int8.ofInt (61)).toInt32 = 61 := by decide +kernel
theorem cb_62 : (Int8.ofInt (62)).toInt32 = 62 := by decide +kernel
theorem cb_63 : (Int8.ofInt (63)).toInt32 = 63 := by decide +kernel
theorem cb_64 : (Int8.ofInt (64)).toInt32 = 64 := by decide +kernel
theorem cb_7 : (Int8.ofInt (7)).toInt32 = 7 := by decide +kernel
theorem cb_8 : (Int8.ofInt (8)).toInt32 = 8 := by decide +kernel
theorem cb_80 : (Int8.ofInt (80)).toInt32 = 80 := by decide +kernel
theorem cb_9 : (Int8.ofInt (9)).toInt32 = 9 := by decide +kernel
theorem cb_97 : (Int8.ofInt (97)).toInt32 = 97 := by decide +kernel
theorem cb_99 : (Int8.ofInt (99)).toInt32 = 99 := by decide +kernel
theorem ci_0 : Int32.ofInt (0) = 0 := by decide +kernel
theorem ci_1 : Int32.ofInt (1) = 1 := by decide +kernel
theorem ci_2 : Int32.ofInt (2) = 2 := by decide +kernel
theorem ci_3 : Int32.ofInt (3) = 3 := by decide +kernel
theorem ci_4 : Int32.ofInt (4) = 4 := by decide +kernel
theorem ci_5 : Int32.ofInt (5) = 5 := by decide +kernel
theorem ci_m1 : Int32.ofInt (-1) = (-1) := by decide +kernel
theorem ci_m8 : Int32.ofInt (-8) = (-8) := by decide +kernel
theorem cn_0 : (0 : Int32).toNatClampNeg = 0 := by decide +kernel
theorem cn_1 : (1 : Int32).toNatClampNeg = 1 := by decide +kernel
theorem cn_1626 : (1626 : Int32).toNatClampNeg = 1626 := by decide +kernel
theorem cn_1627 : (1627 : Int32).toNatClampNeg = 1627 := by decide +kernel
theorem cn_1628 : (1628 : Int32).toNatClampNeg = 1628 := by decide +kernel
theorem cn_1631 : (1631 : Int32).toNatClampNeg = 1631 := by decide +kernel
theorem cn_2 : (2 : Int32).toNatClampNeg = 2 := by decide +kernel
theorem cn_3 : (3 : Int32).toNatClampNeg = 3 := by decide +kernel
theorem cn_4 : (4 : Int32).toNatClampNeg = 4 := by decide +kernel
theorem cn_5 : (5 : Int32).toNatClampNeg = 5 := by decide +kernel
theorem cn_6 : (6 : Int32).toNatClampNeg = 6 := by decide +kernel
theorem cn_7 : (7 : Int32).toNatClampNeg = 7 := by decide +kernel
theorem cn_8 : (8 : Int32).toNatClampNeg = 8 := by decide +kernel
theorem cn_9 : (9 : Int32).toNatClampNeg = 9 := by decide +kernel
theorem cs_1000 : (Int16.ofInt (1000)).toInt32 = 1000 := by decide +kernel
theorem cs_11483 : (Int16.ofInt (11483)).toInt32 = 11483 := by decide +kernel
theorem cs_1624 : (Int16.ofInt (1624)).toInt32 = 1624 := by decide +kernel
theorem cs_1625 : (Int16.ofInt (1625)).toInt32 = 1625 := by decide +kernel
theorem cs_1626 : (Int16.ofInt (1626)).toInt32 = 1626 := by decide +kernel
theorem cs_1627 : (Int16.ofInt (1627)).toInt32 = 1627 := by decide +kernel
theorem cs_1628 : (Int16.ofInt (1628)).toInt32 = 1628 := by decide +kernel
theorem cs_1629 : (Int16.ofInt (1629)).toInt32 = 1629 := by decide +kernel
theorem cs_1630 : (Int16.ofInt (1630)).toInt32 = 1630 := by decide +kernel
theorem cs_1631 : (Int16.ofInt (1631)).toInt32 = 1631 := by decide +kernel
theorem cs_1658 : (Int16.ofInt (1658)).toInt32 = 1658 := by decide +kernel
theorem cs_1662 : (Int16.ofInt (1662)).toInt32 = 1662 := by decide +kernel
theorem cs_1700 : (Int16.ofInt (1700)).toInt32 = 1700 := by decide +kernel
theorem cs_200 : (Int16.ofInt (200)).toInt32 = 200 := by decide +kernel
theorem cs_2030 : (Int16.ofInt (2030)).toInt32 = 2030 := by decide +kernel
theorem cs_2068 : (Int16.ofInt (2068)).toInt32 = 2068 := by decide +kernel
theorem cs_255 : (Int16.ofInt (255)).toInt32 = 255 := by decide +kernel
theorem cs_256 : (Int16.ofInt (256)).toInt32 = 256 := by decide +kernel
theorem cs_300 : (Int16.ofInt (300)).toInt32 = 300 := by decide +kernel
theorem cs_3257 : (Int16.ofInt (3257)).toInt32 = 3257 := by decide +kernel
theorem cs_398 : (Int16.ofInt (398)).toInt32 = 398 := by decide +kernel
theorem cs_406 : (Int16.ofInt (406)).toInt32 = 406 := by decide +kernel
theorem cs_880 : (Int16.ofInt (880)).toInt32 = 880 := by decide +kernel
theorem cs_900 : (Int16.ofInt (900)).toInt32 = 900 := by decide +kernel
theorem cs_9999 : (Int16.ofInt (9999)).toInt32 = 9999 := by decide +kernel
theorem cx_0_16 : vp_in 0 16 := am_in_c (by decide +kernel)
theorem cx_0_2258 : vp_in 0 2258 := am_in_c (by decide +kernel)
theorem cx_0_5 : vp_in 0 5 := am_in_c (by decide +kernel)
theorem cx_0_6 : vp_in 0 6 := am_in_c (by decide +kernel)
theorem cx_0_6656 : vp_in 0 6656 := am_in_c (by decide +kernel)
theorem cx_0_729 : vp_in 0 729 := am_in_c (by decide +kernel)
theorem cx_1626_2258 : vp_in 1626 2258 := am_in_c (by decide +kernel)
theorem cx_1627_2258 : vp_in 1627 2258 := am_in_c (by decide +kernel)
theorem cx_1628_2258 : vp_in 1628 2258 := am_in_c (by decide +kernel)
theorem cx_1631_2258 : vp_in 1631 2258 := am_in_c (by decide +kernel)
theorem cx_1_5 : vp_in 1 5 := am_in_c (by decide +kernel)
theorem cx_1_6 : vp_in 1 6 := am_in_c (by decide +kernel)
theorem cx_2_2258 : vp_in 2 2258 := am_in_c (by decide +kernel)
theorem cx_2_5 : vp_in 2 5 := am_in_c (by decide +kernel)
theorem cx_2_6 : vp_in 2 6 := am_in_c (by decide +kernel)
theorem cx_3_2258 : vp_in 3 2258 := am_in_c (by decide +kernel)
theorem cx_3_5 : vp_in 3 5 := am_in_c (by decide +kernel)
theorem cx_4_2258 : vp_in 4 2258 := am_in_c (by decide +kernel)
theorem cx_4_5 : vp_in 4 5 := am_in_c (by decide +kernel)
theorem cx_5_2258 : vp_in 5 2258 := am_in_c (by decide +kernel)
theorem cx_6_2258 : vp_in 6 2258 := am_in_c (by decide +kernel)
theorem cx_7_2258 : vp_in 7 2258 := am_in_c (by decide +kernel)
theorem cx_8_2258 : vp_in 8 2258 := am_in_c (by decide +kernel)
theorem cx_9_2258 : vp_in 9 2258 := am_in_c (by decide +kernel)
