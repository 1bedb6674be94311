theorem mm_0 : am_m 0 = (yX0_tryAll, cX0_tryAll, 4, none, 0, false, 1, 3, 70, am_c0, [3195, 1007, 3193, 3194]) := rfl
theorem ss_0 : am_ss 0 = false := by rw [am_ss, mm_0]
theorem ml_0 : am_ml 0 = 4 := by rw [am_ml, mm_0]
theorem oc_0 : am_oc 0 = 0 := by rw [am_oc, mm_0]
theorem cd_0 : am_code 0 = am_c0 := by rw [am_code, mm_0]
theorem mm_1 : am_m 1 = (yX0_tryInmost, cX0_tryInmost, 4, none, 0, false, 2, 2, 43, am_c1, [3213, 1007, 3212, 25]) := rfl
theorem ss_1 : am_ss 1 = false := by rw [am_ss, mm_1]
theorem ml_1 : am_ml 1 = 4 := by rw [am_ml, mm_1]
theorem oc_1 : am_oc 1 = 0 := by rw [am_oc, mm_1]
theorem cd_1 : am_code 1 = am_c1 := by rw [am_code, mm_1]
theorem mm_2 : am_m 2 = (yX0_widen, cX0_widen, 3, none, 0, false, 2, 1, 21, am_c2, [3217, 1007, 3216, 26]) := rfl
theorem ss_2 : am_ss 2 = false := by rw [am_ss, mm_2]
theorem ml_2 : am_ml 2 = 3 := by rw [am_ml, mm_2]
theorem oc_2 : am_oc 2 = 0 := by rw [am_oc, mm_2]
theorem cd_2 : am_code 2 = am_c2 := by rw [am_code, mm_2]
theorem mm_3 : am_m 3 = (yX0_fits, cX0_fits, 4, some .boolean, 0, false, 3, 0, 0, am_c3, [3209, 1007, 3208, 24]) := rfl
theorem ss_3 : am_ss 3 = false := by rw [am_ss, mm_3]
theorem ml_3 : am_ml 3 = 4 := by rw [am_ml, mm_3]
theorem oc_3 : am_oc 3 = 0 := by rw [am_oc, mm_3]
theorem cd_3 : am_code 3 = am_c3 := by rw [am_code, mm_3]
theorem mm_4 : am_m 4 = (yX0_ruleOut, cX0_ruleOut, 8, none, 0, false, 3, 2, 43, am_c4, [3203, 1007, 3202, 23]) := rfl
theorem ss_4 : am_ss 4 = false := by rw [am_ss, mm_4]
theorem ml_4 : am_ml 4 = 8 := by rw [am_ml, mm_4]
theorem oc_4 : am_oc 4 = 0 := by rw [am_oc, mm_4]
theorem cd_4 : am_code 4 = am_c4 := by rw [am_code, mm_4]
theorem mm_5 : am_m 5 = (yX1_startWith, cX1_startWith, 3, none, 1, false, 1, 2, 43, am_c5, [2111, 1004, 2109, 2110]) := rfl
theorem ss_5 : am_ss 5 = false := by rw [am_ss, mm_5]
theorem ml_5 : am_ml 5 = 3 := by rw [am_ml, mm_5]
theorem oc_5 : am_oc 5 = 1 := by rw [am_oc, mm_5]
theorem cd_5 : am_code 5 = am_c5 := by rw [am_code, mm_5]
theorem mm_6 : am_m 6 = (yX1_takeFrom, cX1_takeFrom, 2, none, 1, false, 1, 1, 48, am_c6, [3017, 1004, 3015, 3016]) := rfl
theorem ss_6 : am_ss 6 = false := by rw [am_ss, mm_6]
theorem ml_6 : am_ml 6 = 2 := by rw [am_ml, mm_6]
theorem oc_6 : am_oc 6 = 1 := by rw [am_oc, mm_6]
theorem cd_6 : am_code 6 = am_c6 := by rw [am_code, mm_6]
theorem mm_7 : am_m 7 = (yX1_clearBrakes, cX1_clearBrakes, 1, none, 1, false, 0, 1, 23, am_c7, [2115, 1004, 2113, 2114]) := rfl
theorem ss_7 : am_ss 7 = false := by rw [am_ss, mm_7]
theorem ml_7 : am_ml 7 = 1 := by rw [am_ml, mm_7]
theorem oc_7 : am_oc 7 = 1 := by rw [am_oc, mm_7]
theorem cd_7 : am_code 7 = am_c7 := by rw [am_code, mm_7]
theorem mm_8 : am_m 8 = (yX1_setBrake, cX1_setBrake, 4, none, 1, false, 3, 0, 0, am_c8, [2161, 1004, 2159, 2160]) := rfl
theorem ss_8 : am_ss 8 = false := by rw [am_ss, mm_8]
theorem ml_8 : am_ml 8 = 4 := by rw [am_ml, mm_8]
theorem oc_8 : am_oc 8 = 1 := by rw [am_oc, mm_8]
theorem cd_8 : am_code 8 = am_c8 := by rw [am_code, mm_8]
theorem mm_9 : am_m 9 = (yX1_slow, cX1_slow, 4, none, 1, false, 2, 1, 21, am_c9, [2169, 1004, 2167, 2168]) := rfl
theorem ss_9 : am_ss 9 = false := by rw [am_ss, mm_9]
theorem ml_9 : am_ml 9 = 4 := by rw [am_ml, mm_9]
theorem oc_9 : am_oc 9 = 1 := by rw [am_oc, mm_9]
theorem cd_9 : am_code 9 = am_c9 := by rw [am_code, mm_9]
theorem mm_10 : am_m 10 = (yX1_braked, cX1_braked, 3, some .int, 1, false, 0, 0, 0, am_c10, [3235, 1004, 3233, 3234]) := rfl
theorem ss_10 : am_ss 10 = false := by rw [am_ss, mm_10]
theorem ml_10 : am_ml 10 = 3 := by rw [am_ml, mm_10]
theorem oc_10 : am_oc 10 = 1 := by rw [am_oc, mm_10]
theorem cd_10 : am_code 10 = am_c10 := by rw [am_code, mm_10]
theorem mm_11 : am_m 11 = (yX1_addSeen, cX1_addSeen, 4, none, 1, false, 3, 0, 0, am_c11, [3183, 1004, 3181, 3182]) := rfl
theorem ss_11 : am_ss 11 = false := by rw [am_ss, mm_11]
theorem ml_11 : am_ml 11 = 4 := by rw [am_ml, mm_11]
theorem oc_11 : am_oc 11 = 1 := by rw [am_oc, mm_11]
theorem cd_11 : am_code 11 = am_c11 := by rw [am_code, mm_11]
theorem mm_12 : am_m 12 = (yX2_clear, cX2_clear, 1, none, 2, false, 0, 1, 23, am_c12, [2066, 1003, 2064, 2065]) := rfl
theorem ss_12 : am_ss 12 = false := by rw [am_ss, mm_12]
theorem ml_12 : am_ml 12 = 1 := by rw [am_ml, mm_12]
theorem oc_12 : am_oc 12 = 2 := by rw [am_oc, mm_12]
theorem cd_12 : am_code 12 = am_c12 := by rw [am_code, mm_12]
theorem mm_13 : am_m 13 = (yX2_takeFrom, cX2_takeFrom, 2, none, 2, false, 1, 1, 48, am_c13, [2104, 1003, 2102, 2103]) := rfl
theorem ss_13 : am_ss 13 = false := by rw [am_ss, mm_13]
theorem ml_13 : am_ml 13 = 2 := by rw [am_ml, mm_13]
theorem oc_13 : am_oc 13 = 2 := by rw [am_oc, mm_13]
theorem cd_13 : am_code 13 = am_c13 := by rw [am_code, mm_13]
theorem mm_14 : am_m 14 = (yX2_hasGate, cX2_hasGate, 2, some .boolean, 2, false, 1, 0, 0, am_c14, [2144, 1003, 2142, 2143]) := rfl
theorem ss_14 : am_ss 14 = false := by rw [am_ss, mm_14]
theorem ml_14 : am_ml 14 = 2 := by rw [am_ml, mm_14]
theorem oc_14 : am_oc 14 = 2 := by rw [am_oc, mm_14]
theorem cd_14 : am_code 14 = am_c14 := by rw [am_code, mm_14]
theorem mm_15 : am_m 15 = (yX2_hasGates, cX2_hasGates, 2, some .boolean, 2, false, 1, 0, 0, am_c15, [3031, 1003, 3029, 3030]) := rfl
theorem ss_15 : am_ss 15 = false := by rw [am_ss, mm_15]
theorem ml_15 : am_ml 15 = 2 := by rw [am_ml, mm_15]
theorem oc_15 : am_oc 15 = 2 := by rw [am_oc, mm_15]
theorem cd_15 : am_code 15 = am_c15 := by rw [am_code, mm_15]
theorem mm_16 : am_m 16 = (yX2_wrap, cX2_wrap, 2, some .int, 2, false, 1, 1, 22, am_c16, [2129, 1003, 2127, 2128]) := rfl
theorem ss_16 : am_ss 16 = false := by rw [am_ss, mm_16]
theorem ml_16 : am_ml 16 = 2 := by rw [am_ml, mm_16]
theorem oc_16 : am_oc 16 = 2 := by rw [am_oc, mm_16]
theorem cd_16 : am_code 16 = am_c16 := by rw [am_code, mm_16]
theorem mm_17 : am_m 17 = (yX2_walk, cX2_walk, 4, some .int, 2, false, 2, 1, 21, am_c17, [3064, 1003, 3062, 3063]) := rfl
theorem ss_17 : am_ss 17 = false := by rw [am_ss, mm_17]
theorem ml_17 : am_ml 17 = 4 := by rw [am_ml, mm_17]
theorem oc_17 : am_oc 17 = 2 := by rw [am_oc, mm_17]
theorem cd_17 : am_code 17 = am_c17 := by rw [am_code, mm_17]
theorem mm_18 : am_m 18 = (yX3_firstFault, cX3_firstFault, 4, some .int, 3, false, 2, 3, 65, am_c18, [2062, 1002, 2060, 2061]) := rfl
theorem ss_18 : am_ss 18 = false := by rw [am_ss, mm_18]
theorem ml_18 : am_ml 18 = 4 := by rw [am_ml, mm_18]
theorem oc_18 : am_oc 18 = 3 := by rw [am_oc, mm_18]
theorem cd_18 : am_code 18 = am_c18 := by rw [am_code, mm_18]
theorem mm_19 : am_m 19 = (yX3_takes, cX3_takes, 3, some .boolean, 3, false, 1, 2, 43, am_c19, [2073, 1002, 2072, 0]) := rfl
theorem ss_19 : am_ss 19 = false := by rw [am_ss, mm_19]
theorem ml_19 : am_ml 19 = 3 := by rw [am_ml, mm_19]
theorem oc_19 : am_oc 19 = 3 := by rw [am_oc, mm_19]
theorem cd_19 : am_code 19 = am_c19 := by rw [am_code, mm_19]
theorem mm_20 : am_m 20 = (yX3_takesLetter, cX3_takesLetter, 2, some .boolean, 3, false, 1, 0, 0, am_c20, [2077, 1002, 2076, 1]) := rfl
theorem ss_20 : am_ss 20 = false := by rw [am_ss, mm_20]
theorem ml_20 : am_ml 20 = 2 := by rw [am_ml, mm_20]
theorem oc_20 : am_oc 20 = 3 := by rw [am_oc, mm_20]
theorem cd_20 : am_code 20 = am_c20 := by rw [am_code, mm_20]
theorem mm_21 : am_m 21 = (yX3_takesParts, cX3_takesParts, 2, some .boolean, 3, false, 1, 0, 0, am_c21, [2081, 1002, 2080, 2]) := rfl
theorem ss_21 : am_ss 21 = false := by rw [am_ss, mm_21]
theorem ml_21 : am_ml 21 = 2 := by rw [am_ml, mm_21]
theorem oc_21 : am_oc 21 = 3 := by rw [am_oc, mm_21]
theorem cd_21 : am_code 21 = am_c21 := by rw [am_code, mm_21]
theorem mm_22 : am_m 22 = (yX3_takesPace, cX3_takesPace, 2, some .boolean, 3, false, 1, 1, 20, am_c22, [2096, 1002, 2095, 5]) := rfl
theorem ss_22 : am_ss 22 = false := by rw [am_ss, mm_22]
theorem ml_22 : am_ml 22 = 2 := by rw [am_ml, mm_22]
theorem oc_22 : am_oc 22 = 3 := by rw [am_oc, mm_22]
theorem cd_22 : am_code 22 = am_c22 := by rw [am_code, mm_22]
theorem mm_23 : am_m 23 = (yX3_takesGate, cX3_takesGate, 2, some .boolean, 3, false, 1, 1, 22, am_c23, [2085, 1002, 2084, 3]) := rfl
theorem ss_23 : am_ss 23 = false := by rw [am_ss, mm_23]
theorem ml_23 : am_ml 23 = 2 := by rw [am_ml, mm_23]
theorem oc_23 : am_oc 23 = 3 := by rw [am_oc, mm_23]
theorem cd_23 : am_code 23 = am_c23 := by rw [am_code, mm_23]
theorem mm_24 : am_m 24 = (yX3_addsGate, cX3_addsGate, 3, some .boolean, 3, false, 1, 0, 0, am_c24, [2092, 1002, 2091, 4]) := rfl
theorem ss_24 : am_ss 24 = false := by rw [am_ss, mm_24]
theorem ml_24 : am_ml 24 = 3 := by rw [am_ml, mm_24]
theorem oc_24 : am_oc 24 = 3 := by rw [am_oc, mm_24]
theorem cd_24 : am_code 24 = am_c24 := by rw [am_code, mm_24]
theorem mm_25 : am_m 25 = (yX4_pairUp, cX4_pairUp, 4, none, 4, false, 0, 3, 65, am_c25, [2120, 1005, 2118, 2119]) := rfl
theorem ss_25 : am_ss 25 = false := by rw [am_ss, mm_25]
theorem ml_25 : am_ml 25 = 4 := by rw [am_ml, mm_25]
theorem oc_25 : am_oc 25 = 4 := by rw [am_oc, mm_25]
theorem cd_25 : am_code 25 = am_c25 := by rw [am_code, mm_25]
theorem mm_26 : am_m 26 = (yX4_addPair, cX4_addPair, 3, none, 4, false, 2, 2, 43, am_c26, [2125, 1005, 2124, 6]) := rfl
theorem ss_26 : am_ss 26 = false := by rw [am_ss, mm_26]
theorem ml_26 : am_ml 26 = 3 := by rw [am_ml, mm_26]
theorem oc_26 : am_oc 26 = 4 := by rw [am_oc, mm_26]
theorem cd_26 : am_code 26 = am_c26 := by rw [am_code, mm_26]
theorem mm_27 : am_m 27 = (yX4_lay, cX4_lay, 3, none, 4, false, 1, 2, 43, am_c27, [2186, 1005, 2184, 2185]) := rfl
theorem ss_27 : am_ss 27 = false := by rw [am_ss, mm_27]
theorem ml_27 : am_ml 27 = 3 := by rw [am_ml, mm_27]
theorem oc_27 : am_oc 27 = 4 := by rw [am_oc, mm_27]
theorem cd_27 : am_code 27 = am_c27 := by rw [am_code, mm_27]
theorem mm_28 : am_m 28 = (yX4_layRing, cX4_layRing, 7, none, 4, false, 4, 0, 0, am_c28, [2192, 1005, 2191, 7]) := rfl
theorem ss_28 : am_ss 28 = false := by rw [am_ss, mm_28]
theorem ml_28 : am_ml 28 = 7 := by rw [am_ml, mm_28]
theorem oc_28 : am_oc 28 = 4 := by rw [am_oc, mm_28]
theorem cd_28 : am_code 28 = am_c28 := by rw [am_code, mm_28]
theorem mm_29 : am_m 29 = (yX4_fold, cX4_fold, 3, some .int, 4, false, 1, 1, 21, am_c29, [2196, 1005, 2194, 2195]) := rfl
theorem ss_29 : am_ss 29 = false := by rw [am_ss, mm_29]
theorem ml_29 : am_ml 29 = 3 := by rw [am_ml, mm_29]
theorem oc_29 : am_oc 29 = 4 := by rw [am_oc, mm_29]
theorem cd_29 : am_code 29 = am_c29 := by rw [am_code, mm_29]
theorem mm_30 : am_m 30 = (yX4_horizonFrom, cX4_horizonFrom, 2, some .int, 4, false, 1, 1, 21, am_c30, [2239, 1005, 2237, 2238]) := rfl
theorem ss_30 : am_ss 30 = false := by rw [am_ss, mm_30]
theorem ml_30 : am_ml 30 = 2 := by rw [am_ml, mm_30]
theorem oc_30 : am_oc 30 = 4 := by rw [am_oc, mm_30]
theorem cd_30 : am_code 30 = am_c30 := by rw [am_code, mm_30]
theorem mm_31 : am_m 31 = (yX4_placeAt, cX4_placeAt, 4, some .int, 4, false, 2, 2, 43, am_c31, [2200, 1005, 2198, 2199]) := rfl
theorem ss_31 : am_ss 31 = false := by rw [am_ss, mm_31]
theorem ml_31 : am_ml 31 = 4 := by rw [am_ml, mm_31]
theorem oc_31 : am_oc 31 = 4 := by rw [am_oc, mm_31]
theorem cd_31 : am_code 31 = am_c31 := by rw [am_code, mm_31]
theorem mm_32 : am_m 32 = (yX4_atOnePlace, cX4_atOnePlace, 7, some .boolean, 4, false, 2, 3, 66, am_c32, [3041, 1005, 3039, 3040]) := rfl
theorem ss_32 : am_ss 32 = false := by rw [am_ss, mm_32]
theorem ml_32 : am_ml 32 = 7 := by rw [am_ml, mm_32]
theorem oc_32 : am_oc 32 = 4 := by rw [am_oc, mm_32]
theorem cd_32 : am_code 32 = am_c32 := by rw [am_code, mm_32]
theorem mm_33 : am_m 33 = (yX4_joinOf, cX4_joinOf, 4, some .int, 4, false, 2, 1, 21, am_c33, [2212, 1005, 2210, 2211]) := rfl
theorem ss_33 : am_ss 33 = false := by rw [am_ss, mm_33]
theorem ml_33 : am_ml 33 = 4 := by rw [am_ml, mm_33]
theorem oc_33 : am_oc 33 = 4 := by rw [am_oc, mm_33]
theorem cd_33 : am_code 33 = am_c33 := by rw [am_code, mm_33]
theorem mm_34 : am_m 34 = (yX4_isOpen, cX4_isOpen, 3, some .boolean, 4, false, 2, 2, 43, am_c34, [2217, 1005, 2215, 2216]) := rfl
theorem ss_34 : am_ss 34 = false := by rw [am_ss, mm_34]
theorem ml_34 : am_ml 34 = 3 := by rw [am_ml, mm_34]
theorem oc_34 : am_oc 34 = 4 := by rw [am_oc, mm_34]
theorem cd_34 : am_code 34 = am_c34 := by rw [am_code, mm_34]
theorem mm_35 : am_m 35 = (yX4_isPair, cX4_isPair, 2, some .boolean, 4, false, 1, 0, 0, am_c35, [2221, 1005, 2220, 9]) := rfl
theorem ss_35 : am_ss 35 = false := by rw [am_ss, mm_35]
theorem ml_35 : am_ml 35 = 2 := by rw [am_ml, mm_35]
theorem oc_35 : am_oc 35 = 4 := by rw [am_oc, mm_35]
theorem cd_35 : am_code 35 = am_c35 := by rw [am_code, mm_35]
theorem mm_36 : am_m 36 = (yX4_openAt, cX4_openAt, 5, some .boolean, 4, false, 2, 0, 0, am_c36, [2226, 1005, 2225, 10]) := rfl
theorem ss_36 : am_ss 36 = false := by rw [am_ss, mm_36]
theorem ml_36 : am_ml 36 = 5 := by rw [am_ml, mm_36]
theorem oc_36 : am_oc 36 = 4 := by rw [am_oc, mm_36]
theorem cd_36 : am_code 36 = am_c36 := by rw [am_code, mm_36]
theorem mm_37 : am_m 37 = (yX4_waitFor, cX4_waitFor, 9, some .int, 4, false, 2, 2, 43, am_c37, [2234, 1005, 2232, 2233]) := rfl
theorem ss_37 : am_ss 37 = false := by rw [am_ss, mm_37]
theorem ml_37 : am_ml 37 = 9 := by rw [am_ml, mm_37]
theorem oc_37 : am_oc 37 = 4 := by rw [am_oc, mm_37]
theorem cd_37 : am_code 37 = am_c37 := by rw [am_code, mm_37]
theorem mm_38 : am_m 38 = (yX4_rememberWaits, cX4_rememberWaits, 8, none, 4, false, 4, 0, 0, am_c38, [3003, 1005, 3002, 11]) := rfl
theorem ss_38 : am_ss 38 = false := by rw [am_ss, mm_38]
theorem ml_38 : am_ml 38 = 8 := by rw [am_ml, mm_38]
theorem oc_38 : am_oc 38 = 4 := by rw [am_oc, mm_38]
theorem cd_38 : am_code 38 = am_c38 := by rw [am_code, mm_38]
theorem mm_39 : am_m 39 = (yX5_spread, cX5_spread, 7, none, 5, false, 2, 4, 95, am_c39, [3050, 1006, 3048, 3049]) := rfl
theorem ss_39 : am_ss 39 = false := by rw [am_ss, mm_39]
theorem ml_39 : am_ml 39 = 7 := by rw [am_ml, mm_39]
theorem oc_39 : am_oc 39 = 5 := by rw [am_oc, mm_39]
theorem cd_39 : am_code 39 = am_c39 := by rw [am_code, mm_39]
theorem mm_40 : am_m 40 = (yX5_soonestOf, cX5_soonestOf, 5, some .int, 5, false, 1, 0, 0, am_c40, [3056, 1006, 3055, 12]) := rfl
theorem ss_40 : am_ss 40 = false := by rw [am_ss, mm_40]
theorem ml_40 : am_ml 40 = 5 := by rw [am_ml, mm_40]
theorem oc_40 : am_oc 40 = 5 := by rw [am_oc, mm_40]
theorem cd_40 : am_code 40 = am_c40 := by rw [am_code, mm_40]
theorem mm_41 : am_m 41 = (yX5_reach, cX5_reach, 5, some .int, 5, false, 3, 3, 71, am_c41, [3060, 1006, 3059, 13]) := rfl
theorem ss_41 : am_ss 41 = false := by rw [am_ss, mm_41]
theorem ml_41 : am_ml 41 = 5 := by rw [am_ml, mm_41]
theorem oc_41 : am_oc 41 = 5 := by rw [am_oc, mm_41]
theorem cd_41 : am_code 41 = am_c41 := by rw [am_code, mm_41]
theorem mm_42 : am_m 42 = (yX5_gateOfStep, cX5_gateOfStep, 7, some .int, 5, false, 3, 6, 141, am_c42, [3083, 1006, 3081, 3082]) := rfl
theorem ss_42 : am_ss 42 = false := by rw [am_ss, mm_42]
theorem ml_42 : am_ml 42 = 7 := by rw [am_ml, mm_42]
theorem oc_42 : am_oc 42 = 5 := by rw [am_oc, mm_42]
theorem cd_42 : am_code 42 = am_c42 := by rw [am_code, mm_42]
theorem mm_43 : am_m 43 = (yX5_stepsTo, cX5_stepsTo, 5, some .int, 5, false, 2, 5, 117, am_c43, [3087, 1006, 3086, 14]) := rfl
theorem ss_43 : am_ss 43 = false := by rw [am_ss, mm_43]
theorem ml_43 : am_ml 43 = 5 := by rw [am_ml, mm_43]
theorem oc_43 : am_oc 43 = 5 := by rw [am_oc, mm_43]
theorem cd_43 : am_code 43 = am_c43 := by rw [am_code, mm_43]
theorem mm_44 : am_m 44 = (yX5_gateAhead, cX5_gateAhead, 3, some .int, 5, false, 1, 4, 95, am_c44, [3091, 1006, 3090, 15]) := rfl
theorem ss_44 : am_ss 44 = false := by rw [am_ss, mm_44]
theorem ml_44 : am_ml 44 = 3 := by rw [am_ml, mm_44]
theorem oc_44 : am_oc 44 = 5 := by rw [am_oc, mm_44]
theorem cd_44 : am_code 44 = am_c44 := by rw [am_code, mm_44]
theorem mm_45 : am_m 45 = (yX5_lastStart, cX5_lastStart, 9, some .int, 5, false, 3, 5, 121, am_c45, [3099, 1006, 3097, 3098]) := rfl
theorem ss_45 : am_ss 45 = false := by rw [am_ss, mm_45]
theorem ml_45 : am_ml 45 = 9 := by rw [am_ml, mm_45]
theorem oc_45 : am_oc 45 = 5 := by rw [am_oc, mm_45]
theorem cd_45 : am_code 45 = am_c45 := by rw [am_code, mm_45]
theorem mm_46 : am_m 46 = (yX5_endOfRound, cX5_endOfRound, 8, some .int, 5, false, 3, 6, 147, am_c46, [3108, 1006, 3106, 3107]) := rfl
theorem ss_46 : am_ss 46 = false := by rw [am_ss, mm_46]
theorem ml_46 : am_ml 46 = 8 := by rw [am_ml, mm_46]
theorem oc_46 : am_oc 46 = 5 := by rw [am_oc, mm_46]
theorem cd_46 : am_code 46 = am_c46 := by rw [am_code, mm_46]
theorem mm_47 : am_m 47 = (yX5_addStops, cX5_addStops, 7, none, 5, false, 2, 5, 121, am_c47, [3112, 1006, 3111, 16]) := rfl
theorem ss_47 : am_ss 47 = false := by rw [am_ss, mm_47]
theorem ml_47 : am_ml 47 = 7 := by rw [am_ml, mm_47]
theorem oc_47 : am_oc 47 = 5 := by rw [am_oc, mm_47]
theorem cd_47 : am_code 47 = am_c47 := by rw [am_code, mm_47]
theorem mm_48 : am_m 48 = (yX5_longest, cX5_longest, 5, some .int, 5, false, 2, 5, 121, am_c48, [3148, 1006, 3146, 3147]) := rfl
theorem ss_48 : am_ss 48 = false := by rw [am_ss, mm_48]
theorem ml_48 : am_ml 48 = 5 := by rw [am_ml, mm_48]
theorem oc_48 : am_oc 48 = 5 := by rw [am_oc, mm_48]
theorem cd_48 : am_code 48 = am_c48 := by rw [am_code, mm_48]
theorem mm_49 : am_m 49 = (yX5_rememberAll, cX5_rememberAll, 4, none, 5, false, 1, 5, 121, am_c49, [3136, 1006, 3134, 3135]) := rfl
theorem ss_49 : am_ss 49 = false := by rw [am_ss, mm_49]
theorem ml_49 : am_ml 49 = 4 := by rw [am_ml, mm_49]
theorem oc_49 : am_oc 49 = 5 := by rw [am_oc, mm_49]
theorem cd_49 : am_code 49 = am_c49 := by rw [am_code, mm_49]
theorem mm_50 : am_m 50 = (yX5_countLater, cX5_countLater, 5, some .int, 5, false, 1, 5, 121, am_c50, [3140, 1006, 3138, 3139]) := rfl
theorem ss_50 : am_ss 50 = false := by rw [am_ss, mm_50]
theorem ml_50 : am_ml 50 = 5 := by rw [am_ml, mm_50]
theorem oc_50 : am_oc 50 = 5 := by rw [am_oc, mm_50]
theorem cd_50 : am_code 50 = am_c50 := by rw [am_code, mm_50]
theorem mm_51 : am_m 51 = (yX5_fewestPumps, cX5_fewestPumps, 4, some .int, 5, false, 0, 1, 22, am_c51, [3170, 1006, 3168, 3169]) := rfl
theorem ss_51 : am_ss 51 = false := by rw [am_ss, mm_51]
theorem ml_51 : am_ml 51 = 4 := by rw [am_ml, mm_51]
theorem oc_51 : am_oc 51 = 5 := by rw [am_oc, mm_51]
theorem cd_51 : am_code 51 = am_c51 := by rw [am_code, mm_51]
theorem mm_52 : am_m 52 = (yX5_collectPumpSets, cX5_collectPumpSets, 4, none, 5, false, 1, 6, 144, am_c52, [3157, 1006, 3155, 3156]) := rfl
theorem ss_52 : am_ss 52 = false := by rw [am_ss, mm_52]
theorem ml_52 : am_ml 52 = 4 := by rw [am_ml, mm_52]
theorem oc_52 : am_oc 52 = 5 := by rw [am_oc, mm_52]
theorem cd_52 : am_code 52 = am_c52 := by rw [am_code, mm_52]
theorem mm_53 : am_m 53 = (yX5_gatesInTime, cX5_gatesInTime, 5, some .int, 5, false, 2, 0, 0, am_c53, [3162, 1006, 3161, 20]) := rfl
theorem ss_53 : am_ss 53 = false := by rw [am_ss, mm_53]
theorem ml_53 : am_ml 53 = 5 := by rw [am_ml, mm_53]
theorem oc_53 : am_oc 53 = 5 := by rw [am_oc, mm_53]
theorem cd_53 : am_code 53 = am_c53 := by rw [am_code, mm_53]
theorem mm_54 : am_m 54 = (yX5_addPumpSet, cX5_addPumpSet, 3, none, 5, false, 1, 0, 0, am_c54, [3166, 1006, 3165, 21]) := rfl
theorem ss_54 : am_ss 54 = false := by rw [am_ss, mm_54]
theorem ml_54 : am_ml 54 = 3 := by rw [am_ml, mm_54]
theorem oc_54 : am_oc 54 = 5 := by rw [am_oc, mm_54]
theorem cd_54 : am_code 54 = am_c54 := by rw [am_code, mm_54]
theorem mm_55 : am_m 55 = (yX5_servesAll, cX5_servesAll, 3, some .boolean, 5, false, 1, 0, 0, am_c55, [3175, 1006, 3174, 22]) := rfl
theorem ss_55 : am_ss 55 = false := by rw [am_ss, mm_55]
theorem ml_55 : am_ml 55 = 3 := by rw [am_ml, mm_55]
theorem oc_55 : am_oc 55 = 5 := by rw [am_oc, mm_55]
theorem cd_55 : am_code 55 = am_c55 := by rw [am_code, mm_55]
theorem mm_56 : am_m 56 = (yX6_write, cX6_write, 5, some .int, 6, false, 2, 0, 0, am_c56, [2050, 1001, 2048, 2049]) := rfl
theorem ss_56 : am_ss 56 = false := by rw [am_ss, mm_56]
theorem ml_56 : am_ml 56 = 5 := by rw [am_ml, mm_56]
theorem oc_56 : am_oc 56 = 6 := by rw [am_oc, mm_56]
theorem cd_56 : am_code 56 = am_c56 := by rw [am_code, mm_56]
theorem mm_57 : am_m 57 = (yX6_wipe, cX6_wipe, 2, some .int, 6, false, 0, 0, 0, am_c57, [2054, 1001, 2052, 2053]) := rfl
theorem ss_57 : am_ss 57 = false := by rw [am_ss, mm_57]
theorem ml_57 : am_ml 57 = 2 := by rw [am_ml, mm_57]
theorem oc_57 : am_oc 57 = 6 := by rw [am_oc, mm_57]
theorem cd_57 : am_code 57 = am_c57 := by rw [am_code, mm_57]
theorem mm_58 : am_m 58 = (yX6_fault, cX6_fault, 1, some .int, 6, false, 0, 4, 88, am_c58, [2058, 1001, 2056, 2057]) := rfl
theorem ss_58 : am_ss 58 = false := by rw [am_ss, mm_58]
theorem ml_58 : am_ml 58 = 1 := by rw [am_ml, mm_58]
theorem oc_58 : am_oc 58 = 6 := by rw [am_oc, mm_58]
theorem cd_58 : am_code 58 = am_c58 := by rw [am_code, mm_58]
theorem mm_59 : am_m 59 = (yX6_city, cX6_city, 1, some .int, 6, false, 0, 4, 88, am_c59, [2100, 1001, 2098, 2099]) := rfl
theorem ss_59 : am_ss 59 = false := by rw [am_ss, mm_59]
theorem ml_59 : am_ml 59 = 1 := by rw [am_ml, mm_59]
theorem oc_59 : am_oc 59 = 6 := by rw [am_oc, mm_59]
theorem cd_59 : am_code 59 = am_c59 := by rw [am_code, mm_59]
theorem mm_60 : am_m 60 = (yX6_about, cX6_about, 2, some .int, 6, false, 1, 0, 0, am_c60, [2136, 1001, 2134, 2135]) := rfl
theorem ss_60 : am_ss 60 = false := by rw [am_ss, mm_60]
theorem ml_60 : am_ml 60 = 2 := by rw [am_ml, mm_60]
theorem oc_60 : am_oc 60 = 6 := by rw [am_oc, mm_60]
theorem cd_60 : am_code 60 = am_c60 := by rw [am_code, mm_60]
theorem mm_61 : am_m 61 = (yX6_gate, cX6_gate, 3, some .int, 6, false, 2, 1, 21, am_c61, [2140, 1001, 2138, 2139]) := rfl
theorem ss_61 : am_ss 61 = false := by rw [am_ss, mm_61]
theorem ml_61 : am_ml 61 = 3 := by rw [am_ml, mm_61]
theorem oc_61 : am_oc 61 = 6 := by rw [am_oc, mm_61]
theorem cd_61 : am_code 61 = am_c61 := by rw [am_code, mm_61]
theorem mm_62 : am_m 62 = (yX6_pace, cX6_pace, 2, some .int, 6, false, 1, 1, 20, am_c62, [2148, 1001, 2146, 2147]) := rfl
theorem ss_62 : am_ss 62 = false := by rw [am_ss, mm_62]
theorem ml_62 : am_ml 62 = 2 := by rw [am_ml, mm_62]
theorem oc_62 : am_oc 62 = 6 := by rw [am_oc, mm_62]
theorem cd_62 : am_code 62 = am_c62 := by rw [am_code, mm_62]
theorem mm_63 : am_m 63 = (yX6_turn, cX6_turn, 4, some .int, 6, false, 2, 1, 20, am_c63, [2153, 1001, 2151, 2152]) := rfl
theorem ss_63 : am_ss 63 = false := by rw [am_ss, mm_63]
theorem ml_63 : am_ml 63 = 4 := by rw [am_ml, mm_63]
theorem oc_63 : am_oc 63 = 6 := by rw [am_oc, mm_63]
theorem cd_63 : am_code 63 = am_c63 := by rw [am_code, mm_63]
theorem mm_64 : am_m 64 = (yX6_brake, cX6_brake, 5, some .int, 6, false, 3, 1, 23, am_c64, [2157, 1001, 2155, 2156]) := rfl
theorem ss_64 : am_ss 64 = false := by rw [am_ss, mm_64]
theorem ml_64 : am_ml 64 = 5 := by rw [am_ml, mm_64]
theorem oc_64 : am_oc 64 = 6 := by rw [am_oc, mm_64]
theorem cd_64 : am_code 64 = am_c64 := by rw [am_code, mm_64]
theorem mm_65 : am_m 65 = (yX6_dry, cX6_dry, 4, some .int, 6, false, 1, 2, 44, am_c65, [2165, 1001, 2163, 2164]) := rfl
theorem ss_65 : am_ss 65 = false := by rw [am_ss, mm_65]
theorem ml_65 : am_ml 65 = 4 := by rw [am_ml, mm_65]
theorem oc_65 : am_oc 65 = 6 := by rw [am_oc, mm_65]
theorem cd_65 : am_code 65 = am_c65 := by rw [am_code, mm_65]
theorem mm_66 : am_m 66 = (yX6_where, cX6_where, 3, some .int, 6, false, 2, 3, 66, am_c66, [2179, 1001, 2177, 2178]) := rfl
theorem ss_66 : am_ss 66 = false := by rw [am_ss, mm_66]
theorem ml_66 : am_ml 66 = 3 := by rw [am_ml, mm_66]
theorem oc_66 : am_oc 66 = 6 := by rw [am_oc, mm_66]
theorem cd_66 : am_code 66 = am_c66 := by rw [am_code, mm_66]
theorem mm_67 : am_m 67 = (yX6_open, cX6_open, 4, some .int, 6, false, 3, 3, 65, am_c67, [2204, 1001, 2202, 2203]) := rfl
theorem ss_67 : am_ss 67 = false := by rw [am_ss, mm_67]
theorem ml_67 : am_ml 67 = 4 := by rw [am_ml, mm_67]
theorem oc_67 : am_oc 67 = 6 := by rw [am_oc, mm_67]
theorem cd_67 : am_code 67 = am_c67 := by rw [am_code, mm_67]
theorem mm_68 : am_m 68 = (yX6_next, cX6_next, 5, some .int, 6, false, 3, 3, 71, am_c68, [2230, 1001, 2228, 2229]) := rfl
theorem ss_68 : am_ss 68 = false := by rw [am_ss, mm_68]
theorem ml_68 : am_ml 68 = 5 := by rw [am_ml, mm_68]
theorem oc_68 : am_oc 68 = 6 := by rw [am_oc, mm_68]
theorem cd_68 : am_code 68 = am_c68 := by rw [am_code, mm_68]
theorem mm_69 : am_m 69 = (yX6_stays, cX6_stays, 7, some .int, 6, false, 3, 3, 65, am_c69, [3008, 1001, 3006, 3007]) := rfl
theorem ss_69 : am_ss 69 = false := by rw [am_ss, mm_69]
theorem ml_69 : am_ml 69 = 7 := by rw [am_ml, mm_69]
theorem oc_69 : am_oc 69 = 6 := by rw [am_oc, mm_69]
theorem cd_69 : am_code 69 = am_c69 := by rw [am_code, mm_69]
theorem mm_70 : am_m 70 = (yX6_share, cX6_share, 7, some .int, 6, false, 3, 3, 69, am_c70, [3013, 1001, 3011, 3012]) := rfl
theorem ss_70 : am_ss 70 = false := by rw [am_ss, mm_70]
theorem ml_70 : am_ml 70 = 7 := by rw [am_ml, mm_70]
theorem oc_70 : am_oc 70 = 6 := by rw [am_oc, mm_70]
theorem cd_70 : am_code 70 = am_c70 := by rw [am_code, mm_70]
theorem mm_71 : am_m 71 = (yX6_meet, cX6_meet, 5, some .int, 6, false, 2, 4, 92, am_c71, [3027, 1001, 3025, 3026]) := rfl
theorem ss_71 : am_ss 71 = false := by rw [am_ss, mm_71]
theorem ml_71 : am_ml 71 = 5 := by rw [am_ml, mm_71]
theorem oc_71 : am_oc 71 = 6 := by rw [am_oc, mm_71]
theorem cd_71 : am_code 71 = am_c71 := by rw [am_code, mm_71]
theorem mm_72 : am_m 72 = (yX6_soonest, cX6_soonest, 4, some .int, 6, false, 3, 5, 121, am_c72, [3046, 1001, 3044, 3045]) := rfl
theorem ss_72 : am_ss 72 = false := by rw [am_ss, mm_72]
theorem ml_72 : am_ml 72 = 4 := by rw [am_ml, mm_72]
theorem oc_72 : am_oc 72 = 6 := by rw [am_oc, mm_72]
theorem cd_72 : am_code 72 = am_c72 := by rw [am_code, mm_72]
theorem mm_73 : am_m 73 = (yX6_step, cX6_step, 7, some .int, 6, false, 5, 7, 167, am_c73, [3079, 1001, 3077, 3078]) := rfl
theorem ss_73 : am_ss 73 = false := by rw [am_ss, mm_73]
theorem ml_73 : am_ml 73 = 7 := by rw [am_ml, mm_73]
theorem oc_73 : am_oc 73 = 6 := by rw [am_oc, mm_73]
theorem cd_73 : am_code 73 = am_c73 := by rw [am_code, mm_73]
theorem mm_74 : am_m 74 = (yX6_latest, cX6_latest, 4, some .int, 6, false, 3, 6, 149, am_c74, [3095, 1001, 3093, 3094]) := rfl
theorem ss_74 : am_ss 74 = false := by rw [am_ss, mm_74]
theorem ml_74 : am_ml 74 = 4 := by rw [am_ml, mm_74]
theorem oc_74 : am_oc 74 = 6 := by rw [am_oc, mm_74]
theorem cd_74 : am_code 74 = am_c74 := by rw [am_code, mm_74]
theorem mm_75 : am_m 75 = (yX6_round, cX6_round, 4, some .int, 6, false, 3, 7, 174, am_c75, [3104, 1001, 3102, 3103]) := rfl
theorem ss_75 : am_ss 75 = false := by rw [am_ss, mm_75]
theorem ml_75 : am_ml 75 = 4 := by rw [am_ml, mm_75]
theorem oc_75 : am_oc 75 = 6 := by rw [am_oc, mm_75]
theorem cd_75 : am_code 75 = am_c75 := by rw [am_code, mm_75]
theorem mm_76 : am_m 76 = (yX6_bestBrake, cX6_bestBrake, 7, some .int, 6, false, 5, 6, 150, am_c76, [3116, 1001, 3114, 3115]) := rfl
theorem ss_76 : am_ss 76 = false := by rw [am_ss, mm_76]
theorem ml_76 : am_ml 76 = 7 := by rw [am_ml, mm_76]
theorem oc_76 : am_oc 76 = 6 := by rw [am_oc, mm_76]
theorem cd_76 : am_code 76 = am_c76 := by rw [am_code, mm_76]
theorem mm_77 : am_m 77 = (yX6_harm, cX6_harm, 8, some .int, 6, false, 5, 6, 150, am_c77, [3132, 1001, 3130, 3131]) := rfl
theorem ss_77 : am_ss 77 = false := by rw [am_ss, mm_77]
theorem ml_77 : am_ml 77 = 8 := by rw [am_ml, mm_77]
theorem oc_77 : am_oc 77 = 6 := by rw [am_oc, mm_77]
theorem cd_77 : am_code 77 = am_c77 := by rw [am_code, mm_77]
theorem mm_78 : am_m 78 = (yX6_worst, cX6_worst, 3, some .int, 6, false, 2, 6, 145, am_c78, [3144, 1001, 3142, 3143]) := rfl
theorem ss_78 : am_ss 78 = false := by rw [am_ss, mm_78]
theorem ml_78 : am_ml 78 = 3 := by rw [am_ml, mm_78]
theorem oc_78 : am_oc 78 = 6 := by rw [am_oc, mm_78]
theorem cd_78 : am_code 78 = am_c78 := by rw [am_code, mm_78]
theorem mm_79 : am_m 79 = (yX6_pumps, cX6_pumps, 2, some .int, 6, false, 1, 7, 167, am_c79, [3153, 1001, 3151, 3152]) := rfl
theorem ss_79 : am_ss 79 = false := by rw [am_ss, mm_79]
theorem ml_79 : am_ml 79 = 2 := by rw [am_ml, mm_79]
theorem oc_79 : am_oc 79 = 6 := by rw [am_oc, mm_79]
theorem cd_79 : am_code 79 = am_c79 := by rw [am_code, mm_79]
theorem mm_80 : am_m 80 = (yX6_see, cX6_see, 4, some .int, 6, false, 3, 2, 43, am_c80, [3179, 1001, 3177, 3178]) := rfl
theorem ss_80 : am_ss 80 = false := by rw [am_ss, mm_80]
theorem ml_80 : am_ml 80 = 4 := by rw [am_ml, mm_80]
theorem oc_80 : am_oc 80 = 6 := by rw [am_oc, mm_80]
theorem cd_80 : am_code 80 = am_c80 := by rw [am_code, mm_80]
theorem mm_81 : am_m 81 = (yX6_unsee, cX6_unsee, 2, some .int, 6, false, 0, 0, 0, am_c81, [3187, 1001, 3185, 3186]) := rfl
theorem ss_81 : am_ss 81 = false := by rw [am_ss, mm_81]
theorem ml_81 : am_ml 81 = 2 := by rw [am_ml, mm_81]
theorem oc_81 : am_oc 81 = 6 := by rw [am_oc, mm_81]
theorem cd_81 : am_code 81 = am_c81 := by rw [am_code, mm_81]
theorem mm_82 : am_m 82 = (yX6_rows, cX6_rows, 1, some .int, 6, false, 0, 4, 93, am_c82, [3191, 1001, 3189, 3190]) := rfl
theorem ss_82 : am_ss 82 = false := by rw [am_ss, mm_82]
theorem ml_82 : am_ml 82 = 1 := by rw [am_ml, mm_82]
theorem oc_82 : am_oc 82 = 6 := by rw [am_oc, mm_82]
theorem cd_82 : am_code 82 = am_c82 := by rw [am_code, mm_82]
theorem mm_83 : am_m 83 = (yX6_likely, cX6_likely, 3, some .int, 6, false, 2, 4, 93, am_c83, [3223, 1001, 3221, 3222]) := rfl
theorem ss_83 : am_ss 83 = false := by rw [am_ss, mm_83]
theorem ml_83 : am_ml 83 = 3 := by rw [am_ml, mm_83]
theorem oc_83 : am_oc 83 = 6 := by rw [am_oc, mm_83]
theorem cd_83 : am_code 83 = am_c83 := by rw [am_code, mm_83]
theorem mm_84 : am_m 84 = (yX6_keep, cX6_keep, 3, some .int, 6, false, 1, 2, 69, am_c84, [3227, 1001, 3225, 3226]) := rfl
theorem ss_84 : am_ss 84 = false := by rw [am_ss, mm_84]
theorem ml_84 : am_ml 84 = 3 := by rw [am_ml, mm_84]
theorem oc_84 : am_oc 84 = 6 := by rw [am_oc, mm_84]
theorem cd_84 : am_code 84 = am_c84 := by rw [am_code, mm_84]
theorem mm_85 : am_m 85 = (yX6_again, cX6_again, 3, some .int, 6, false, 1, 2, 69, am_c85, [3239, 1001, 3237, 3238]) := rfl
theorem ss_85 : am_ss 85 = false := by rw [am_ss, mm_85]
theorem ml_85 : am_ml 85 = 3 := by rw [am_ml, mm_85]
theorem oc_85 : am_oc 85 = 6 := by rw [am_oc, mm_85]
theorem cd_85 : am_code 85 = am_c85 := by rw [am_code, mm_85]
theorem mm_86 : am_m 86 = (yX6_isRing, cX6_isRing, 1, some .boolean, 6, true, 1, 0, 0, am_c86, [2088, 1001, 2087, 0]) := rfl
theorem ss_86 : am_ss 86 = true := by rw [am_ss, mm_86]
theorem ml_86 : am_ml 86 = 1 := by rw [am_ml, mm_86]
theorem oc_86 : am_oc 86 = 6 := by rw [am_oc, mm_86]
theorem cd_86 : am_code 86 = am_c86 := by rw [am_code, mm_86]
theorem mm_87 : am_m 87 = (yX6_isSecond, cX6_isSecond, 1, some .boolean, 6, true, 1, 0, 0, am_c87, [2182, 1001, 2181, 0]) := rfl
theorem ss_87 : am_ss 87 = true := by rw [am_ss, mm_87]
theorem ml_87 : am_ml 87 = 1 := by rw [am_ml, mm_87]
theorem oc_87 : am_oc 87 = 6 := by rw [am_oc, mm_87]
theorem cd_87 : am_code 87 = am_c87 := by rw [am_code, mm_87]
theorem mm_88 : am_m 88 = (yX6_slotAt, cX6_slotAt, 2, some (.object "ThreeRings$Motion"), 6, false, 1, 0, 0, am_c88, [3231, 1001, 3230, 27]) := rfl
theorem ss_88 : am_ss 88 = false := by rw [am_ss, mm_88]
theorem ml_88 : am_ml 88 = 2 := by rw [am_ml, mm_88]
theorem oc_88 : am_oc 88 = 6 := by rw [am_oc, mm_88]
theorem cd_88 : am_code 88 = am_c88 := by rw [am_code, mm_88]
theorem mm_89 : am_m 89 = (yX6_areGates, cX6_areGates, 3, some .boolean, 6, false, 2, 1, 21, am_c89, [2208, 1001, 2207, 8]) := rfl
theorem ss_89 : am_ss 89 = false := by rw [am_ss, mm_89]
theorem ml_89 : am_ml 89 = 3 := by rw [am_ml, mm_89]
theorem oc_89 : am_oc 89 = 6 := by rw [am_oc, mm_89]
theorem cd_89 : am_code 89 = am_c89 := by rw [am_code, mm_89]
theorem mm_90 : am_m 90 = (yX6_orNone, cX6_orNone, 1, some .int, 6, true, 1, 0, 0, am_c90, [3075, 1001, 3074, 0]) := rfl
theorem ss_90 : am_ss 90 = true := by rw [am_ss, mm_90]
theorem ml_90 : am_ml 90 = 1 := by rw [am_ml, mm_90]
theorem oc_90 : am_oc 90 = 6 := by rw [am_oc, mm_90]
theorem cd_90 : am_code 90 = am_c90 := by rw [am_code, mm_90]
theorem mm_91 : am_m 91 = (yX6_commonDivisor, cX6_commonDivisor, 3, some .int, 6, true, 2, 1, 21, am_c91, [3022, 1001, 3021, 0]) := rfl
theorem ss_91 : am_ss 91 = true := by rw [am_ss, mm_91]
theorem ml_91 : am_ml 91 = 3 := by rw [am_ml, mm_91]
theorem oc_91 : am_oc 91 = 6 := by rw [am_oc, mm_91]
theorem cd_91 : am_code 91 = am_c91 := by rw [am_code, mm_91]
theorem mm_92 : am_m 92 = (yX6_refuseBestBrake, cX6_refuseBestBrake, 6, some .int, 6, false, 5, 2, 43, am_c92, [3120, 1001, 3119, 17]) := rfl
theorem ss_92 : am_ss 92 = false := by rw [am_ss, mm_92]
theorem ml_92 : am_ml 92 = 6 := by rw [am_ml, mm_92]
theorem oc_92 : am_oc 92 = 6 := by rw [am_oc, mm_92]
theorem cd_92 : am_code 92 = am_c92 := by rw [am_code, mm_92]
theorem mm_93 : am_m 93 = (yX6_layTrial, cX6_layTrial, 4, none, 6, false, 3, 3, 69, am_c93, [3128, 1001, 3127, 19]) := rfl
theorem ss_93 : am_ss 93 = false := by rw [am_ss, mm_93]
theorem ml_93 : am_ml 93 = 4 := by rw [am_ml, mm_93]
theorem oc_93 : am_oc 93 = 6 := by rw [am_oc, mm_93]
theorem cd_93 : am_code 93 = am_c93 := by rw [am_code, mm_93]
theorem mm_94 : am_m 94 = (yX6_bestBrakeStart, cX6_bestBrakeStart, 10, some .int, 6, false, 5, 5, 121, am_c94, [3124, 1001, 3123, 18]) := rfl
theorem ss_94 : am_ss 94 = false := by rw [am_ss, mm_94]
theorem ml_94 : am_ml 94 = 10 := by rw [am_ml, mm_94]
theorem oc_94 : am_oc 94 = 6 := by rw [am_oc, mm_94]
theorem cd_94 : am_code 94 = am_c94 := by rw [am_code, mm_94]
theorem mm_95 : am_m 95 = (yX7_in, cX7_in, 6, some .boolean, 7, true, 3, 0, 0, am_c95, [4119, 1008, 4118, 0]) := rfl
theorem ss_95 : am_ss 95 = true := by rw [am_ss, mm_95]
theorem ml_95 : am_ml 95 = 6 := by rw [am_ml, mm_95]
theorem oc_95 : am_oc 95 = 7 := by rw [am_oc, mm_95]
theorem cd_95 : am_code 95 = am_c95 := by rw [am_code, mm_95]
theorem mm_96 : am_m 96 = (yX7_has, cX7_has, 2, some .boolean, 7, true, 2, 0, 0, am_c96, [4150, 1008, 4149, 0]) := rfl
theorem ss_96 : am_ss 96 = true := by rw [am_ss, mm_96]
theorem ml_96 : am_ml 96 = 2 := by rw [am_ml, mm_96]
theorem oc_96 : am_oc 96 = 7 := by rw [am_oc, mm_96]
theorem cd_96 : am_code 96 = am_c96 := by rw [am_code, mm_96]
theorem mm_97 : am_m 97 = (yX7_many, cX7_many, 3, some .int, 7, true, 1, 0, 0, am_c97, [5016, 1008, 5015, 0]) := rfl
theorem ss_97 : am_ss 97 = true := by rw [am_ss, mm_97]
theorem ml_97 : am_ml 97 = 3 := by rw [am_ml, mm_97]
theorem oc_97 : am_oc 97 = 7 := by rw [am_oc, mm_97]
theorem cd_97 : am_code 97 = am_c97 := by rw [am_code, mm_97]
theorem mm_98 : am_m 98 = (yX7_noGate, cX7_noGate, 2, some .boolean, 7, false, 1, 1, 25, am_c98, [4170, 1008, 4169, 33]) := rfl
theorem ss_98 : am_ss 98 = false := by rw [am_ss, mm_98]
theorem ml_98 : am_ml 98 = 2 := by rw [am_ml, mm_98]
theorem oc_98 : am_oc 98 = 7 := by rw [am_oc, mm_98]
theorem cd_98 : am_code 98 = am_c98 := by rw [am_code, mm_98]
theorem mm_99 : am_m 99 = (yX7_noSecond, cX7_noSecond, 1, some .boolean, 7, true, 1, 1, 25, am_c99, [4196, 1008, 4195, 0]) := rfl
theorem ss_99 : am_ss 99 = true := by rw [am_ss, mm_99]
theorem ml_99 : am_ml 99 = 1 := by rw [am_ml, mm_99]
theorem oc_99 : am_oc 99 = 7 := by rw [am_oc, mm_99]
theorem cd_99 : am_code 99 = am_c99 := by rw [am_code, mm_99]
theorem mm_100 : am_m 100 = (yX7_noRing, cX7_noRing, 1, some .boolean, 7, true, 1, 1, 25, am_c100, [4146, 1008, 4145, 0]) := rfl
theorem ss_100 : am_ss 100 = true := by rw [am_ss, mm_100]
theorem ml_100 : am_ml 100 = 1 := by rw [am_ml, mm_100]
theorem oc_100 : am_oc 100 = 7 := by rw [am_oc, mm_100]
theorem cd_100 : am_code 100 = am_c100 := by rw [am_code, mm_100]
theorem mm_101 : am_m 101 = (yX7_write, cX7_write, 5, some .int, 7, false, 2, 1, 25, am_c101, [4115, 1008, 4113, 4114]) := rfl
theorem ss_101 : am_ss 101 = false := by rw [am_ss, mm_101]
theorem ml_101 : am_ml 101 = 5 := by rw [am_ml, mm_101]
theorem oc_101 : am_oc 101 = 7 := by rw [am_oc, mm_101]
theorem cd_101 : am_code 101 = am_c101 := by rw [am_code, mm_101]
theorem mm_102 : am_m 102 = (yX7_wipe, cX7_wipe, 2, some .int, 7, false, 0, 0, 0, am_c102, [4123, 1008, 4121, 4122]) := rfl
theorem ss_102 : am_ss 102 = false := by rw [am_ss, mm_102]
theorem ml_102 : am_ml 102 = 2 := by rw [am_ml, mm_102]
theorem oc_102 : am_oc 102 = 7 := by rw [am_oc, mm_102]
theorem cd_102 : am_code 102 = am_c102 := by rw [am_code, mm_102]
theorem mm_103 : am_m 103 = (yX7_figure, cX7_figure, 3, some .int, 7, false, 2, 1, 25, am_c103, [4135, 1008, 4134, 29]) := rfl
theorem ss_103 : am_ss 103 = false := by rw [am_ss, mm_103]
theorem ml_103 : am_ml 103 = 3 := by rw [am_ml, mm_103]
theorem oc_103 : am_oc 103 = 7 := by rw [am_oc, mm_103]
theorem cd_103 : am_code 103 = am_c103 := by rw [am_code, mm_103]
theorem mm_104 : am_m 104 = (yX7_readRingPart, cX7_readRingPart, 4, some .boolean, 7, false, 1, 2, 47, am_c104, [4143, 1008, 4142, 31]) := rfl
theorem ss_104 : am_ss 104 = false := by rw [am_ss, mm_104]
theorem ml_104 : am_ml 104 = 4 := by rw [am_ml, mm_104]
theorem oc_104 : am_oc 104 = 7 := by rw [am_oc, mm_104]
theorem cd_104 : am_code 104 = am_c104 := by rw [am_code, mm_104]
theorem mm_105 : am_m 105 = (yX7_readGate, cX7_readGate, 7, some .boolean, 7, false, 0, 2, 47, am_c105, [4154, 1008, 4153, 32]) := rfl
theorem ss_105 : am_ss 105 = false := by rw [am_ss, mm_105]
theorem ml_105 : am_ml 105 = 7 := by rw [am_ml, mm_105]
theorem oc_105 : am_oc 105 = 7 := by rw [am_oc, mm_105]
theorem cd_105 : am_code 105 = am_c105 := by rw [am_code, mm_105]
theorem mm_106 : am_m 106 = (yX7_readPart, cX7_readPart, 4, some .boolean, 7, false, 0, 3, 73, am_c106, [4139, 1008, 4138, 30]) := rfl
theorem ss_106 : am_ss 106 = false := by rw [am_ss, mm_106]
theorem ml_106 : am_ml 106 = 4 := by rw [am_ml, mm_106]
theorem oc_106 : am_oc 106 = 7 := by rw [am_oc, mm_106]
theorem cd_106 : am_code 106 = am_c106 := by rw [am_code, mm_106]
theorem mm_107 : am_m 107 = (yX7_readCity, cX7_readCity, 2, some .int, 7, false, 0, 4, 96, am_c107, [4131, 1008, 4130, 28]) := rfl
theorem ss_107 : am_ss 107 = false := by rw [am_ss, mm_107]
theorem ml_107 : am_ml 107 = 2 := by rw [am_ml, mm_107]
theorem oc_107 : am_oc 107 = 7 := by rw [am_oc, mm_107]
theorem cd_107 : am_code 107 = am_c107 := by rw [am_code, mm_107]
theorem mm_108 : am_m 108 = (yX7_fault, cX7_fault, 1, some .int, 7, false, 0, 5, 117, am_c108, [4127, 1008, 4125, 4126]) := rfl
theorem ss_108 : am_ss 108 = false := by rw [am_ss, mm_108]
theorem ml_108 : am_ml 108 = 1 := by rw [am_ml, mm_108]
theorem oc_108 : am_oc 108 = 7 := by rw [am_oc, mm_108]
theorem cd_108 : am_code 108 = am_c108 := by rw [am_code, mm_108]
theorem mm_109 : am_m 109 = (yX7_city, cX7_city, 2, some .int, 7, false, 0, 5, 117, am_c109, [4158, 1008, 4156, 4157]) := rfl
theorem ss_109 : am_ss 109 = false := by rw [am_ss, mm_109]
theorem ml_109 : am_ml 109 = 2 := by rw [am_ml, mm_109]
theorem oc_109 : am_oc 109 = 7 := by rw [am_oc, mm_109]
theorem cd_109 : am_code 109 = am_c109 := by rw [am_code, mm_109]
theorem mm_110 : am_m 110 = (yX7_about, cX7_about, 2, some .int, 7, false, 1, 0, 0, am_c110, [4162, 1008, 4160, 4161]) := rfl
theorem ss_110 : am_ss 110 = false := by rw [am_ss, mm_110]
theorem ml_110 : am_ml 110 = 2 := by rw [am_ml, mm_110]
theorem oc_110 : am_oc 110 = 7 := by rw [am_oc, mm_110]
theorem cd_110 : am_code 110 = am_c110 := by rw [am_code, mm_110]
theorem mm_111 : am_m 111 = (yX7_gate, cX7_gate, 3, some .int, 7, false, 2, 2, 46, am_c111, [4166, 1008, 4164, 4165]) := rfl
theorem ss_111 : am_ss 111 = false := by rw [am_ss, mm_111]
theorem ml_111 : am_ml 111 = 3 := by rw [am_ml, mm_111]
theorem oc_111 : am_oc 111 = 7 := by rw [am_oc, mm_111]
theorem cd_111 : am_code 111 = am_c111 := by rw [am_code, mm_111]
theorem mm_112 : am_m 112 = (yX7_pace, cX7_pace, 2, some .int, 7, false, 1, 2, 45, am_c112, [4174, 1008, 4172, 4173]) := rfl
theorem ss_112 : am_ss 112 = false := by rw [am_ss, mm_112]
theorem ml_112 : am_ml 112 = 2 := by rw [am_ml, mm_112]
theorem oc_112 : am_oc 112 = 7 := by rw [am_oc, mm_112]
theorem cd_112 : am_code 112 = am_c112 := by rw [am_code, mm_112]
theorem mm_113 : am_m 113 = (yX7_turn, cX7_turn, 4, some .int, 7, false, 2, 2, 45, am_c113, [4178, 1008, 4176, 4177]) := rfl
theorem ss_113 : am_ss 113 = false := by rw [am_ss, mm_113]
theorem ml_113 : am_ml 113 = 4 := by rw [am_ml, mm_113]
theorem oc_113 : am_oc 113 = 7 := by rw [am_oc, mm_113]
theorem cd_113 : am_code 113 = am_c113 := by rw [am_code, mm_113]
theorem mm_114 : am_m 114 = (yX7_brake, cX7_brake, 5, some .int, 7, false, 3, 2, 45, am_c114, [4184, 1008, 4182, 4183]) := rfl
theorem ss_114 : am_ss 114 = false := by rw [am_ss, mm_114]
theorem ml_114 : am_ml 114 = 5 := by rw [am_ml, mm_114]
theorem oc_114 : am_oc 114 = 7 := by rw [am_oc, mm_114]
theorem cd_114 : am_code 114 = am_c114 := by rw [am_code, mm_114]
theorem mm_115 : am_m 115 = (yX7_dry, cX7_dry, 6, some .int, 7, false, 1, 1, 25, am_c115, [4189, 1008, 4187, 4188]) := rfl
theorem ss_115 : am_ss 115 = false := by rw [am_ss, mm_115]
theorem ml_115 : am_ml 115 = 6 := by rw [am_ml, mm_115]
theorem oc_115 : am_oc 115 = 7 := by rw [am_oc, mm_115]
theorem cd_115 : am_code 115 = am_c115 := by rw [am_code, mm_115]
theorem mm_116 : am_m 116 = (yX7_turned, cX7_turned, 5, some .int, 7, false, 2, 0, 0, am_c116, [4205, 1008, 4204, 35]) := rfl
theorem ss_116 : am_ss 116 = false := by rw [am_ss, mm_116]
theorem ml_116 : am_ml 116 = 5 := by rw [am_ml, mm_116]
theorem oc_116 : am_oc 116 = 7 := by rw [am_oc, mm_116]
theorem cd_116 : am_code 116 = am_c116 := by rw [am_code, mm_116]
theorem mm_117 : am_m 117 = (yX7_spotBy, cX7_spotBy, 6, some .int, 7, false, 3, 0, 0, am_c117, [4209, 1008, 4208, 36]) := rfl
theorem ss_117 : am_ss 117 = false := by rw [am_ss, mm_117]
theorem ml_117 : am_ml 117 = 6 := by rw [am_ml, mm_117]
theorem oc_117 : am_oc 117 = 7 := by rw [am_oc, mm_117]
theorem cd_117 : am_code 117 = am_c117 := by rw [am_code, mm_117]
theorem mm_118 : am_m 118 = (yX7_spotAt, cX7_spotAt, 3, some .int, 7, false, 2, 1, 25, am_c118, [4201, 1008, 4200, 34]) := rfl
theorem ss_118 : am_ss 118 = false := by rw [am_ss, mm_118]
theorem ml_118 : am_ml 118 = 3 := by rw [am_ml, mm_118]
theorem oc_118 : am_oc 118 = 7 := by rw [am_oc, mm_118]
theorem cd_118 : am_code 118 = am_c118 := by rw [am_code, mm_118]
theorem mm_119 : am_m 119 = (yX7_where, cX7_where, 3, some .int, 7, false, 2, 2, 47, am_c119, [4193, 1008, 4191, 4192]) := rfl
theorem ss_119 : am_ss 119 = false := by rw [am_ss, mm_119]
theorem ml_119 : am_ml 119 = 3 := by rw [am_ml, mm_119]
theorem oc_119 : am_oc 119 = 7 := by rw [am_oc, mm_119]
theorem cd_119 : am_code 119 = am_c119 := by rw [am_code, mm_119]
theorem mm_120 : am_m 120 = (yX7_areBeside, cX7_areBeside, 5, some .boolean, 7, false, 2, 0, 0, am_c120, [4221, 1008, 4220, 38]) := rfl
theorem ss_120 : am_ss 120 = false := by rw [am_ss, mm_120]
theorem ml_120 : am_ml 120 = 5 := by rw [am_ml, mm_120]
theorem oc_120 : am_oc 120 = 7 := by rw [am_oc, mm_120]
theorem cd_120 : am_code 120 = am_c120 := by rw [am_code, mm_120]
theorem mm_121 : am_m 121 = (yX7_isOpenAt, cX7_isOpenAt, 10, some .boolean, 7, false, 5, 0, 0, am_c121, [4225, 1008, 4224, 39]) := rfl
theorem ss_121 : am_ss 121 = false := by rw [am_ss, mm_121]
theorem ml_121 : am_ml 121 = 10 := by rw [am_ml, mm_121]
theorem oc_121 : am_oc 121 = 7 := by rw [am_oc, mm_121]
theorem cd_121 : am_code 121 = am_c121 := by rw [am_code, mm_121]
theorem mm_122 : am_m 122 = (yX7_isOpen, cX7_isOpen, 4, some .boolean, 7, false, 3, 2, 47, am_c122, [4217, 1008, 4216, 37]) := rfl
theorem ss_122 : am_ss 122 = false := by rw [am_ss, mm_122]
theorem ml_122 : am_ml 122 = 4 := by rw [am_ml, mm_122]
theorem oc_122 : am_oc 122 = 7 := by rw [am_oc, mm_122]
theorem cd_122 : am_code 122 = am_c122 := by rw [am_code, mm_122]
theorem mm_123 : am_m 123 = (yX7_open, cX7_open, 4, some .int, 7, false, 3, 3, 70, am_c123, [4213, 1008, 4211, 4212]) := rfl
theorem ss_123 : am_ss 123 = false := by rw [am_ss, mm_123]
theorem ml_123 : am_ml 123 = 4 := by rw [am_ml, mm_123]
theorem oc_123 : am_oc 123 = 7 := by rw [am_oc, mm_123]
theorem cd_123 : am_code 123 = am_c123 := by rw [am_code, mm_123]
theorem mm_124 : am_m 124 = (yX7_calm, cX7_calm, 5, some .int, 7, false, 1, 0, 0, am_c124, [4238, 1008, 4237, 41]) := rfl
theorem ss_124 : am_ss 124 = false := by rw [am_ss, mm_124]
theorem ml_124 : am_ml 124 = 5 := by rw [am_ml, mm_124]
theorem oc_124 : am_oc 124 = 7 := by rw [am_oc, mm_124]
theorem cd_124 : am_code 124 = am_c124 := by rw [am_code, mm_124]
theorem mm_125 : am_m 125 = (yX7_nextOf, cX7_nextOf, 6, some .int, 7, false, 3, 3, 70, am_c125, [4233, 1008, 4232, 40]) := rfl
theorem ss_125 : am_ss 125 = false := by rw [am_ss, mm_125]
theorem ml_125 : am_ml 125 = 6 := by rw [am_ml, mm_125]
theorem oc_125 : am_oc 125 = 7 := by rw [am_oc, mm_125]
theorem cd_125 : am_code 125 = am_c125 := by rw [am_code, mm_125]
theorem mm_126 : am_m 126 = (yX7_next, cX7_next, 5, some .int, 7, false, 3, 4, 95, am_c126, [4229, 1008, 4227, 4228]) := rfl
theorem ss_126 : am_ss 126 = false := by rw [am_ss, mm_126]
theorem ml_126 : am_ml 126 = 5 := by rw [am_ml, mm_126]
theorem oc_126 : am_oc 126 = 7 := by rw [am_oc, mm_126]
theorem cd_126 : am_code 126 = am_c126 := by rw [am_code, mm_126]
theorem mm_127 : am_m 127 = (yX7_stays, cX7_stays, 6, some .int, 7, false, 3, 3, 70, am_c127, [5002, 1008, 5000, 5001]) := rfl
theorem ss_127 : am_ss 127 = false := by rw [am_ss, mm_127]
theorem ml_127 : am_ml 127 = 6 := by rw [am_ml, mm_127]
theorem oc_127 : am_oc 127 = 7 := by rw [am_oc, mm_127]
theorem cd_127 : am_code 127 = am_c127 := by rw [am_code, mm_127]
theorem mm_128 : am_m 128 = (yX7_told, cX7_told, 6, some .int, 7, true, 3, 0, 0, am_c128, [5009, 1008, 5008, 0]) := rfl
theorem ss_128 : am_ss 128 = true := by rw [am_ss, mm_128]
theorem ml_128 : am_ml 128 = 6 := by rw [am_ml, mm_128]
theorem oc_128 : am_oc 128 = 7 := by rw [am_oc, mm_128]
theorem cd_128 : am_code 128 = am_c128 := by rw [am_code, mm_128]
theorem mm_129 : am_m 129 = (yX7_share, cX7_share, 6, some .int, 7, false, 3, 2, 46, am_c129, [5006, 1008, 5004, 5005]) := rfl
theorem ss_129 : am_ss 129 = false := by rw [am_ss, mm_129]
theorem ml_129 : am_ml 129 = 6 := by rw [am_ml, mm_129]
theorem oc_129 : am_oc 129 = 7 := by rw [am_oc, mm_129]
theorem cd_129 : am_code 129 = am_c129 := by rw [am_code, mm_129]
theorem mm_130 : am_m 130 = (yX7_meets, cX7_meets, 6, some .boolean, 7, false, 2, 2, 47, am_c130, [5020, 1008, 5019, 42]) := rfl
theorem ss_130 : am_ss 130 = false := by rw [am_ss, mm_130]
theorem ml_130 : am_ml 130 = 6 := by rw [am_ml, mm_130]
theorem oc_130 : am_oc 130 = 7 := by rw [am_oc, mm_130]
theorem cd_130 : am_code 130 = am_c130 := by rw [am_code, mm_130]
theorem mm_131 : am_m 131 = (yX7_meet, cX7_meet, 5, some .int, 7, false, 2, 3, 72, am_c131, [5013, 1008, 5011, 5012]) := rfl
theorem ss_131 : am_ss 131 = false := by rw [am_ss, mm_131]
theorem ml_131 : am_ml 131 = 5 := by rw [am_ml, mm_131]
theorem oc_131 : am_oc 131 = 7 := by rw [am_oc, mm_131]
theorem cd_131 : am_code 131 = am_c131 := by rw [am_code, mm_131]
theorem mm_132 : am_m 132 = (yX7_by, cX7_by, 6, some .int, 7, false, 3, 4, 95, am_c132, [5036, 1008, 5035, 45]) := rfl
theorem ss_132 : am_ss 132 = false := by rw [am_ss, mm_132]
theorem ml_132 : am_ml 132 = 6 := by rw [am_ml, mm_132]
theorem oc_132 : am_oc 132 = 7 := by rw [am_oc, mm_132]
theorem cd_132 : am_code 132 = am_c132 := by rw [am_code, mm_132]
theorem mm_133 : am_m 133 = (yX7_goFrom, cX7_goFrom, 7, none, 7, false, 2, 5, 120, am_c133, [5032, 1008, 5031, 44]) := rfl
theorem ss_133 : am_ss 133 = false := by rw [am_ss, mm_133]
theorem ml_133 : am_ml 133 = 7 := by rw [am_ml, mm_133]
theorem oc_133 : am_oc 133 = 7 := by rw [am_oc, mm_133]
theorem cd_133 : am_code 133 = am_c133 := by rw [am_code, mm_133]
theorem mm_134 : am_m 134 = (yX7_soonestOf, cX7_soonestOf, 4, some .int, 7, false, 3, 6, 146, am_c134, [5028, 1008, 5027, 43]) := rfl
theorem ss_134 : am_ss 134 = false := by rw [am_ss, mm_134]
theorem ml_134 : am_ml 134 = 4 := by rw [am_ml, mm_134]
theorem oc_134 : am_oc 134 = 7 := by rw [am_oc, mm_134]
theorem cd_134 : am_code 134 = am_c134 := by rw [am_code, mm_134]
theorem mm_135 : am_m 135 = (yX7_soonest, cX7_soonest, 5, some .int, 7, false, 3, 7, 169, am_c135, [5024, 1008, 5022, 5023]) := rfl
theorem ss_135 : am_ss 135 = false := by rw [am_ss, mm_135]
theorem ml_135 : am_ml 135 = 5 := by rw [am_ml, mm_135]
theorem oc_135 : am_oc 135 = 7 := by rw [am_oc, mm_135]
theorem cd_135 : am_code 135 = am_c135 := by rw [am_code, mm_135]
theorem mm_136 : am_m 136 = (yX7_step, cX7_step, 9, some .int, 7, false, 5, 7, 169, am_c136, [5040, 1008, 5038, 5039]) := rfl
theorem ss_136 : am_ss 136 = false := by rw [am_ss, mm_136]
theorem ml_136 : am_ml 136 = 9 := by rw [am_ml, mm_136]
theorem oc_136 : am_oc 136 = 7 := by rw [am_oc, mm_136]
theorem cd_136 : am_code 136 = am_c136 := by rw [am_code, mm_136]
theorem mm_137 : am_m 137 = (yX7_latest, cX7_latest, 5, some .int, 7, false, 3, 7, 169, am_c137, [5044, 1008, 5042, 5043]) := rfl
theorem ss_137 : am_ss 137 = false := by rw [am_ss, mm_137]
theorem ml_137 : am_ml 137 = 5 := by rw [am_ml, mm_137]
theorem oc_137 : am_oc 137 = 7 := by rw [am_oc, mm_137]
theorem cd_137 : am_code 137 = am_c137 := by rw [am_code, mm_137]
theorem mm_138 : am_m 138 = (yX7_round, cX7_round, 10, some .int, 7, false, 3, 7, 169, am_c138, [5048, 1008, 5046, 5047]) := rfl
theorem ss_138 : am_ss 138 = false := by rw [am_ss, mm_138]
theorem ml_138 : am_ml 138 = 10 := by rw [am_ml, mm_138]
theorem oc_138 : am_oc 138 = 7 := by rw [am_oc, mm_138]
theorem cd_138 : am_code 138 = am_c138 := by rw [am_code, mm_138]
theorem mm_139 : am_m 139 = (yX7_findBrake, cX7_findBrake, 11, some .int, 7, false, 5, 7, 169, am_c139, [5056, 1008, 5055, 46]) := rfl
theorem ss_139 : am_ss 139 = false := by rw [am_ss, mm_139]
theorem ml_139 : am_ml 139 = 11 := by rw [am_ml, mm_139]
theorem oc_139 : am_oc 139 = 7 := by rw [am_oc, mm_139]
theorem cd_139 : am_code 139 = am_c139 := by rw [am_code, mm_139]
theorem mm_140 : am_m 140 = (yX7_bestBrake, cX7_bestBrake, 6, some .int, 7, false, 5, 8, 199, am_c140, [5052, 1008, 5050, 5051]) := rfl
theorem ss_140 : am_ss 140 = false := by rw [am_ss, mm_140]
theorem ml_140 : am_ml 140 = 6 := by rw [am_ml, mm_140]
theorem oc_140 : am_oc 140 = 7 := by rw [am_oc, mm_140]
theorem cd_140 : am_code 140 = am_c140 := by rw [am_code, mm_140]
theorem mm_141 : am_m 141 = (yX7_harm, cX7_harm, 12, some .int, 7, false, 5, 8, 199, am_c141, [5060, 1008, 5058, 5059]) := rfl
theorem ss_141 : am_ss 141 = false := by rw [am_ss, mm_141]
theorem ml_141 : am_ml 141 = 12 := by rw [am_ml, mm_141]
theorem oc_141 : am_oc 141 = 7 := by rw [am_oc, mm_141]
theorem cd_141 : am_code 141 = am_c141 := by rw [am_code, mm_141]
theorem mm_142 : am_m 142 = (yX7_layWorst, cX7_layWorst, 5, none, 7, false, 1, 6, 146, am_c142, [5068, 1008, 5067, 47]) := rfl
theorem ss_142 : am_ss 142 = false := by rw [am_ss, mm_142]
theorem ml_142 : am_ml 142 = 5 := by rw [am_ml, mm_142]
theorem oc_142 : am_oc 142 = 7 := by rw [am_oc, mm_142]
theorem cd_142 : am_code 142 = am_c142 := by rw [am_code, mm_142]
theorem mm_143 : am_m 143 = (yX7_worst, cX7_worst, 3, some .int, 7, false, 2, 7, 170, am_c143, [5064, 1008, 5062, 5063]) := rfl
theorem ss_143 : am_ss 143 = false := by rw [am_ss, mm_143]
theorem ml_143 : am_ml 143 = 3 := by rw [am_ml, mm_143]
theorem oc_143 : am_oc 143 = 7 := by rw [am_oc, mm_143]
theorem cd_143 : am_code 143 = am_c143 := by rw [am_code, mm_143]
theorem mm_144 : am_m 144 = (yX7_pumps, cX7_pumps, 5, some .int, 7, false, 1, 6, 146, am_c144, [5072, 1008, 5070, 5071]) := rfl
theorem ss_144 : am_ss 144 = false := by rw [am_ss, mm_144]
theorem ml_144 : am_ml 144 = 5 := by rw [am_ml, mm_144]
theorem oc_144 : am_oc 144 = 7 := by rw [am_oc, mm_144]
theorem cd_144 : am_code 144 = am_c144 := by rw [am_code, mm_144]
theorem mm_145 : am_m 145 = (yX7_reachAll, cX7_reachAll, 6, some .boolean, 7, false, 1, 1, 21, am_c145, [5076, 1008, 5075, 48]) := rfl
theorem ss_145 : am_ss 145 = false := by rw [am_ss, mm_145]
theorem ml_145 : am_ml 145 = 6 := by rw [am_ml, mm_145]
theorem oc_145 : am_oc 145 = 7 := by rw [am_oc, mm_145]
theorem cd_145 : am_code 145 = am_c145 := by rw [am_code, mm_145]
theorem mm_146 : am_m 146 = (yX7_see, cX7_see, 4, some .int, 7, false, 3, 2, 46, am_c146, [5080, 1008, 5078, 5079]) := rfl
theorem ss_146 : am_ss 146 = false := by rw [am_ss, mm_146]
theorem ml_146 : am_ml 146 = 4 := by rw [am_ml, mm_146]
theorem oc_146 : am_oc 146 = 7 := by rw [am_oc, mm_146]
theorem cd_146 : am_code 146 = am_c146 := by rw [am_code, mm_146]
theorem mm_147 : am_m 147 = (yX7_unsee, cX7_unsee, 2, some .int, 7, false, 0, 0, 0, am_c147, [5084, 1008, 5082, 5083]) := rfl
theorem ss_147 : am_ss 147 = false := by rw [am_ss, mm_147]
theorem ml_147 : am_ml 147 = 2 := by rw [am_ml, mm_147]
theorem oc_147 : am_oc 147 = 7 := by rw [am_oc, mm_147]
theorem cd_147 : am_code 147 = am_c147 := by rw [am_code, mm_147]
theorem mm_148 : am_m 148 = (yX7_paceOf, cX7_paceOf, 2, some .int, 7, true, 2, 0, 0, am_c148, [5099, 1008, 5098, 0]) := rfl
theorem ss_148 : am_ss 148 = true := by rw [am_ss, mm_148]
theorem ml_148 : am_ml 148 = 2 := by rw [am_ml, mm_148]
theorem oc_148 : am_oc 148 = 7 := by rw [am_oc, mm_148]
theorem cd_148 : am_code 148 = am_c148 := by rw [am_code, mm_148]
theorem mm_149 : am_m 149 = (yX7_fitsAll, cX7_fitsAll, 5, some .boolean, 7, false, 1, 1, 21, am_c149, [5096, 1008, 5095, 50]) := rfl
theorem ss_149 : am_ss 149 = false := by rw [am_ss, mm_149]
theorem ml_149 : am_ml 149 = 5 := by rw [am_ml, mm_149]
theorem oc_149 : am_oc 149 = 7 := by rw [am_oc, mm_149]
theorem cd_149 : am_code 149 = am_c149 := by rw [am_code, mm_149]
theorem mm_150 : am_m 150 = (yX7_layRows, cX7_layRows, 5, some .int, 7, false, 0, 2, 45, am_c150, [5092, 1008, 5091, 49]) := rfl
theorem ss_150 : am_ss 150 = false := by rw [am_ss, mm_150]
theorem ml_150 : am_ml 150 = 5 := by rw [am_ml, mm_150]
theorem oc_150 : am_oc 150 = 7 := by rw [am_oc, mm_150]
theorem cd_150 : am_code 150 = am_c150 := by rw [am_code, mm_150]
theorem mm_151 : am_m 151 = (yX7_rows, cX7_rows, 1, some .int, 7, false, 0, 3, 69, am_c151, [5088, 1008, 5086, 5087]) := rfl
theorem ss_151 : am_ss 151 = false := by rw [am_ss, mm_151]
theorem ml_151 : am_ml 151 = 1 := by rw [am_ml, mm_151]
theorem oc_151 : am_oc 151 = 7 := by rw [am_oc, mm_151]
theorem cd_151 : am_code 151 = am_c151 := by rw [am_code, mm_151]
theorem mm_152 : am_m 152 = (yX7_likely, cX7_likely, 4, some .int, 7, false, 2, 3, 69, am_c152, [5103, 1008, 5101, 5102]) := rfl
theorem ss_152 : am_ss 152 = false := by rw [am_ss, mm_152]
theorem ml_152 : am_ml 152 = 4 := by rw [am_ml, mm_152]
theorem oc_152 : am_oc 152 = 7 := by rw [am_oc, mm_152]
theorem cd_152 : am_code 152 = am_c152 := by rw [am_code, mm_152]
theorem mm_153 : am_m 153 = (yX7_brakes, cX7_brakes, 3, some .int, 7, false, 0, 0, 0, am_c153, [5111, 1008, 5110, 51]) := rfl
theorem ss_153 : am_ss 153 = false := by rw [am_ss, mm_153]
theorem ml_153 : am_ml 153 = 3 := by rw [am_ml, mm_153]
theorem oc_153 : am_oc 153 = 7 := by rw [am_oc, mm_153]
theorem cd_153 : am_code 153 = am_c153 := by rw [am_code, mm_153]
theorem mm_154 : am_m 154 = (yX7_keep, cX7_keep, 3, some .int, 7, false, 1, 1, 25, am_c154, [5107, 1008, 5105, 5106]) := rfl
theorem ss_154 : am_ss 154 = false := by rw [am_ss, mm_154]
theorem ml_154 : am_ml 154 = 3 := by rw [am_ml, mm_154]
theorem oc_154 : am_oc 154 = 7 := by rw [am_oc, mm_154]
theorem cd_154 : am_code 154 = am_c154 := by rw [am_code, mm_154]
theorem mm_155 : am_m 155 = (yX7_again, cX7_again, 3, some .int, 7, false, 1, 1, 25, am_c155, [5115, 1008, 5113, 5114]) := rfl
theorem ss_155 : am_ss 155 = false := by rw [am_ss, mm_155]
theorem ml_155 : am_ml 155 = 3 := by rw [am_ml, mm_155]
theorem oc_155 : am_oc 155 = 7 := by rw [am_oc, mm_155]
theorem cd_155 : am_code 155 = am_c155 := by rw [am_code, mm_155]
theorem mm_156 : am_m 156 = (yJ6_bitCount_0f7a4, cJ6_bitCount_0f7a4, 1, some .int, 99, true, 1, 0, 0, am_c156, [3034, 1012, 3033, 0]) := rfl
theorem ss_156 : am_ss 156 = true := by rw [am_ss, mm_156]
theorem ml_156 : am_ml 156 = 1 := by rw [am_ml, mm_156]
theorem oc_156 : am_oc 156 = 99 := by rw [am_oc, mm_156]
theorem cd_156 : am_code 156 = am_c156 := by rw [am_code, mm_156]
theorem mm_157 : am_m 157 = (yJ9_floorMod_7cf53, cJ9_floorMod_7cf53, 3, some .int, 99, true, 2, 0, 0, am_c157, [2132, 1011, 2131, 0]) := rfl
theorem ss_157 : am_ss 157 = true := by rw [am_ss, mm_157]
theorem ml_157 : am_ml 157 = 3 := by rw [am_ml, mm_157]
theorem oc_157 : am_oc 157 = 99 := by rw [am_oc, mm_157]
theorem cd_157 : am_code 157 = am_c157 := by rw [am_code, mm_157]
theorem mm_158 : am_m 158 = (yJ9_abs_0f7a4, cJ9_abs_0f7a4, 1, some .int, 99, true, 1, 0, 0, am_c158, [3067, 1011, 3066, 0]) := rfl
theorem ss_158 : am_ss 158 = true := by rw [am_ss, mm_158]
theorem ml_158 : am_ml 158 = 1 := by rw [am_ml, mm_158]
theorem oc_158 : am_oc 158 = 99 := by rw [am_oc, mm_158]
theorem cd_158 : am_code 158 = am_c158 := by rw [am_code, mm_158]
theorem mm_159 : am_m 159 = (yJ9_max_7cf53, cJ9_max_7cf53, 2, some .int, 99, true, 2, 0, 0, am_c159, [2172, 1011, 2171, 0]) := rfl
theorem ss_159 : am_ss 159 = true := by rw [am_ss, mm_159]
theorem ml_159 : am_ml 159 = 2 := by rw [am_ml, mm_159]
theorem oc_159 : am_oc 159 = 99 := by rw [am_oc, mm_159]
theorem cd_159 : am_code 159 = am_c159 := by rw [am_code, mm_159]
theorem mm_160 : am_m 160 = (yJ9_min_7cf53, cJ9_min_7cf53, 2, some .int, 99, true, 2, 0, 0, am_c160, [2175, 1011, 2174, 0]) := rfl
theorem ss_160 : am_ss 160 = true := by rw [am_ss, mm_160]
theorem ml_160 : am_ml 160 = 2 := by rw [am_ml, mm_160]
theorem oc_160 : am_oc 160 = 99 := by rw [am_oc, mm_160]
theorem cd_160 : am_code 160 = am_c160 := by rw [am_code, mm_160]
theorem mm_161 : am_m 161 = (yJ7_fill_d0a16, cJ7_fill_d0a16, 5, none, 99, true, 2, 0, 0, am_c161, [3199, 1009, 3198, 0]) := rfl
theorem ss_161 : am_ss 161 = true := by rw [am_ss, mm_161]
theorem ml_161 : am_ml 161 = 5 := by rw [am_ml, mm_161]
theorem oc_161 : am_oc 161 = 99 := by rw [am_oc, mm_161]
theorem cd_161 : am_code 161 = am_c161 := by rw [am_code, mm_161]
theorem mm_162 : am_m 162 = (yJ7_fill_53178, cJ7_fill_53178, 4, none, 99, true, 2, 0, 0, am_c162, [2069, 1009, 2068, 0]) := rfl
theorem ss_162 : am_ss 162 = true := by rw [am_ss, mm_162]
theorem ml_162 : am_ml 162 = 4 := by rw [am_ml, mm_162]
theorem oc_162 : am_oc 162 = 99 := by rw [am_oc, mm_162]
theorem cd_162 : am_code 162 = am_c162 := by rw [am_code, mm_162]
theorem ca_0_85 (x0 : Option Nat) (h : am_H) (Q : am_P) : am_Call 0 [.inr (.inr (some 85)), .inr (.inr x0)] h Q = am_Ex 0 0 [some (.inr (.inr (some 85))), some (.inr (.inr x0)), none, none] [] h Q := am_call_Ve ss_0 ml_0 ly_85 oc_0 rfl rfl
theorem ca_1_85 (x0 : Int) (x1 : Int) (h : am_H) (Q : am_P) : am_Call 1 [.inr (.inr (some 85)), .inl x0, .inl x1] h Q = am_Ex 1 0 [some (.inr (.inr (some 85))), some (.inl x0), some (.inl x1), none] [] h Q := am_call_Ve ss_1 ml_1 ly_85 oc_1 rfl rfl
theorem ca_2_85 (x0 : Int) (x1 : Int) (h : am_H) (Q : am_P) : am_Call 2 [.inr (.inr (some 85)), .inl x0, .inl x1] h Q = am_Ex 2 0 [some (.inr (.inr (some 85))), some (.inl x0), some (.inl x1)] [] h Q := am_call_Ve ss_2 ml_2 ly_85 oc_2 rfl rfl
theorem ca_3_85 (x0 : Int) (x1 : Int) (x2 : Int) (h : am_H) (Q : am_P) : am_Call 3 [.inr (.inr (some 85)), .inl x0, .inl x1, .inl x2] h Q = am_Ex 3 0 [some (.inr (.inr (some 85))), some (.inl x0), some (.inl x1), some (.inl x2)] [] h Q := am_call_Ve ss_3 ml_3 ly_85 oc_3 rfl rfl
theorem ca_4_85 (x0 : Int) (x1 : Int) (x2 : Int) (h : am_H) (Q : am_P) : am_Call 4 [.inr (.inr (some 85)), .inl x0, .inl x1, .inl x2] h Q = am_Ex 4 0 [some (.inr (.inr (some 85))), some (.inl x0), some (.inl x1), some (.inl x2), none, none, none, none] [] h Q := am_call_Ve ss_4 ml_4 ly_85 oc_4 rfl rfl
theorem ca_5_79 (x0 : Option Nat) (h : am_H) (Q : am_P) : am_Call 5 [.inr (.inr (some 79)), .inr (.inr x0)] h Q = am_Ex 5 0 [some (.inr (.inr (some 79))), some (.inr (.inr x0)), none] [] h Q := am_call_Ve ss_5 ml_5 ly_79 oc_5 rfl rfl
theorem ca_5_80 (x0 : Option Nat) (h : am_H) (Q : am_P) : am_Call 5 [.inr (.inr (some 80)), .inr (.inr x0)] h Q = am_Ex 5 0 [some (.inr (.inr (some 80))), some (.inr (.inr x0)), none] [] h Q := am_call_Ve ss_5 ml_5 ly_80 oc_5 rfl rfl
theorem ca_5_81 (x0 : Option Nat) (h : am_H) (Q : am_P) : am_Call 5 [.inr (.inr (some 81)), .inr (.inr x0)] h Q = am_Ex 5 0 [some (.inr (.inr (some 81))), some (.inr (.inr x0)), none] [] h Q := am_call_Ve ss_5 ml_5 ly_81 oc_5 rfl rfl
theorem ca_5_82 (x0 : Option Nat) (h : am_H) (Q : am_P) : am_Call 5 [.inr (.inr (some 82)), .inr (.inr x0)] h Q = am_Ex 5 0 [some (.inr (.inr (some 82))), some (.inr (.inr x0)), none] [] h Q := am_call_Ve ss_5 ml_5 ly_82 oc_5 rfl rfl
theorem ca_6_79 (x0 : Option Nat) (h : am_H) (Q : am_P) : am_Call 6 [.inr (.inr (some 79)), .inr (.inr x0)] h Q = am_Ex 6 0 [some (.inr (.inr (some 79))), some (.inr (.inr x0))] [] h Q := am_call_Ve ss_6 ml_6 ly_79 oc_6 rfl rfl
theorem ca_6_80 (x0 : Option Nat) (h : am_H) (Q : am_P) : am_Call 6 [.inr (.inr (some 80)), .inr (.inr x0)] h Q = am_Ex 6 0 [some (.inr (.inr (some 80))), some (.inr (.inr x0))] [] h Q := am_call_Ve ss_6 ml_6 ly_80 oc_6 rfl rfl
theorem ca_6_81 (x0 : Option Nat) (h : am_H) (Q : am_P) : am_Call 6 [.inr (.inr (some 81)), .inr (.inr x0)] h Q = am_Ex 6 0 [some (.inr (.inr (some 81))), some (.inr (.inr x0))] [] h Q := am_call_Ve ss_6 ml_6 ly_81 oc_6 rfl rfl
theorem ca_6_82 (x0 : Option Nat) (h : am_H) (Q : am_P) : am_Call 6 [.inr (.inr (some 82)), .inr (.inr x0)] h Q = am_Ex 6 0 [some (.inr (.inr (some 82))), some (.inr (.inr x0))] [] h Q := am_call_Ve ss_6 ml_6 ly_82 oc_6 rfl rfl
theorem ca_7_79  (h : am_H) (Q : am_P) : am_Call 7 [.inr (.inr (some 79))] h Q = am_Ex 7 0 [some (.inr (.inr (some 79)))] [] h Q := am_call_Ve ss_7 ml_7 ly_79 oc_7 rfl rfl
theorem ca_7_80  (h : am_H) (Q : am_P) : am_Call 7 [.inr (.inr (some 80))] h Q = am_Ex 7 0 [some (.inr (.inr (some 80)))] [] h Q := am_call_Ve ss_7 ml_7 ly_80 oc_7 rfl rfl
theorem ca_7_81  (h : am_H) (Q : am_P) : am_Call 7 [.inr (.inr (some 81))] h Q = am_Ex 7 0 [some (.inr (.inr (some 81)))] [] h Q := am_call_Ve ss_7 ml_7 ly_81 oc_7 rfl rfl
theorem ca_7_82  (h : am_H) (Q : am_P) : am_Call 7 [.inr (.inr (some 82))] h Q = am_Ex 7 0 [some (.inr (.inr (some 82)))] [] h Q := am_call_Ve ss_7 ml_7 ly_82 oc_7 rfl rfl
theorem ca_8_79 (x0 : Int) (x1 : Int) (x2 : Int) (h : am_H) (Q : am_P) : am_Call 8 [.inr (.inr (some 79)), .inl x0, .inl x1, .inl x2] h Q = am_Ex 8 0 [some (.inr (.inr (some 79))), some (.inl x0), some (.inl x1), some (.inl x2)] [] h Q := am_call_Ve ss_8 ml_8 ly_79 oc_8 rfl rfl
theorem ca_8_80 (x0 : Int) (x1 : Int) (x2 : Int) (h : am_H) (Q : am_P) : am_Call 8 [.inr (.inr (some 80)), .inl x0, .inl x1, .inl x2] h Q = am_Ex 8 0 [some (.inr (.inr (some 80))), some (.inl x0), some (.inl x1), some (.inl x2)] [] h Q := am_call_Ve ss_8 ml_8 ly_80 oc_8 rfl rfl
theorem ca_8_81 (x0 : Int) (x1 : Int) (x2 : Int) (h : am_H) (Q : am_P) : am_Call 8 [.inr (.inr (some 81)), .inl x0, .inl x1, .inl x2] h Q = am_Ex 8 0 [some (.inr (.inr (some 81))), some (.inl x0), some (.inl x1), some (.inl x2)] [] h Q := am_call_Ve ss_8 ml_8 ly_81 oc_8 rfl rfl
theorem ca_8_82 (x0 : Int) (x1 : Int) (x2 : Int) (h : am_H) (Q : am_P) : am_Call 8 [.inr (.inr (some 82)), .inl x0, .inl x1, .inl x2] h Q = am_Ex 8 0 [some (.inr (.inr (some 82))), some (.inl x0), some (.inl x1), some (.inl x2)] [] h Q := am_call_Ve ss_8 ml_8 ly_82 oc_8 rfl rfl
theorem ca_9_79 (x0 : Int) (x1 : Int) (h : am_H) (Q : am_P) : am_Call 9 [.inr (.inr (some 79)), .inl x0, .inl x1] h Q = am_Ex 9 0 [some (.inr (.inr (some 79))), some (.inl x0), some (.inl x1), none] [] h Q := am_call_Ve ss_9 ml_9 ly_79 oc_9 rfl rfl
theorem ca_9_80 (x0 : Int) (x1 : Int) (h : am_H) (Q : am_P) : am_Call 9 [.inr (.inr (some 80)), .inl x0, .inl x1] h Q = am_Ex 9 0 [some (.inr (.inr (some 80))), some (.inl x0), some (.inl x1), none] [] h Q := am_call_Ve ss_9 ml_9 ly_80 oc_9 rfl rfl
theorem ca_9_81 (x0 : Int) (x1 : Int) (h : am_H) (Q : am_P) : am_Call 9 [.inr (.inr (some 81)), .inl x0, .inl x1] h Q = am_Ex 9 0 [some (.inr (.inr (some 81))), some (.inl x0), some (.inl x1), none] [] h Q := am_call_Ve ss_9 ml_9 ly_81 oc_9 rfl rfl
theorem ca_9_82 (x0 : Int) (x1 : Int) (h : am_H) (Q : am_P) : am_Call 9 [.inr (.inr (some 82)), .inl x0, .inl x1] h Q = am_Ex 9 0 [some (.inr (.inr (some 82))), some (.inl x0), some (.inl x1), none] [] h Q := am_call_Ve ss_9 ml_9 ly_82 oc_9 rfl rfl
theorem ca_10_79  (h : am_H) (Q : am_P) : am_Call 10 [.inr (.inr (some 79))] h Q = am_Ex 10 0 [some (.inr (.inr (some 79))), none, none] [] h Q := am_call_Ve ss_10 ml_10 ly_79 oc_10 rfl rfl
theorem ca_10_80  (h : am_H) (Q : am_P) : am_Call 10 [.inr (.inr (some 80))] h Q = am_Ex 10 0 [some (.inr (.inr (some 80))), none, none] [] h Q := am_call_Ve ss_10 ml_10 ly_80 oc_10 rfl rfl
theorem ca_10_81  (h : am_H) (Q : am_P) : am_Call 10 [.inr (.inr (some 81))] h Q = am_Ex 10 0 [some (.inr (.inr (some 81))), none, none] [] h Q := am_call_Ve ss_10 ml_10 ly_81 oc_10 rfl rfl
theorem ca_10_82  (h : am_H) (Q : am_P) : am_Call 10 [.inr (.inr (some 82))] h Q = am_Ex 10 0 [some (.inr (.inr (some 82))), none, none] [] h Q := am_call_Ve ss_10 ml_10 ly_82 oc_10 rfl rfl
theorem ca_11_79 (x0 : Int) (x1 : Int) (x2 : Int) (h : am_H) (Q : am_P) : am_Call 11 [.inr (.inr (some 79)), .inl x0, .inl x1, .inl x2] h Q = am_Ex 11 0 [some (.inr (.inr (some 79))), some (.inl x0), some (.inl x1), some (.inl x2)] [] h Q := am_call_Ve ss_11 ml_11 ly_79 oc_11 rfl rfl
theorem ca_11_80 (x0 : Int) (x1 : Int) (x2 : Int) (h : am_H) (Q : am_P) : am_Call 11 [.inr (.inr (some 80)), .inl x0, .inl x1, .inl x2] h Q = am_Ex 11 0 [some (.inr (.inr (some 80))), some (.inl x0), some (.inl x1), some (.inl x2)] [] h Q := am_call_Ve ss_11 ml_11 ly_80 oc_11 rfl rfl
theorem ca_11_81 (x0 : Int) (x1 : Int) (x2 : Int) (h : am_H) (Q : am_P) : am_Call 11 [.inr (.inr (some 81)), .inl x0, .inl x1, .inl x2] h Q = am_Ex 11 0 [some (.inr (.inr (some 81))), some (.inl x0), some (.inl x1), some (.inl x2)] [] h Q := am_call_Ve ss_11 ml_11 ly_81 oc_11 rfl rfl
theorem ca_11_82 (x0 : Int) (x1 : Int) (x2 : Int) (h : am_H) (Q : am_P) : am_Call 11 [.inr (.inr (some 82)), .inl x0, .inl x1, .inl x2] h Q = am_Ex 11 0 [some (.inr (.inr (some 82))), some (.inl x0), some (.inl x1), some (.inl x2)] [] h Q := am_call_Ve ss_11 ml_11 ly_82 oc_11 rfl rfl
theorem ca_12_77  (h : am_H) (Q : am_P) : am_Call 12 [.inr (.inr (some 77))] h Q = am_Ex 12 0 [some (.inr (.inr (some 77)))] [] h Q := am_call_Ve ss_12 ml_12 ly_77 oc_12 rfl rfl
theorem ca_12_78  (h : am_H) (Q : am_P) : am_Call 12 [.inr (.inr (some 78))] h Q = am_Ex 12 0 [some (.inr (.inr (some 78)))] [] h Q := am_call_Ve ss_12 ml_12 ly_78 oc_12 rfl rfl
theorem ca_13_77 (x0 : Option Nat) (h : am_H) (Q : am_P) : am_Call 13 [.inr (.inr (some 77)), .inr (.inr x0)] h Q = am_Ex 13 0 [some (.inr (.inr (some 77))), some (.inr (.inr x0))] [] h Q := am_call_Ve ss_13 ml_13 ly_77 oc_13 rfl rfl
theorem ca_13_78 (x0 : Option Nat) (h : am_H) (Q : am_P) : am_Call 13 [.inr (.inr (some 78)), .inr (.inr x0)] h Q = am_Ex 13 0 [some (.inr (.inr (some 78))), some (.inr (.inr x0))] [] h Q := am_call_Ve ss_13 ml_13 ly_78 oc_13 rfl rfl
theorem ca_14_77 (x0 : Int) (h : am_H) (Q : am_P) : am_Call 14 [.inr (.inr (some 77)), .inl x0] h Q = am_Ex 14 0 [some (.inr (.inr (some 77))), some (.inl x0)] [] h Q := am_call_Ve ss_14 ml_14 ly_77 oc_14 rfl rfl
theorem ca_14_78 (x0 : Int) (h : am_H) (Q : am_P) : am_Call 14 [.inr (.inr (some 78)), .inl x0] h Q = am_Ex 14 0 [some (.inr (.inr (some 78))), some (.inl x0)] [] h Q := am_call_Ve ss_14 ml_14 ly_78 oc_14 rfl rfl
theorem ca_15_77 (x0 : Int) (h : am_H) (Q : am_P) : am_Call 15 [.inr (.inr (some 77)), .inl x0] h Q = am_Ex 15 0 [some (.inr (.inr (some 77))), some (.inl x0)] [] h Q := am_call_Ve ss_15 ml_15 ly_77 oc_15 rfl rfl
theorem ca_15_78 (x0 : Int) (h : am_H) (Q : am_P) : am_Call 15 [.inr (.inr (some 78)), .inl x0] h Q = am_Ex 15 0 [some (.inr (.inr (some 78))), some (.inl x0)] [] h Q := am_call_Ve ss_15 ml_15 ly_78 oc_15 rfl rfl
theorem ca_16_77 (x0 : Int) (h : am_H) (Q : am_P) : am_Call 16 [.inr (.inr (some 77)), .inl x0] h Q = am_Ex 16 0 [some (.inr (.inr (some 77))), some (.inl x0)] [] h Q := am_call_Ve ss_16 ml_16 ly_77 oc_16 rfl rfl
theorem ca_16_78 (x0 : Int) (h : am_H) (Q : am_P) : am_Call 16 [.inr (.inr (some 78)), .inl x0] h Q = am_Ex 16 0 [some (.inr (.inr (some 78))), some (.inl x0)] [] h Q := am_call_Ve ss_16 ml_16 ly_78 oc_16 rfl rfl
theorem ca_17_77 (x0 : Int) (x1 : Int) (h : am_H) (Q : am_P) : am_Call 17 [.inr (.inr (some 77)), .inl x0, .inl x1] h Q = am_Ex 17 0 [some (.inr (.inr (some 77))), some (.inl x0), some (.inl x1), none] [] h Q := am_call_Ve ss_17 ml_17 ly_77 oc_17 rfl rfl
theorem ca_17_78 (x0 : Int) (x1 : Int) (h : am_H) (Q : am_P) : am_Call 17 [.inr (.inr (some 78)), .inl x0, .inl x1] h Q = am_Ex 17 0 [some (.inr (.inr (some 78))), some (.inl x0), some (.inl x1), none] [] h Q := am_call_Ve ss_17 ml_17 ly_78 oc_17 rfl rfl
theorem ca_18_76 (x0 : Option Nat) (x1 : Int) (h : am_H) (Q : am_P) : am_Call 18 [.inr (.inr (some 76)), .inr (.inr x0), .inl x1] h Q = am_Ex 18 0 [some (.inr (.inr (some 76))), some (.inr (.inr x0)), some (.inl x1), none] [] h Q := am_call_Ve ss_18 ml_18 ly_76 oc_18 rfl rfl
theorem ca_19_76 (x0 : Int) (h : am_H) (Q : am_P) : am_Call 19 [.inr (.inr (some 76)), .inl x0] h Q = am_Ex 19 0 [some (.inr (.inr (some 76))), some (.inl x0), none] [] h Q := am_call_Ve ss_19 ml_19 ly_76 oc_19 rfl rfl
theorem ca_20_76 (x0 : Int) (h : am_H) (Q : am_P) : am_Call 20 [.inr (.inr (some 76)), .inl x0] h Q = am_Ex 20 0 [some (.inr (.inr (some 76))), some (.inl x0)] [] h Q := am_call_Ve ss_20 ml_20 ly_76 oc_20 rfl rfl
theorem ca_21_76 (x0 : Int) (h : am_H) (Q : am_P) : am_Call 21 [.inr (.inr (some 76)), .inl x0] h Q = am_Ex 21 0 [some (.inr (.inr (some 76))), some (.inl x0)] [] h Q := am_call_Ve ss_21 ml_21 ly_76 oc_21 rfl rfl
theorem ca_22_76 (x0 : Int) (h : am_H) (Q : am_P) : am_Call 22 [.inr (.inr (some 76)), .inl x0] h Q = am_Ex 22 0 [some (.inr (.inr (some 76))), some (.inl x0)] [] h Q := am_call_Ve ss_22 ml_22 ly_76 oc_22 rfl rfl
theorem ca_23_76 (x0 : Int) (h : am_H) (Q : am_P) : am_Call 23 [.inr (.inr (some 76)), .inl x0] h Q = am_Ex 23 0 [some (.inr (.inr (some 76))), some (.inl x0)] [] h Q := am_call_Ve ss_23 ml_23 ly_76 oc_23 rfl rfl
theorem ca_24_76 (x0 : Int) (h : am_H) (Q : am_P) : am_Call 24 [.inr (.inr (some 76)), .inl x0] h Q = am_Ex 24 0 [some (.inr (.inr (some 76))), some (.inl x0), none] [] h Q := am_call_Ve ss_24 ml_24 ly_76 oc_24 rfl rfl
theorem ca_25_83  (h : am_H) (Q : am_P) : am_Call 25 [.inr (.inr (some 83))] h Q = am_Ex 25 0 [some (.inr (.inr (some 83))), none, none, none] [] h Q := am_call_Ve ss_25 ml_25 ly_83 oc_25 rfl rfl
theorem ca_26_83 (x0 : Int) (x1 : Int) (h : am_H) (Q : am_P) : am_Call 26 [.inr (.inr (some 83)), .inl x0, .inl x1] h Q = am_Ex 26 0 [some (.inr (.inr (some 83))), some (.inl x0), some (.inl x1)] [] h Q := am_call_Ve ss_26 ml_26 ly_83 oc_26 rfl rfl
theorem ca_27_83 (x0 : Option Nat) (h : am_H) (Q : am_P) : am_Call 27 [.inr (.inr (some 83)), .inr (.inr x0)] h Q = am_Ex 27 0 [some (.inr (.inr (some 83))), some (.inr (.inr x0)), none] [] h Q := am_call_Ve ss_27 ml_27 ly_83 oc_27 rfl rfl
theorem ca_28_83 (x0 : Int) (x1 : Int) (x2 : Int) (x3 : Int) (h : am_H) (Q : am_P) : am_Call 28 [.inr (.inr (some 83)), .inl x0, .inl x1, .inl x2, .inl x3] h Q = am_Ex 28 0 [some (.inr (.inr (some 83))), some (.inl x0), some (.inl x1), some (.inl x2), some (.inl x3), none, none] [] h Q := am_call_Ve ss_28 ml_28 ly_83 oc_28 rfl rfl
theorem ca_29_83 (x0 : Int) (h : am_H) (Q : am_P) : am_Call 29 [.inr (.inr (some 83)), .inl x0] h Q = am_Ex 29 0 [some (.inr (.inr (some 83))), some (.inl x0), none] [] h Q := am_call_Ve ss_29 ml_29 ly_83 oc_29 rfl rfl
theorem ca_30_83 (x0 : Int) (h : am_H) (Q : am_P) : am_Call 30 [.inr (.inr (some 83)), .inl x0] h Q = am_Ex 30 0 [some (.inr (.inr (some 83))), some (.inl x0)] [] h Q := am_call_Ve ss_30 ml_30 ly_83 oc_30 rfl rfl
theorem ca_31_83 (x0 : Int) (x1 : Int) (h : am_H) (Q : am_P) : am_Call 31 [.inr (.inr (some 83)), .inl x0, .inl x1] h Q = am_Ex 31 0 [some (.inr (.inr (some 83))), some (.inl x0), some (.inl x1), none] [] h Q := am_call_Ve ss_31 ml_31 ly_83 oc_31 rfl rfl
theorem ca_32_83 (x0 : Int) (x1 : Int) (h : am_H) (Q : am_P) : am_Call 32 [.inr (.inr (some 83)), .inl x0, .inl x1] h Q = am_Ex 32 0 [some (.inr (.inr (some 83))), some (.inl x0), some (.inl x1), none, none, none, none] [] h Q := am_call_Ve ss_32 ml_32 ly_83 oc_32 rfl rfl
theorem ca_33_83 (x0 : Int) (x1 : Int) (h : am_H) (Q : am_P) : am_Call 33 [.inr (.inr (some 83)), .inl x0, .inl x1] h Q = am_Ex 33 0 [some (.inr (.inr (some 83))), some (.inl x0), some (.inl x1), none] [] h Q := am_call_Ve ss_33 ml_33 ly_83 oc_33 rfl rfl
theorem ca_34_83 (x0 : Int) (x1 : Int) (h : am_H) (Q : am_P) : am_Call 34 [.inr (.inr (some 83)), .inl x0, .inl x1] h Q = am_Ex 34 0 [some (.inr (.inr (some 83))), some (.inl x0), some (.inl x1)] [] h Q := am_call_Ve ss_34 ml_34 ly_83 oc_34 rfl rfl
theorem ca_35_83 (x0 : Int) (h : am_H) (Q : am_P) : am_Call 35 [.inr (.inr (some 83)), .inl x0] h Q = am_Ex 35 0 [some (.inr (.inr (some 83))), some (.inl x0)] [] h Q := am_call_Ve ss_35 ml_35 ly_83 oc_35 rfl rfl
theorem ca_36_83 (x0 : Int) (x1 : Int) (h : am_H) (Q : am_P) : am_Call 36 [.inr (.inr (some 83)), .inl x0, .inl x1] h Q = am_Ex 36 0 [some (.inr (.inr (some 83))), some (.inl x0), some (.inl x1), none, none] [] h Q := am_call_Ve ss_36 ml_36 ly_83 oc_36 rfl rfl
theorem ca_37_83 (x0 : Int) (x1 : Int) (h : am_H) (Q : am_P) : am_Call 37 [.inr (.inr (some 83)), .inl x0, .inl x1] h Q = am_Ex 37 0 [some (.inr (.inr (some 83))), some (.inl x0), some (.inl x1), none, none, none, none, none, none] [] h Q := am_call_Ve ss_37 ml_37 ly_83 oc_37 rfl rfl
theorem ca_38_83 (x0 : Int) (x1 : Int) (x2 : Int) (x3 : Int) (h : am_H) (Q : am_P) : am_Call 38 [.inr (.inr (some 83)), .inl x0, .inl x1, .inl x2, .inl x3] h Q = am_Ex 38 0 [some (.inr (.inr (some 83))), some (.inl x0), some (.inl x1), some (.inl x2), some (.inl x3), none, none, none] [] h Q := am_call_Ve ss_38 ml_38 ly_83 oc_38 rfl rfl
theorem ca_39_84 (x0 : Int) (x1 : Int) (h : am_H) (Q : am_P) : am_Call 39 [.inr (.inr (some 84)), .inl x0, .inl x1] h Q = am_Ex 39 0 [some (.inr (.inr (some 84))), some (.inl x0), some (.inl x1), none, none, none, none] [] h Q := am_call_Ve ss_39 ml_39 ly_84 oc_39 rfl rfl
theorem ca_40_84 (x0 : Int) (h : am_H) (Q : am_P) : am_Call 40 [.inr (.inr (some 84)), .inl x0] h Q = am_Ex 40 0 [some (.inr (.inr (some 84))), some (.inl x0), none, none, none] [] h Q := am_call_Ve ss_40 ml_40 ly_84 oc_40 rfl rfl
theorem ca_41_84 (x0 : Int) (x1 : Int) (x2 : Int) (h : am_H) (Q : am_P) : am_Call 41 [.inr (.inr (some 84)), .inl x0, .inl x1, .inl x2] h Q = am_Ex 41 0 [some (.inr (.inr (some 84))), some (.inl x0), some (.inl x1), some (.inl x2), none] [] h Q := am_call_Ve ss_41 ml_41 ly_84 oc_41 rfl rfl
theorem ca_42_84 (x0 : Int) (x1 : Int) (x2 : Int) (h : am_H) (Q : am_P) : am_Call 42 [.inr (.inr (some 84)), .inl x0, .inl x1, .inl x2] h Q = am_Ex 42 0 [some (.inr (.inr (some 84))), some (.inl x0), some (.inl x1), some (.inl x2), none, none, none] [] h Q := am_call_Ve ss_42 ml_42 ly_84 oc_42 rfl rfl
theorem ca_43_84 (x0 : Int) (x1 : Int) (h : am_H) (Q : am_P) : am_Call 43 [.inr (.inr (some 84)), .inl x0, .inl x1] h Q = am_Ex 43 0 [some (.inr (.inr (some 84))), some (.inl x0), some (.inl x1), none, none] [] h Q := am_call_Ve ss_43 ml_43 ly_84 oc_43 rfl rfl
theorem ca_44_84 (x0 : Int) (h : am_H) (Q : am_P) : am_Call 44 [.inr (.inr (some 84)), .inl x0] h Q = am_Ex 44 0 [some (.inr (.inr (some 84))), some (.inl x0), none] [] h Q := am_call_Ve ss_44 ml_44 ly_84 oc_44 rfl rfl
theorem ca_45_84 (x0 : Int) (x1 : Int) (x2 : Int) (h : am_H) (Q : am_P) : am_Call 45 [.inr (.inr (some 84)), .inl x0, .inl x1, .inl x2] h Q = am_Ex 45 0 [some (.inr (.inr (some 84))), some (.inl x0), some (.inl x1), some (.inl x2), none, none, none, none, none] [] h Q := am_call_Ve ss_45 ml_45 ly_84 oc_45 rfl rfl
theorem ca_46_84 (x0 : Int) (x1 : Int) (x2 : Int) (h : am_H) (Q : am_P) : am_Call 46 [.inr (.inr (some 84)), .inl x0, .inl x1, .inl x2] h Q = am_Ex 46 0 [some (.inr (.inr (some 84))), some (.inl x0), some (.inl x1), some (.inl x2), none, none, none, none] [] h Q := am_call_Ve ss_46 ml_46 ly_84 oc_46 rfl rfl
theorem ca_47_84 (x0 : Int) (x1 : Int) (h : am_H) (Q : am_P) : am_Call 47 [.inr (.inr (some 84)), .inl x0, .inl x1] h Q = am_Ex 47 0 [some (.inr (.inr (some 84))), some (.inl x0), some (.inl x1), none, none, none, none] [] h Q := am_call_Ve ss_47 ml_47 ly_84 oc_47 rfl rfl
theorem ca_48_84 (x0 : Int) (x1 : Int) (h : am_H) (Q : am_P) : am_Call 48 [.inr (.inr (some 84)), .inl x0, .inl x1] h Q = am_Ex 48 0 [some (.inr (.inr (some 84))), some (.inl x0), some (.inl x1), none, none] [] h Q := am_call_Ve ss_48 ml_48 ly_84 oc_48 rfl rfl
theorem ca_49_84 (x0 : Int) (h : am_H) (Q : am_P) : am_Call 49 [.inr (.inr (some 84)), .inl x0] h Q = am_Ex 49 0 [some (.inr (.inr (some 84))), some (.inl x0), none, none] [] h Q := am_call_Ve ss_49 ml_49 ly_84 oc_49 rfl rfl
theorem ca_50_84 (x0 : Int) (h : am_H) (Q : am_P) : am_Call 50 [.inr (.inr (some 84)), .inl x0] h Q = am_Ex 50 0 [some (.inr (.inr (some 84))), some (.inl x0), none, none, none] [] h Q := am_call_Ve ss_50 ml_50 ly_84 oc_50 rfl rfl
theorem ca_51_84  (h : am_H) (Q : am_P) : am_Call 51 [.inr (.inr (some 84))] h Q = am_Ex 51 0 [some (.inr (.inr (some 84))), none, none, none] [] h Q := am_call_Ve ss_51 ml_51 ly_84 oc_51 rfl rfl
theorem ca_52_84 (x0 : Int) (h : am_H) (Q : am_P) : am_Call 52 [.inr (.inr (some 84)), .inl x0] h Q = am_Ex 52 0 [some (.inr (.inr (some 84))), some (.inl x0), none, none] [] h Q := am_call_Ve ss_52 ml_52 ly_84 oc_52 rfl rfl
theorem ca_53_84 (x0 : Int) (x1 : Int) (h : am_H) (Q : am_P) : am_Call 53 [.inr (.inr (some 84)), .inl x0, .inl x1] h Q = am_Ex 53 0 [some (.inr (.inr (some 84))), some (.inl x0), some (.inl x1), none, none] [] h Q := am_call_Ve ss_53 ml_53 ly_84 oc_53 rfl rfl
theorem ca_54_84 (x0 : Int) (h : am_H) (Q : am_P) : am_Call 54 [.inr (.inr (some 84)), .inl x0] h Q = am_Ex 54 0 [some (.inr (.inr (some 84))), some (.inl x0), none] [] h Q := am_call_Ve ss_54 ml_54 ly_84 oc_54 rfl rfl
theorem ca_55_84 (x0 : Int) (h : am_H) (Q : am_P) : am_Call 55 [.inr (.inr (some 84)), .inl x0] h Q = am_Ex 55 0 [some (.inr (.inr (some 84))), some (.inl x0), none] [] h Q := am_call_Ve ss_55 ml_55 ly_84 oc_55 rfl rfl
theorem ca_56_75 (x0 : Int) (x1 : Int64) (h : am_H) (Q : am_P) : am_Call 56 [.inr (.inr (some 75)), .inl x0, .inr (.inl x1)] h Q = am_Ex 56 0 [some (.inr (.inr (some 75))), some (.inl x0), some (.inr (.inl x1)), none, none] [] h Q := am_call_Ve ss_56 ml_56 ly_75 oc_56 rfl rfl
theorem ca_57_75  (h : am_H) (Q : am_P) : am_Call 57 [.inr (.inr (some 75))] h Q = am_Ex 57 0 [some (.inr (.inr (some 75))), none] [] h Q := am_call_Ve ss_57 ml_57 ly_75 oc_57 rfl rfl
theorem ca_58_75  (h : am_H) (Q : am_P) : am_Call 58 [.inr (.inr (some 75))] h Q = am_Ex 58 0 [some (.inr (.inr (some 75)))] [] h Q := am_call_Ve ss_58 ml_58 ly_75 oc_58 rfl rfl
theorem ca_59_75  (h : am_H) (Q : am_P) : am_Call 59 [.inr (.inr (some 75))] h Q = am_Ex 59 0 [some (.inr (.inr (some 75)))] [] h Q := am_call_Ve ss_59 ml_59 ly_75 oc_59 rfl rfl
theorem ca_60_75 (x0 : Int) (h : am_H) (Q : am_P) : am_Call 60 [.inr (.inr (some 75)), .inl x0] h Q = am_Ex 60 0 [some (.inr (.inr (some 75))), some (.inl x0)] [] h Q := am_call_Ve ss_60 ml_60 ly_75 oc_60 rfl rfl
theorem ca_61_75 (x0 : Int) (x1 : Int) (h : am_H) (Q : am_P) : am_Call 61 [.inr (.inr (some 75)), .inl x0, .inl x1] h Q = am_Ex 61 0 [some (.inr (.inr (some 75))), some (.inl x0), some (.inl x1)] [] h Q := am_call_Ve ss_61 ml_61 ly_75 oc_61 rfl rfl
theorem ca_62_75 (x0 : Int) (h : am_H) (Q : am_P) : am_Call 62 [.inr (.inr (some 75)), .inl x0] h Q = am_Ex 62 0 [some (.inr (.inr (some 75))), some (.inl x0)] [] h Q := am_call_Ve ss_62 ml_62 ly_75 oc_62 rfl rfl
theorem ca_63_75 (x0 : Int) (x1 : Int) (h : am_H) (Q : am_P) : am_Call 63 [.inr (.inr (some 75)), .inl x0, .inl x1] h Q = am_Ex 63 0 [some (.inr (.inr (some 75))), some (.inl x0), some (.inl x1), none] [] h Q := am_call_Ve ss_63 ml_63 ly_75 oc_63 rfl rfl
theorem ca_64_75 (x0 : Int) (x1 : Int) (x2 : Int) (h : am_H) (Q : am_P) : am_Call 64 [.inr (.inr (some 75)), .inl x0, .inl x1, .inl x2] h Q = am_Ex 64 0 [some (.inr (.inr (some 75))), some (.inl x0), some (.inl x1), some (.inl x2), none] [] h Q := am_call_Ve ss_64 ml_64 ly_75 oc_64 rfl rfl
theorem ca_65_75 (x0 : Int) (h : am_H) (Q : am_P) : am_Call 65 [.inr (.inr (some 75)), .inl x0] h Q = am_Ex 65 0 [some (.inr (.inr (some 75))), some (.inl x0), none, none] [] h Q := am_call_Ve ss_65 ml_65 ly_75 oc_65 rfl rfl
theorem ca_66_75 (x0 : Int) (x1 : Int) (h : am_H) (Q : am_P) : am_Call 66 [.inr (.inr (some 75)), .inl x0, .inl x1] h Q = am_Ex 66 0 [some (.inr (.inr (some 75))), some (.inl x0), some (.inl x1)] [] h Q := am_call_Ve ss_66 ml_66 ly_75 oc_66 rfl rfl
theorem ca_67_75 (x0 : Int) (x1 : Int) (x2 : Int) (h : am_H) (Q : am_P) : am_Call 67 [.inr (.inr (some 75)), .inl x0, .inl x1, .inl x2] h Q = am_Ex 67 0 [some (.inr (.inr (some 75))), some (.inl x0), some (.inl x1), some (.inl x2)] [] h Q := am_call_Ve ss_67 ml_67 ly_75 oc_67 rfl rfl
theorem ca_68_75 (x0 : Int) (x1 : Int) (x2 : Int) (h : am_H) (Q : am_P) : am_Call 68 [.inr (.inr (some 75)), .inl x0, .inl x1, .inl x2] h Q = am_Ex 68 0 [some (.inr (.inr (some 75))), some (.inl x0), some (.inl x1), some (.inl x2), none] [] h Q := am_call_Ve ss_68 ml_68 ly_75 oc_68 rfl rfl
theorem ca_69_75 (x0 : Int) (x1 : Int) (x2 : Int) (h : am_H) (Q : am_P) : am_Call 69 [.inr (.inr (some 75)), .inl x0, .inl x1, .inl x2] h Q = am_Ex 69 0 [some (.inr (.inr (some 75))), some (.inl x0), some (.inl x1), some (.inl x2), none, none, none] [] h Q := am_call_Ve ss_69 ml_69 ly_75 oc_69 rfl rfl
theorem ca_70_75 (x0 : Int) (x1 : Int) (x2 : Int) (h : am_H) (Q : am_P) : am_Call 70 [.inr (.inr (some 75)), .inl x0, .inl x1, .inl x2] h Q = am_Ex 70 0 [some (.inr (.inr (some 75))), some (.inl x0), some (.inl x1), some (.inl x2), none, none, none] [] h Q := am_call_Ve ss_70 ml_70 ly_75 oc_70 rfl rfl
theorem ca_71_75 (x0 : Int) (x1 : Int) (h : am_H) (Q : am_P) : am_Call 71 [.inr (.inr (some 75)), .inl x0, .inl x1] h Q = am_Ex 71 0 [some (.inr (.inr (some 75))), some (.inl x0), some (.inl x1), none, none] [] h Q := am_call_Ve ss_71 ml_71 ly_75 oc_71 rfl rfl
theorem ca_72_75 (x0 : Int) (x1 : Int) (x2 : Int) (h : am_H) (Q : am_P) : am_Call 72 [.inr (.inr (some 75)), .inl x0, .inl x1, .inl x2] h Q = am_Ex 72 0 [some (.inr (.inr (some 75))), some (.inl x0), some (.inl x1), some (.inl x2)] [] h Q := am_call_Ve ss_72 ml_72 ly_75 oc_72 rfl rfl
theorem ca_73_75 (x0 : Int) (x1 : Int) (x2 : Int) (x3 : Int) (x4 : Int) (h : am_H) (Q : am_P) : am_Call 73 [.inr (.inr (some 75)), .inl x0, .inl x1, .inl x2, .inl x3, .inl x4] h Q = am_Ex 73 0 [some (.inr (.inr (some 75))), some (.inl x0), some (.inl x1), some (.inl x2), some (.inl x3), some (.inl x4), none] [] h Q := am_call_Ve ss_73 ml_73 ly_75 oc_73 rfl rfl
theorem ca_74_75 (x0 : Int) (x1 : Int) (x2 : Int) (h : am_H) (Q : am_P) : am_Call 74 [.inr (.inr (some 75)), .inl x0, .inl x1, .inl x2] h Q = am_Ex 74 0 [some (.inr (.inr (some 75))), some (.inl x0), some (.inl x1), some (.inl x2)] [] h Q := am_call_Ve ss_74 ml_74 ly_75 oc_74 rfl rfl
theorem ca_75_75 (x0 : Int) (x1 : Int) (x2 : Int) (h : am_H) (Q : am_P) : am_Call 75 [.inr (.inr (some 75)), .inl x0, .inl x1, .inl x2] h Q = am_Ex 75 0 [some (.inr (.inr (some 75))), some (.inl x0), some (.inl x1), some (.inl x2)] [] h Q := am_call_Ve ss_75 ml_75 ly_75 oc_75 rfl rfl
theorem ca_76_75 (x0 : Int) (x1 : Int) (x2 : Int) (x3 : Int) (x4 : Int) (h : am_H) (Q : am_P) : am_Call 76 [.inr (.inr (some 75)), .inl x0, .inl x1, .inl x2, .inl x3, .inl x4] h Q = am_Ex 76 0 [some (.inr (.inr (some 75))), some (.inl x0), some (.inl x1), some (.inl x2), some (.inl x3), some (.inl x4), none] [] h Q := am_call_Ve ss_76 ml_76 ly_75 oc_76 rfl rfl
theorem ca_77_75 (x0 : Int) (x1 : Int) (x2 : Int) (x3 : Int) (x4 : Int) (h : am_H) (Q : am_P) : am_Call 77 [.inr (.inr (some 75)), .inl x0, .inl x1, .inl x2, .inl x3, .inl x4] h Q = am_Ex 77 0 [some (.inr (.inr (some 75))), some (.inl x0), some (.inl x1), some (.inl x2), some (.inl x3), some (.inl x4), none, none] [] h Q := am_call_Ve ss_77 ml_77 ly_75 oc_77 rfl rfl
theorem ca_78_75 (x0 : Int) (x1 : Int) (h : am_H) (Q : am_P) : am_Call 78 [.inr (.inr (some 75)), .inl x0, .inl x1] h Q = am_Ex 78 0 [some (.inr (.inr (some 75))), some (.inl x0), some (.inl x1)] [] h Q := am_call_Ve ss_78 ml_78 ly_75 oc_78 rfl rfl
theorem ca_79_75 (x0 : Int) (h : am_H) (Q : am_P) : am_Call 79 [.inr (.inr (some 75)), .inl x0] h Q = am_Ex 79 0 [some (.inr (.inr (some 75))), some (.inl x0)] [] h Q := am_call_Ve ss_79 ml_79 ly_75 oc_79 rfl rfl
theorem ca_80_75 (x0 : Int) (x1 : Int) (x2 : Int) (h : am_H) (Q : am_P) : am_Call 80 [.inr (.inr (some 75)), .inl x0, .inl x1, .inl x2] h Q = am_Ex 80 0 [some (.inr (.inr (some 75))), some (.inl x0), some (.inl x1), some (.inl x2)] [] h Q := am_call_Ve ss_80 ml_80 ly_75 oc_80 rfl rfl
theorem ca_81_75  (h : am_H) (Q : am_P) : am_Call 81 [.inr (.inr (some 75))] h Q = am_Ex 81 0 [some (.inr (.inr (some 75))), none] [] h Q := am_call_Ve ss_81 ml_81 ly_75 oc_81 rfl rfl
theorem ca_82_75  (h : am_H) (Q : am_P) : am_Call 82 [.inr (.inr (some 75))] h Q = am_Ex 82 0 [some (.inr (.inr (some 75)))] [] h Q := am_call_Ve ss_82 ml_82 ly_75 oc_82 rfl rfl
theorem ca_83_75 (x0 : Int) (x1 : Int) (h : am_H) (Q : am_P) : am_Call 83 [.inr (.inr (some 75)), .inl x0, .inl x1] h Q = am_Ex 83 0 [some (.inr (.inr (some 75))), some (.inl x0), some (.inl x1)] [] h Q := am_call_Ve ss_83 ml_83 ly_75 oc_83 rfl rfl
theorem ca_84_75 (x0 : Int) (h : am_H) (Q : am_P) : am_Call 84 [.inr (.inr (some 75)), .inl x0] h Q = am_Ex 84 0 [some (.inr (.inr (some 75))), some (.inl x0), none] [] h Q := am_call_Ve ss_84 ml_84 ly_75 oc_84 rfl rfl
theorem ca_85_75 (x0 : Int) (h : am_H) (Q : am_P) : am_Call 85 [.inr (.inr (some 75)), .inl x0] h Q = am_Ex 85 0 [some (.inr (.inr (some 75))), some (.inl x0), none] [] h Q := am_call_Ve ss_85 ml_85 ly_75 oc_85 rfl rfl
theorem ca_86 (x0 : Int) (h : am_H) (Q : am_P) : am_Call 86 [.inl x0] h Q = am_Ex 86 0 [some (.inl x0)] [] h Q := am_call_Se ss_86 ml_86 rfl rfl
theorem ca_87 (x0 : Int) (h : am_H) (Q : am_P) : am_Call 87 [.inl x0] h Q = am_Ex 87 0 [some (.inl x0)] [] h Q := am_call_Se ss_87 ml_87 rfl rfl
theorem ca_88_75 (x0 : Int) (h : am_H) (Q : am_P) : am_Call 88 [.inr (.inr (some 75)), .inl x0] h Q = am_Ex 88 0 [some (.inr (.inr (some 75))), some (.inl x0)] [] h Q := am_call_Ve ss_88 ml_88 ly_75 oc_88 rfl rfl
theorem ca_89_75 (x0 : Int) (x1 : Int) (h : am_H) (Q : am_P) : am_Call 89 [.inr (.inr (some 75)), .inl x0, .inl x1] h Q = am_Ex 89 0 [some (.inr (.inr (some 75))), some (.inl x0), some (.inl x1)] [] h Q := am_call_Ve ss_89 ml_89 ly_75 oc_89 rfl rfl
theorem ca_90 (x0 : Int) (h : am_H) (Q : am_P) : am_Call 90 [.inl x0] h Q = am_Ex 90 0 [some (.inl x0)] [] h Q := am_call_Se ss_90 ml_90 rfl rfl
theorem ca_91 (x0 : Int) (x1 : Int) (h : am_H) (Q : am_P) : am_Call 91 [.inl x0, .inl x1] h Q = am_Ex 91 0 [some (.inl x0), some (.inl x1), none] [] h Q := am_call_Se ss_91 ml_91 rfl rfl
theorem ca_92_75 (x0 : Int) (x1 : Int) (x2 : Int) (x3 : Int) (x4 : Int) (h : am_H) (Q : am_P) : am_Call 92 [.inr (.inr (some 75)), .inl x0, .inl x1, .inl x2, .inl x3, .inl x4] h Q = am_Ex 92 0 [some (.inr (.inr (some 75))), some (.inl x0), some (.inl x1), some (.inl x2), some (.inl x3), some (.inl x4)] [] h Q := am_call_Ve ss_92 ml_92 ly_75 oc_92 rfl rfl
theorem ca_93_75 (x0 : Int) (x1 : Int) (x2 : Int) (h : am_H) (Q : am_P) : am_Call 93 [.inr (.inr (some 75)), .inl x0, .inl x1, .inl x2] h Q = am_Ex 93 0 [some (.inr (.inr (some 75))), some (.inl x0), some (.inl x1), some (.inl x2)] [] h Q := am_call_Ve ss_93 ml_93 ly_75 oc_93 rfl rfl
theorem ca_94_75 (x0 : Int) (x1 : Int) (x2 : Int) (x3 : Int) (x4 : Int) (h : am_H) (Q : am_P) : am_Call 94 [.inr (.inr (some 75)), .inl x0, .inl x1, .inl x2, .inl x3, .inl x4] h Q = am_Ex 94 0 [some (.inr (.inr (some 75))), some (.inl x0), some (.inl x1), some (.inl x2), some (.inl x3), some (.inl x4), none, none, none, none] [] h Q := am_call_Ve ss_94 ml_94 ly_75 oc_94 rfl rfl
theorem ca_95 (x0 : Int64) (x1 : Int64) (x2 : Int64) (h : am_H) (Q : am_P) : am_Call 95 [.inr (.inl x0), .inr (.inl x1), .inr (.inl x2)] h Q = am_Ex 95 0 [some (.inr (.inl x0)), none, some (.inr (.inl x1)), none, some (.inr (.inl x2)), none] [] h Q := am_call_Se ss_95 ml_95 rfl rfl
theorem ca_96 (x0 : Int) (x1 : Int) (h : am_H) (Q : am_P) : am_Call 96 [.inl x0, .inl x1] h Q = am_Ex 96 0 [some (.inl x0), some (.inl x1)] [] h Q := am_call_Se ss_96 ml_96 rfl rfl
theorem ca_97 (x0 : Int) (h : am_H) (Q : am_P) : am_Call 97 [.inl x0] h Q = am_Ex 97 0 [some (.inl x0), none, none] [] h Q := am_call_Se ss_97 ml_97 rfl rfl
theorem ca_98_86 (x0 : Int) (h : am_H) (Q : am_P) : am_Call 98 [.inr (.inr (some 86)), .inl x0] h Q = am_Ex 98 0 [some (.inr (.inr (some 86))), some (.inl x0)] [] h Q := am_call_Ve ss_98 ml_98 ly_86 oc_98 rfl rfl
theorem ca_99 (x0 : Int) (h : am_H) (Q : am_P) : am_Call 99 [.inl x0] h Q = am_Ex 99 0 [some (.inl x0)] [] h Q := am_call_Se ss_99 ml_99 rfl rfl
theorem ca_100 (x0 : Int) (h : am_H) (Q : am_P) : am_Call 100 [.inl x0] h Q = am_Ex 100 0 [some (.inl x0)] [] h Q := am_call_Se ss_100 ml_100 rfl rfl
theorem ca_101_86 (x0 : Int) (x1 : Int64) (h : am_H) (Q : am_P) : am_Call 101 [.inr (.inr (some 86)), .inl x0, .inr (.inl x1)] h Q = am_Ex 101 0 [some (.inr (.inr (some 86))), some (.inl x0), some (.inr (.inl x1)), none, none] [] h Q := am_call_Ve ss_101 ml_101 ly_86 oc_101 rfl rfl
theorem ca_102_86  (h : am_H) (Q : am_P) : am_Call 102 [.inr (.inr (some 86))] h Q = am_Ex 102 0 [some (.inr (.inr (some 86))), none] [] h Q := am_call_Ve ss_102 ml_102 ly_86 oc_102 rfl rfl
theorem ca_103_86 (x0 : Int) (x1 : Int) (h : am_H) (Q : am_P) : am_Call 103 [.inr (.inr (some 86)), .inl x0, .inl x1] h Q = am_Ex 103 0 [some (.inr (.inr (some 86))), some (.inl x0), some (.inl x1)] [] h Q := am_call_Ve ss_103 ml_103 ly_86 oc_103 rfl rfl
theorem ca_104_86 (x0 : Int) (h : am_H) (Q : am_P) : am_Call 104 [.inr (.inr (some 86)), .inl x0] h Q = am_Ex 104 0 [some (.inr (.inr (some 86))), some (.inl x0), none, none] [] h Q := am_call_Ve ss_104 ml_104 ly_86 oc_104 rfl rfl
theorem ca_105_86  (h : am_H) (Q : am_P) : am_Call 105 [.inr (.inr (some 86))] h Q = am_Ex 105 0 [some (.inr (.inr (some 86))), none, none, none, none, none, none] [] h Q := am_call_Ve ss_105 ml_105 ly_86 oc_105 rfl rfl
theorem ca_106_86  (h : am_H) (Q : am_P) : am_Call 106 [.inr (.inr (some 86))] h Q = am_Ex 106 0 [some (.inr (.inr (some 86))), none, none, none] [] h Q := am_call_Ve ss_106 ml_106 ly_86 oc_106 rfl rfl
theorem ca_107_86  (h : am_H) (Q : am_P) : am_Call 107 [.inr (.inr (some 86))] h Q = am_Ex 107 0 [some (.inr (.inr (some 86))), none] [] h Q := am_call_Ve ss_107 ml_107 ly_86 oc_107 rfl rfl
theorem ca_108_86  (h : am_H) (Q : am_P) : am_Call 108 [.inr (.inr (some 86))] h Q = am_Ex 108 0 [some (.inr (.inr (some 86)))] [] h Q := am_call_Ve ss_108 ml_108 ly_86 oc_108 rfl rfl
theorem ca_109_86  (h : am_H) (Q : am_P) : am_Call 109 [.inr (.inr (some 86))] h Q = am_Ex 109 0 [some (.inr (.inr (some 86))), none] [] h Q := am_call_Ve ss_109 ml_109 ly_86 oc_109 rfl rfl
theorem ca_110_86 (x0 : Int) (h : am_H) (Q : am_P) : am_Call 110 [.inr (.inr (some 86)), .inl x0] h Q = am_Ex 110 0 [some (.inr (.inr (some 86))), some (.inl x0)] [] h Q := am_call_Ve ss_110 ml_110 ly_86 oc_110 rfl rfl
theorem ca_111_86 (x0 : Int) (x1 : Int) (h : am_H) (Q : am_P) : am_Call 111 [.inr (.inr (some 86)), .inl x0, .inl x1] h Q = am_Ex 111 0 [some (.inr (.inr (some 86))), some (.inl x0), some (.inl x1)] [] h Q := am_call_Ve ss_111 ml_111 ly_86 oc_111 rfl rfl
theorem ca_112_86 (x0 : Int) (h : am_H) (Q : am_P) : am_Call 112 [.inr (.inr (some 86)), .inl x0] h Q = am_Ex 112 0 [some (.inr (.inr (some 86))), some (.inl x0)] [] h Q := am_call_Ve ss_112 ml_112 ly_86 oc_112 rfl rfl
theorem ca_113_86 (x0 : Int) (x1 : Int) (h : am_H) (Q : am_P) : am_Call 113 [.inr (.inr (some 86)), .inl x0, .inl x1] h Q = am_Ex 113 0 [some (.inr (.inr (some 86))), some (.inl x0), some (.inl x1), none] [] h Q := am_call_Ve ss_113 ml_113 ly_86 oc_113 rfl rfl
theorem ca_114_86 (x0 : Int) (x1 : Int) (x2 : Int) (h : am_H) (Q : am_P) : am_Call 114 [.inr (.inr (some 86)), .inl x0, .inl x1, .inl x2] h Q = am_Ex 114 0 [some (.inr (.inr (some 86))), some (.inl x0), some (.inl x1), some (.inl x2), none] [] h Q := am_call_Ve ss_114 ml_114 ly_86 oc_114 rfl rfl
theorem ca_115_86 (x0 : Int) (h : am_H) (Q : am_P) : am_Call 115 [.inr (.inr (some 86)), .inl x0] h Q = am_Ex 115 0 [some (.inr (.inr (some 86))), some (.inl x0), none, none, none, none] [] h Q := am_call_Ve ss_115 ml_115 ly_86 oc_115 rfl rfl
theorem ca_116_86 (x0 : Int) (x1 : Int) (h : am_H) (Q : am_P) : am_Call 116 [.inr (.inr (some 86)), .inl x0, .inl x1] h Q = am_Ex 116 0 [some (.inr (.inr (some 86))), some (.inl x0), some (.inl x1), none, none] [] h Q := am_call_Ve ss_116 ml_116 ly_86 oc_116 rfl rfl
theorem ca_117_86 (x0 : Int) (x1 : Int) (x2 : Int) (h : am_H) (Q : am_P) : am_Call 117 [.inr (.inr (some 86)), .inl x0, .inl x1, .inl x2] h Q = am_Ex 117 0 [some (.inr (.inr (some 86))), some (.inl x0), some (.inl x1), some (.inl x2), none, none] [] h Q := am_call_Ve ss_117 ml_117 ly_86 oc_117 rfl rfl
theorem ca_118_86 (x0 : Int) (x1 : Int) (h : am_H) (Q : am_P) : am_Call 118 [.inr (.inr (some 86)), .inl x0, .inl x1] h Q = am_Ex 118 0 [some (.inr (.inr (some 86))), some (.inl x0), some (.inl x1)] [] h Q := am_call_Ve ss_118 ml_118 ly_86 oc_118 rfl rfl
theorem ca_119_86 (x0 : Int) (x1 : Int) (h : am_H) (Q : am_P) : am_Call 119 [.inr (.inr (some 86)), .inl x0, .inl x1] h Q = am_Ex 119 0 [some (.inr (.inr (some 86))), some (.inl x0), some (.inl x1)] [] h Q := am_call_Ve ss_119 ml_119 ly_86 oc_119 rfl rfl
theorem ca_120_86 (x0 : Int) (x1 : Int) (h : am_H) (Q : am_P) : am_Call 120 [.inr (.inr (some 86)), .inl x0, .inl x1] h Q = am_Ex 120 0 [some (.inr (.inr (some 86))), some (.inl x0), some (.inl x1), none, none] [] h Q := am_call_Ve ss_120 ml_120 ly_86 oc_120 rfl rfl
theorem ca_121_86 (x0 : Int) (x1 : Int) (x2 : Int) (x3 : Int) (x4 : Int) (h : am_H) (Q : am_P) : am_Call 121 [.inr (.inr (some 86)), .inl x0, .inl x1, .inl x2, .inl x3, .inl x4] h Q = am_Ex 121 0 [some (.inr (.inr (some 86))), some (.inl x0), some (.inl x1), some (.inl x2), some (.inl x3), some (.inl x4), none, none, none, none] [] h Q := am_call_Ve ss_121 ml_121 ly_86 oc_121 rfl rfl
theorem ca_122_86 (x0 : Int) (x1 : Int) (x2 : Int) (h : am_H) (Q : am_P) : am_Call 122 [.inr (.inr (some 86)), .inl x0, .inl x1, .inl x2] h Q = am_Ex 122 0 [some (.inr (.inr (some 86))), some (.inl x0), some (.inl x1), some (.inl x2)] [] h Q := am_call_Ve ss_122 ml_122 ly_86 oc_122 rfl rfl
theorem ca_123_86 (x0 : Int) (x1 : Int) (x2 : Int) (h : am_H) (Q : am_P) : am_Call 123 [.inr (.inr (some 86)), .inl x0, .inl x1, .inl x2] h Q = am_Ex 123 0 [some (.inr (.inr (some 86))), some (.inl x0), some (.inl x1), some (.inl x2)] [] h Q := am_call_Ve ss_123 ml_123 ly_86 oc_123 rfl rfl
theorem ca_124_86 (x0 : Int) (h : am_H) (Q : am_P) : am_Call 124 [.inr (.inr (some 86)), .inl x0] h Q = am_Ex 124 0 [some (.inr (.inr (some 86))), some (.inl x0), none, none, none] [] h Q := am_call_Ve ss_124 ml_124 ly_86 oc_124 rfl rfl
theorem ca_125_86 (x0 : Int) (x1 : Int) (x2 : Int) (h : am_H) (Q : am_P) : am_Call 125 [.inr (.inr (some 86)), .inl x0, .inl x1, .inl x2] h Q = am_Ex 125 0 [some (.inr (.inr (some 86))), some (.inl x0), some (.inl x1), some (.inl x2), none, none] [] h Q := am_call_Ve ss_125 ml_125 ly_86 oc_125 rfl rfl
theorem ca_126_86 (x0 : Int) (x1 : Int) (x2 : Int) (h : am_H) (Q : am_P) : am_Call 126 [.inr (.inr (some 86)), .inl x0, .inl x1, .inl x2] h Q = am_Ex 126 0 [some (.inr (.inr (some 86))), some (.inl x0), some (.inl x1), some (.inl x2), none] [] h Q := am_call_Ve ss_126 ml_126 ly_86 oc_126 rfl rfl
theorem ca_127_86 (x0 : Int) (x1 : Int) (x2 : Int) (h : am_H) (Q : am_P) : am_Call 127 [.inr (.inr (some 86)), .inl x0, .inl x1, .inl x2] h Q = am_Ex 127 0 [some (.inr (.inr (some 86))), some (.inl x0), some (.inl x1), some (.inl x2), none, none] [] h Q := am_call_Ve ss_127 ml_127 ly_86 oc_127 rfl rfl
theorem ca_128 (x0 : Int) (x1 : Int) (x2 : Int) (h : am_H) (Q : am_P) : am_Call 128 [.inl x0, .inl x1, .inl x2] h Q = am_Ex 128 0 [some (.inl x0), some (.inl x1), some (.inl x2), none, none, none] [] h Q := am_call_Se ss_128 ml_128 rfl rfl
theorem ca_129_86 (x0 : Int) (x1 : Int) (x2 : Int) (h : am_H) (Q : am_P) : am_Call 129 [.inr (.inr (some 86)), .inl x0, .inl x1, .inl x2] h Q = am_Ex 129 0 [some (.inr (.inr (some 86))), some (.inl x0), some (.inl x1), some (.inl x2), none, none] [] h Q := am_call_Ve ss_129 ml_129 ly_86 oc_129 rfl rfl
theorem ca_130_86 (x0 : Int) (x1 : Int) (h : am_H) (Q : am_P) : am_Call 130 [.inr (.inr (some 86)), .inl x0, .inl x1] h Q = am_Ex 130 0 [some (.inr (.inr (some 86))), some (.inl x0), some (.inl x1), none, none, none] [] h Q := am_call_Ve ss_130 ml_130 ly_86 oc_130 rfl rfl
theorem ca_131_86 (x0 : Int) (x1 : Int) (h : am_H) (Q : am_P) : am_Call 131 [.inr (.inr (some 86)), .inl x0, .inl x1] h Q = am_Ex 131 0 [some (.inr (.inr (some 86))), some (.inl x0), some (.inl x1), none, none] [] h Q := am_call_Ve ss_131 ml_131 ly_86 oc_131 rfl rfl
theorem ca_132_86 (x0 : Int) (x1 : Int) (x2 : Int) (h : am_H) (Q : am_P) : am_Call 132 [.inr (.inr (some 86)), .inl x0, .inl x1, .inl x2] h Q = am_Ex 132 0 [some (.inr (.inr (some 86))), some (.inl x0), some (.inl x1), some (.inl x2), none, none] [] h Q := am_call_Ve ss_132 ml_132 ly_86 oc_132 rfl rfl
theorem ca_133_86 (x0 : Int) (x1 : Int) (h : am_H) (Q : am_P) : am_Call 133 [.inr (.inr (some 86)), .inl x0, .inl x1] h Q = am_Ex 133 0 [some (.inr (.inr (some 86))), some (.inl x0), some (.inl x1), none, none, none, none] [] h Q := am_call_Ve ss_133 ml_133 ly_86 oc_133 rfl rfl
theorem ca_134_86 (x0 : Int) (x1 : Int) (x2 : Int) (h : am_H) (Q : am_P) : am_Call 134 [.inr (.inr (some 86)), .inl x0, .inl x1, .inl x2] h Q = am_Ex 134 0 [some (.inr (.inr (some 86))), some (.inl x0), some (.inl x1), some (.inl x2)] [] h Q := am_call_Ve ss_134 ml_134 ly_86 oc_134 rfl rfl
theorem ca_135_86 (x0 : Int) (x1 : Int) (x2 : Int) (h : am_H) (Q : am_P) : am_Call 135 [.inr (.inr (some 86)), .inl x0, .inl x1, .inl x2] h Q = am_Ex 135 0 [some (.inr (.inr (some 86))), some (.inl x0), some (.inl x1), some (.inl x2), none] [] h Q := am_call_Ve ss_135 ml_135 ly_86 oc_135 rfl rfl
theorem ca_136_86 (x0 : Int) (x1 : Int) (x2 : Int) (x3 : Int) (x4 : Int) (h : am_H) (Q : am_P) : am_Call 136 [.inr (.inr (some 86)), .inl x0, .inl x1, .inl x2, .inl x3, .inl x4] h Q = am_Ex 136 0 [some (.inr (.inr (some 86))), some (.inl x0), some (.inl x1), some (.inl x2), some (.inl x3), some (.inl x4), none, none, none] [] h Q := am_call_Ve ss_136 ml_136 ly_86 oc_136 rfl rfl
theorem ca_137_86 (x0 : Int) (x1 : Int) (x2 : Int) (h : am_H) (Q : am_P) : am_Call 137 [.inr (.inr (some 86)), .inl x0, .inl x1, .inl x2] h Q = am_Ex 137 0 [some (.inr (.inr (some 86))), some (.inl x0), some (.inl x1), some (.inl x2), none] [] h Q := am_call_Ve ss_137 ml_137 ly_86 oc_137 rfl rfl
theorem ca_138_86 (x0 : Int) (x1 : Int) (x2 : Int) (h : am_H) (Q : am_P) : am_Call 138 [.inr (.inr (some 86)), .inl x0, .inl x1, .inl x2] h Q = am_Ex 138 0 [some (.inr (.inr (some 86))), some (.inl x0), some (.inl x1), some (.inl x2), none, none, none, none, none, none] [] h Q := am_call_Ve ss_138 ml_138 ly_86 oc_138 rfl rfl
theorem ca_139_86 (x0 : Int) (x1 : Int) (x2 : Int) (x3 : Int) (x4 : Int) (h : am_H) (Q : am_P) : am_Call 139 [.inr (.inr (some 86)), .inl x0, .inl x1, .inl x2, .inl x3, .inl x4] h Q = am_Ex 139 0 [some (.inr (.inr (some 86))), some (.inl x0), some (.inl x1), some (.inl x2), some (.inl x3), some (.inl x4), none, none, none, none, none] [] h Q := am_call_Ve ss_139 ml_139 ly_86 oc_139 rfl rfl
theorem ca_140_86 (x0 : Int) (x1 : Int) (x2 : Int) (x3 : Int) (x4 : Int) (h : am_H) (Q : am_P) : am_Call 140 [.inr (.inr (some 86)), .inl x0, .inl x1, .inl x2, .inl x3, .inl x4] h Q = am_Ex 140 0 [some (.inr (.inr (some 86))), some (.inl x0), some (.inl x1), some (.inl x2), some (.inl x3), some (.inl x4)] [] h Q := am_call_Ve ss_140 ml_140 ly_86 oc_140 rfl rfl
theorem ca_141_86 (x0 : Int) (x1 : Int) (x2 : Int) (x3 : Int) (x4 : Int) (h : am_H) (Q : am_P) : am_Call 141 [.inr (.inr (some 86)), .inl x0, .inl x1, .inl x2, .inl x3, .inl x4] h Q = am_Ex 141 0 [some (.inr (.inr (some 86))), some (.inl x0), some (.inl x1), some (.inl x2), some (.inl x3), some (.inl x4), none, none, none, none, none, none] [] h Q := am_call_Ve ss_141 ml_141 ly_86 oc_141 rfl rfl
theorem ca_142_86 (x0 : Int) (h : am_H) (Q : am_P) : am_Call 142 [.inr (.inr (some 86)), .inl x0] h Q = am_Ex 142 0 [some (.inr (.inr (some 86))), some (.inl x0), none, none, none] [] h Q := am_call_Ve ss_142 ml_142 ly_86 oc_142 rfl rfl
theorem ca_143_86 (x0 : Int) (x1 : Int) (h : am_H) (Q : am_P) : am_Call 143 [.inr (.inr (some 86)), .inl x0, .inl x1] h Q = am_Ex 143 0 [some (.inr (.inr (some 86))), some (.inl x0), some (.inl x1)] [] h Q := am_call_Ve ss_143 ml_143 ly_86 oc_143 rfl rfl
theorem ca_144_86 (x0 : Int) (h : am_H) (Q : am_P) : am_Call 144 [.inr (.inr (some 86)), .inl x0] h Q = am_Ex 144 0 [some (.inr (.inr (some 86))), some (.inl x0), none, none, none] [] h Q := am_call_Ve ss_144 ml_144 ly_86 oc_144 rfl rfl
theorem ca_145_86 (x0 : Int) (h : am_H) (Q : am_P) : am_Call 145 [.inr (.inr (some 86)), .inl x0] h Q = am_Ex 145 0 [some (.inr (.inr (some 86))), some (.inl x0), none, none, none, none] [] h Q := am_call_Ve ss_145 ml_145 ly_86 oc_145 rfl rfl
theorem ca_146_86 (x0 : Int) (x1 : Int) (x2 : Int) (h : am_H) (Q : am_P) : am_Call 146 [.inr (.inr (some 86)), .inl x0, .inl x1, .inl x2] h Q = am_Ex 146 0 [some (.inr (.inr (some 86))), some (.inl x0), some (.inl x1), some (.inl x2)] [] h Q := am_call_Ve ss_146 ml_146 ly_86 oc_146 rfl rfl
theorem ca_147_86  (h : am_H) (Q : am_P) : am_Call 147 [.inr (.inr (some 86))] h Q = am_Ex 147 0 [some (.inr (.inr (some 86))), none] [] h Q := am_call_Ve ss_147 ml_147 ly_86 oc_147 rfl rfl
theorem ca_148 (x0 : Int) (x1 : Int) (h : am_H) (Q : am_P) : am_Call 148 [.inl x0, .inl x1] h Q = am_Ex 148 0 [some (.inl x0), some (.inl x1)] [] h Q := am_call_Se ss_148 ml_148 rfl rfl
theorem ca_149_86 (x0 : Int) (h : am_H) (Q : am_P) : am_Call 149 [.inr (.inr (some 86)), .inl x0] h Q = am_Ex 149 0 [some (.inr (.inr (some 86))), some (.inl x0), none, none, none] [] h Q := am_call_Ve ss_149 ml_149 ly_86 oc_149 rfl rfl
theorem ca_150_86  (h : am_H) (Q : am_P) : am_Call 150 [.inr (.inr (some 86))] h Q = am_Ex 150 0 [some (.inr (.inr (some 86))), none, none, none, none] [] h Q := am_call_Ve ss_150 ml_150 ly_86 oc_150 rfl rfl
theorem ca_151_86  (h : am_H) (Q : am_P) : am_Call 151 [.inr (.inr (some 86))] h Q = am_Ex 151 0 [some (.inr (.inr (some 86)))] [] h Q := am_call_Ve ss_151 ml_151 ly_86 oc_151 rfl rfl
theorem ca_152_86 (x0 : Int) (x1 : Int) (h : am_H) (Q : am_P) : am_Call 152 [.inr (.inr (some 86)), .inl x0, .inl x1] h Q = am_Ex 152 0 [some (.inr (.inr (some 86))), some (.inl x0), some (.inl x1), none] [] h Q := am_call_Ve ss_152 ml_152 ly_86 oc_152 rfl rfl
theorem ca_153_86  (h : am_H) (Q : am_P) : am_Call 153 [.inr (.inr (some 86))] h Q = am_Ex 153 0 [some (.inr (.inr (some 86))), none, none] [] h Q := am_call_Ve ss_153 ml_153 ly_86 oc_153 rfl rfl
theorem ca_154_86 (x0 : Int) (h : am_H) (Q : am_P) : am_Call 154 [.inr (.inr (some 86)), .inl x0] h Q = am_Ex 154 0 [some (.inr (.inr (some 86))), some (.inl x0), none] [] h Q := am_call_Ve ss_154 ml_154 ly_86 oc_154 rfl rfl
theorem ca_155_86 (x0 : Int) (h : am_H) (Q : am_P) : am_Call 155 [.inr (.inr (some 86)), .inl x0] h Q = am_Ex 155 0 [some (.inr (.inr (some 86))), some (.inl x0), none] [] h Q := am_call_Ve ss_155 ml_155 ly_86 oc_155 rfl rfl
theorem ca_156 (x0 : Int) (h : am_H) (Q : am_P) : am_Call 156 [.inl x0] h Q = am_Ex 156 0 [some (.inl x0)] [] h Q := am_call_Se ss_156 ml_156 rfl rfl
theorem ca_157 (x0 : Int) (x1 : Int) (h : am_H) (Q : am_P) : am_Call 157 [.inl x0, .inl x1] h Q = am_Ex 157 0 [some (.inl x0), some (.inl x1), none] [] h Q := am_call_Se ss_157 ml_157 rfl rfl
theorem ca_158 (x0 : Int) (h : am_H) (Q : am_P) : am_Call 158 [.inl x0] h Q = am_Ex 158 0 [some (.inl x0)] [] h Q := am_call_Se ss_158 ml_158 rfl rfl
theorem ca_159 (x0 : Int) (x1 : Int) (h : am_H) (Q : am_P) : am_Call 159 [.inl x0, .inl x1] h Q = am_Ex 159 0 [some (.inl x0), some (.inl x1)] [] h Q := am_call_Se ss_159 ml_159 rfl rfl
theorem ca_160 (x0 : Int) (x1 : Int) (h : am_H) (Q : am_P) : am_Call 160 [.inl x0, .inl x1] h Q = am_Ex 160 0 [some (.inl x0), some (.inl x1)] [] h Q := am_call_Se ss_160 ml_160 rfl rfl
theorem ca_161 (x0 : Option Nat) (x1 : Int64) (h : am_H) (Q : am_P) : am_Call 161 [.inr (.inr x0), .inr (.inl x1)] h Q = am_Ex 161 0 [some (.inr (.inr x0)), some (.inr (.inl x1)), none, none, none] [] h Q := am_call_Se ss_161 ml_161 rfl rfl
theorem ca_162 (x0 : Option Nat) (x1 : Int) (h : am_H) (Q : am_P) : am_Call 162 [.inr (.inr x0), .inl x1] h Q = am_Ex 162 0 [some (.inr (.inr x0)), some (.inl x1), none, none] [] h Q := am_call_Se ss_162 ml_162 rfl rfl
