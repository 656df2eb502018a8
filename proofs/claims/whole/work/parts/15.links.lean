theorem fl8_12 : FL RX8 12 8 14 0 := ⟨RX8, TX8, rfl, by decide, List.mem_of_getElem? (i := 17) (by decide +kernel), inlX8⟩
theorem fl8_19 : FL RX8 19 8 14 1 := ⟨RX8, TX8, rfl, by decide, List.mem_of_getElem? (i := 21) (by decide +kernel), inlX8⟩
theorem fl8_25 : FL RX8 25 8 14 2 := ⟨RX8, TX8, rfl, by decide, List.mem_of_getElem? (i := 23) (by decide +kernel), inlX8⟩
theorem fl8_31 : FL RX8 31 8 14 3 := ⟨RX8, TX8, rfl, by decide, List.mem_of_getElem? (i := 25) (by decide +kernel), inlX8⟩
theorem fl8_38 : FL RX8 38 8 14 4 := ⟨RX8, TX8, rfl, by decide, List.mem_of_getElem? (i := 29) (by decide +kernel), inlX8⟩
theorem fl8_45 : FL RX8 45 8 14 5 := ⟨RX8, TX8, rfl, by decide, List.mem_of_getElem? (i := 33) (by decide +kernel), inlX8⟩
theorem fl8_52 : FL RX8 52 8 14 6 := ⟨RX8, TX8, rfl, by decide, List.mem_of_getElem? (i := 37) (by decide +kernel), inlX8⟩
theorem fl8_59 : FL RX8 59 8 14 7 := ⟨RX8, TX8, rfl, by decide, List.mem_of_getElem? (i := 41) (by decide +kernel), inlX8⟩
theorem fl8_63 : FL RX8 63 8 14 8 := ⟨RX8, TX8, rfl, by decide, List.mem_of_getElem? (i := 42) (by decide +kernel), inlX8⟩
theorem fl8_66 : FL RX8 66 8 14 9 := ⟨RX8, TX8, rfl, by decide, List.mem_of_getElem? (i := 43) (by decide +kernel), inlX8⟩
theorem fw8_69 : FW RX8 69 8 14 10 .int := ⟨RX8, TX8, tyX8, rfl, by decide, List.mem_of_getElem? (i := 44) (by decide +kernel), inlX8, rfl, by decide +kernel, tyX8_ok, nmX8⟩
theorem fl8_69 : FL RX8 69 8 14 10 := fw8_69.fl
theorem fw8_73 : FW RX8 73 8 14 11 .int := ⟨RX8, TX8, tyX8, rfl, by decide, List.mem_of_getElem? (i := 45) (by decide +kernel), inlX8, rfl, by decide +kernel, tyX8_ok, nmX8⟩
theorem fl8_73 : FL RX8 73 8 14 11 := fw8_73.fl
theorem fw8_76 : FW RX8 76 8 14 12 .int := ⟨RX8, TX8, tyX8, rfl, by decide, List.mem_of_getElem? (i := 46) (by decide +kernel), inlX8, rfl, by decide +kernel, tyX8_ok, nmX8⟩
theorem fl8_76 : FL RX8 76 8 14 12 := fw8_76.fl
theorem fw8_79 : FW RX8 79 8 14 13 .int := ⟨RX8, TX8, tyX8, rfl, by decide, List.mem_of_getElem? (i := 47) (by decide +kernel), inlX8, rfl, by decide +kernel, tyX8_ok, nmX8⟩
theorem fl8_79 : FL RX8 79 8 14 13 := fw8_79.fl
theorem fl5_9 : FL RX5 9 5 4 0 := ⟨RX5, TX5, rfl, by decide, List.mem_of_getElem? (i := 56) (by decide +kernel), inlX5⟩
theorem fl5_15 : FL RX5 15 5 4 1 := ⟨RX5, TX5, rfl, by decide, List.mem_of_getElem? (i := 58) (by decide +kernel), inlX5⟩
theorem fl5_19 : FL RX5 19 5 4 2 := ⟨RX5, TX5, rfl, by decide, List.mem_of_getElem? (i := 59) (by decide +kernel), inlX5⟩
theorem fw5_22 : FW RX5 22 5 4 3 .int := ⟨RX5, TX5, tyX5, rfl, by decide, List.mem_of_getElem? (i := 60) (by decide +kernel), inlX5, rfl, by decide +kernel, tyX5_ok, nmX5⟩
theorem fl5_22 : FL RX5 22 5 4 3 := fw5_22.fl
theorem fl3_9 : FL RX3 9 3 4 0 := ⟨RX3, TX3, rfl, by decide, List.mem_of_getElem? (i := 64) (by decide +kernel), inlX3⟩
theorem fl3_15 : FL RX3 15 3 4 1 := ⟨RX3, TX3, rfl, by decide, List.mem_of_getElem? (i := 65) (by decide +kernel), inlX3⟩
theorem fw3_18 : FW RX3 18 3 4 2 .int := ⟨RX3, TX3, tyX3, rfl, by decide, List.mem_of_getElem? (i := 66) (by decide +kernel), inlX3, rfl, by decide +kernel, tyX3_ok, nmX3⟩
theorem fl3_18 : FL RX3 18 3 4 2 := fw3_18.fl
theorem fw3_22 : FW RX3 22 3 4 3 .int := ⟨RX3, TX3, tyX3, rfl, by decide, List.mem_of_getElem? (i := 67) (by decide +kernel), inlX3, rfl, by decide +kernel, tyX3_ok, nmX3⟩
theorem fl3_22 : FL RX3 22 3 4 3 := fw3_22.fl
theorem fl2_9 : FL RX2 9 2 7 0 := ⟨RX2, TX2, rfl, by decide, List.mem_of_getElem? (i := 71) (by decide +kernel), inlX2⟩
theorem fl2_15 : FL RX2 15 2 7 1 := ⟨RX2, TX2, rfl, by decide, List.mem_of_getElem? (i := 72) (by decide +kernel), inlX2⟩
theorem fw2_18 : FW RX2 18 2 7 2 .int := ⟨RX2, TX2, tyX2, rfl, by decide, List.mem_of_getElem? (i := 73) (by decide +kernel), inlX2, rfl, by decide +kernel, tyX2_ok, nmX2⟩
theorem fl2_18 : FL RX2 18 2 7 2 := fw2_18.fl
theorem fw2_22 : FW RX2 22 2 7 3 .int := ⟨RX2, TX2, tyX2, rfl, by decide, List.mem_of_getElem? (i := 74) (by decide +kernel), inlX2, rfl, by decide +kernel, tyX2_ok, nmX2⟩
theorem fl2_22 : FL RX2 22 2 7 3 := fw2_22.fl
theorem fw2_25 : FW RX2 25 2 7 4 .int := ⟨RX2, TX2, tyX2, rfl, by decide, List.mem_of_getElem? (i := 75) (by decide +kernel), inlX2, rfl, by decide +kernel, tyX2_ok, nmX2⟩
theorem fl2_25 : FL RX2 25 2 7 4 := fw2_25.fl
theorem fw2_28 : FW RX2 28 2 7 5 .int := ⟨RX2, TX2, tyX2, rfl, by decide, List.mem_of_getElem? (i := 76) (by decide +kernel), inlX2, rfl, by decide +kernel, tyX2_ok, nmX2⟩
theorem fl2_28 : FL RX2 28 2 7 5 := fw2_28.fl
theorem fw2_31 : FW RX2 31 2 7 6 .char := ⟨RX2, TX2, tyX2, rfl, by decide, List.mem_of_getElem? (i := 77) (by decide +kernel), inlX2, rfl, by decide +kernel, tyX2_ok, nmX2⟩
theorem fl2_31 : FL RX2 31 2 7 6 := fw2_31.fl
theorem fl7_9 : FL RX7 9 7 4 0 := ⟨RX7, TX7, rfl, by decide, List.mem_of_getElem? (i := 81) (by decide +kernel), inlX7⟩
theorem fl7_15 : FL RX7 15 7 4 1 := ⟨RX7, TX7, rfl, by decide, List.mem_of_getElem? (i := 82) (by decide +kernel), inlX7⟩
theorem fl7_18 : FL RX7 18 7 4 2 := ⟨RX7, TX7, rfl, by decide, List.mem_of_getElem? (i := 83) (by decide +kernel), inlX7⟩
theorem fw7_21 : FW RX7 21 7 4 3 .int := ⟨RX7, TX7, tyX7, rfl, by decide, List.mem_of_getElem? (i := 84) (by decide +kernel), inlX7, rfl, by decide +kernel, tyX7_ok, nmX7⟩
theorem fl7_21 : FL RX7 21 7 4 3 := fw7_21.fl
theorem fl0_9 : FL RX0 9 0 6 0 := ⟨RX0, TX0, rfl, by decide, List.mem_of_getElem? (i := 89) (by decide +kernel), inlX0⟩
theorem fl0_17 : FL RX0 17 0 6 1 := ⟨RX0, TX0, rfl, by decide, List.mem_of_getElem? (i := 91) (by decide +kernel), inlX0⟩
theorem fl0_20 : FL RX0 20 0 6 2 := ⟨RX0, TX0, rfl, by decide, List.mem_of_getElem? (i := 92) (by decide +kernel), inlX0⟩
theorem fl0_24 : FL RX0 24 0 6 3 := ⟨RX0, TX0, rfl, by decide, List.mem_of_getElem? (i := 93) (by decide +kernel), inlX0⟩
theorem fl0_27 : FL RX0 27 0 6 4 := ⟨RX0, TX0, rfl, by decide, List.mem_of_getElem? (i := 94) (by decide +kernel), inlX0⟩
theorem fw0_30 : FW RX0 30 0 6 5 .int := ⟨RX0, TX0, tyX0, rfl, by decide, List.mem_of_getElem? (i := 95) (by decide +kernel), inlX0, rfl, by decide +kernel, tyX0_ok, nmX0⟩
theorem fl0_30 : FL RX0 30 0 6 5 := fw0_30.fl
theorem fl1_9 : FL RX1 9 1 7 0 := ⟨RX1, TX1, rfl, by decide, List.mem_of_getElem? (i := 99) (by decide +kernel), inlX1⟩
theorem fl1_15 : FL RX1 15 1 7 1 := ⟨RX1, TX1, rfl, by decide, List.mem_of_getElem? (i := 100) (by decide +kernel), inlX1⟩
theorem fl1_18 : FL RX1 18 1 7 2 := ⟨RX1, TX1, rfl, by decide, List.mem_of_getElem? (i := 101) (by decide +kernel), inlX1⟩
theorem fl1_21 : FL RX1 21 1 7 3 := ⟨RX1, TX1, rfl, by decide, List.mem_of_getElem? (i := 102) (by decide +kernel), inlX1⟩
theorem fl1_24 : FL RX1 24 1 7 4 := ⟨RX1, TX1, rfl, by decide, List.mem_of_getElem? (i := 103) (by decide +kernel), inlX1⟩
theorem fl1_27 : FL RX1 27 1 7 5 := ⟨RX1, TX1, rfl, by decide, List.mem_of_getElem? (i := 104) (by decide +kernel), inlX1⟩
theorem fw1_30 : FW RX1 30 1 7 6 .int := ⟨RX1, TX1, tyX1, rfl, by decide, List.mem_of_getElem? (i := 105) (by decide +kernel), inlX1, rfl, by decide +kernel, tyX1_ok, nmX1⟩
theorem fl1_30 : FL RX1 30 1 7 6 := fw1_30.fl
theorem fl4_11 : FL RX4 11 4 4 0 := ⟨RX4, TX4, rfl, by decide, List.mem_of_getElem? (i := 111) (by decide +kernel), inlX4⟩
theorem fw4_17 : FW RX4 17 4 4 1 .int := ⟨RX4, TX4, tyX4, rfl, by decide, List.mem_of_getElem? (i := 112) (by decide +kernel), inlX4, rfl, by decide +kernel, tyX4_ok, nmX4⟩
theorem fl4_17 : FL RX4 17 4 4 1 := fw4_17.fl
theorem fw4_21 : FW RX4 21 4 4 2 .int := ⟨RX4, TX4, tyX4, rfl, by decide, List.mem_of_getElem? (i := 113) (by decide +kernel), inlX4, rfl, by decide +kernel, tyX4_ok, nmX4⟩
theorem fl4_21 : FL RX4 21 4 4 2 := fw4_21.fl
theorem fw4_24 : FW RX4 24 4 4 3 .int := ⟨RX4, TX4, tyX4, rfl, by decide, List.mem_of_getElem? (i := 114) (by decide +kernel), inlX4, rfl, by decide +kernel, tyX4_ok, nmX4⟩
theorem fl4_24 : FL RX4 24 4 4 3 := fw4_24.fl
theorem fl6_12 : FL RX6 12 6 10 0 := ⟨RX6, TX6, rfl, by decide, List.mem_of_getElem? (i := 120) (by decide +kernel), inlX6⟩
theorem fl6_18 : FL RX6 18 6 10 1 := ⟨RX6, TX6, rfl, by decide, List.mem_of_getElem? (i := 121) (by decide +kernel), inlX6⟩
theorem fl6_22 : FL RX6 22 6 10 2 := ⟨RX6, TX6, rfl, by decide, List.mem_of_getElem? (i := 122) (by decide +kernel), inlX6⟩
theorem fl6_26 : FL RX6 26 6 10 3 := ⟨RX6, TX6, rfl, by decide, List.mem_of_getElem? (i := 123) (by decide +kernel), inlX6⟩
theorem fw6_29 : FW RX6 29 6 10 4 .int := ⟨RX6, TX6, tyX6, rfl, by decide, List.mem_of_getElem? (i := 124) (by decide +kernel), inlX6, rfl, by decide +kernel, tyX6_ok, nmX6⟩
theorem fl6_29 : FL RX6 29 6 10 4 := fw6_29.fl
theorem fw6_33 : FW RX6 33 6 10 5 .int := ⟨RX6, TX6, tyX6, rfl, by decide, List.mem_of_getElem? (i := 125) (by decide +kernel), inlX6, rfl, by decide +kernel, tyX6_ok, nmX6⟩
theorem fl6_33 : FL RX6 33 6 10 5 := fw6_33.fl
theorem fw6_36 : FW RX6 36 6 10 6 .int := ⟨RX6, TX6, tyX6, rfl, by decide, List.mem_of_getElem? (i := 126) (by decide +kernel), inlX6, rfl, by decide +kernel, tyX6_ok, nmX6⟩
theorem fl6_36 : FL RX6 36 6 10 6 := fw6_36.fl
theorem fw6_39 : FW RX6 39 6 10 7 .boolean := ⟨RX6, TX6, tyX6, rfl, by decide, List.mem_of_getElem? (i := 127) (by decide +kernel), inlX6, rfl, by decide +kernel, tyX6_ok, nmX6⟩
theorem fl6_39 : FL RX6 39 6 10 7 := fw6_39.fl
theorem fw6_43 : FW RX6 43 6 10 8 .char := ⟨RX6, TX6, tyX6, rfl, by decide, List.mem_of_getElem? (i := 128) (by decide +kernel), inlX6, rfl, by decide +kernel, tyX6_ok, nmX6⟩
theorem fl6_43 : FL RX6 43 6 10 8 := fw6_43.fl
theorem fw6_47 : FW RX6 47 6 10 9 .int := ⟨RX6, TX6, tyX6, rfl, by decide, List.mem_of_getElem? (i := 129) (by decide +kernel), inlX6, rfl, by decide +kernel, tyX6_ok, nmX6⟩
theorem fl6_47 : FL RX6 47 6 10 9 := fw6_47.fl
theorem fl9_7 : FL RX9 7 9 38 2 := ⟨RX9, TX9, rfl, by decide, List.mem_of_getElem? (i := 134) (by decide +kernel), inlX9⟩
theorem fl9_13 : FL RX9 13 9 38 3 := ⟨RX9, TX9, rfl, by decide, List.mem_of_getElem? (i := 135) (by decide +kernel), inlX9⟩
theorem fl9_17 : FL RX9 17 9 38 4 := ⟨RX9, TX9, rfl, by decide, List.mem_of_getElem? (i := 136) (by decide +kernel), inlX9⟩
theorem fl9_20 : FL RX9 20 9 38 7 := ⟨RX9, TX9, rfl, by decide, List.mem_of_getElem? (i := 137) (by decide +kernel), inlX9⟩
theorem fl9_23 : FL RX9 23 9 38 8 := ⟨RX9, TX9, rfl, by decide, List.mem_of_getElem? (i := 138) (by decide +kernel), inlX9⟩
theorem fl9_26 : FL RX9 26 9 38 10 := ⟨RX9, TX9, rfl, by decide, List.mem_of_getElem? (i := 139) (by decide +kernel), inlX9⟩
theorem fl9_29 : FL RX9 29 9 38 11 := ⟨RX9, TX9, rfl, by decide, List.mem_of_getElem? (i := 140) (by decide +kernel), inlX9⟩
theorem fl9_32 : FL RX9 32 9 38 12 := ⟨RX9, TX9, rfl, by decide, List.mem_of_getElem? (i := 141) (by decide +kernel), inlX9⟩
theorem fl9_35 : FL RX9 35 9 38 13 := ⟨RX9, TX9, rfl, by decide, List.mem_of_getElem? (i := 142) (by decide +kernel), inlX9⟩
theorem fl9_38 : FL RX9 38 9 38 14 := ⟨RX9, TX9, rfl, by decide, List.mem_of_getElem? (i := 143) (by decide +kernel), inlX9⟩
theorem fl9_41 : FL RX9 41 9 38 15 := ⟨RX9, TX9, rfl, by decide, List.mem_of_getElem? (i := 144) (by decide +kernel), inlX9⟩
theorem fl9_44 : FL RX9 44 9 38 16 := ⟨RX9, TX9, rfl, by decide, List.mem_of_getElem? (i := 145) (by decide +kernel), inlX9⟩
theorem fl9_47 : FL RX9 47 9 38 19 := ⟨RX9, TX9, rfl, by decide, List.mem_of_getElem? (i := 146) (by decide +kernel), inlX9⟩
theorem fl9_50 : FL RX9 50 9 38 20 := ⟨RX9, TX9, rfl, by decide, List.mem_of_getElem? (i := 147) (by decide +kernel), inlX9⟩
theorem fl9_53 : FL RX9 53 9 38 21 := ⟨RX9, TX9, rfl, by decide, List.mem_of_getElem? (i := 148) (by decide +kernel), inlX9⟩
theorem fl9_56 : FL RX9 56 9 38 22 := ⟨RX9, TX9, rfl, by decide, List.mem_of_getElem? (i := 149) (by decide +kernel), inlX9⟩
theorem fl9_59 : FL RX9 59 9 38 23 := ⟨RX9, TX9, rfl, by decide, List.mem_of_getElem? (i := 150) (by decide +kernel), inlX9⟩
theorem fl9_62 : FL RX9 62 9 38 24 := ⟨RX9, TX9, rfl, by decide, List.mem_of_getElem? (i := 151) (by decide +kernel), inlX9⟩
theorem fl9_65 : FL RX9 65 9 38 25 := ⟨RX9, TX9, rfl, by decide, List.mem_of_getElem? (i := 152) (by decide +kernel), inlX9⟩
theorem fl9_68 : FL RX9 68 9 38 26 := ⟨RX9, TX9, rfl, by decide, List.mem_of_getElem? (i := 153) (by decide +kernel), inlX9⟩
theorem fl9_71 : FL RX9 71 9 38 27 := ⟨RX9, TX9, rfl, by decide, List.mem_of_getElem? (i := 154) (by decide +kernel), inlX9⟩
theorem fl9_74 : FL RX9 74 9 38 28 := ⟨RX9, TX9, rfl, by decide, List.mem_of_getElem? (i := 155) (by decide +kernel), inlX9⟩
theorem fl9_77 : FL RX9 77 9 38 29 := ⟨RX9, TX9, rfl, by decide, List.mem_of_getElem? (i := 156) (by decide +kernel), inlX9⟩
theorem fl9_80 : FL RX9 80 9 38 30 := ⟨RX9, TX9, rfl, by decide, List.mem_of_getElem? (i := 157) (by decide +kernel), inlX9⟩
theorem fl9_83 : FL RX9 83 9 38 31 := ⟨RX9, TX9, rfl, by decide, List.mem_of_getElem? (i := 158) (by decide +kernel), inlX9⟩
theorem fl9_86 : FL RX9 86 9 38 32 := ⟨RX9, TX9, rfl, by decide, List.mem_of_getElem? (i := 159) (by decide +kernel), inlX9⟩
theorem fl9_89 : FL RX9 89 9 38 33 := ⟨RX9, TX9, rfl, by decide, List.mem_of_getElem? (i := 160) (by decide +kernel), inlX9⟩
theorem fw9_92 : FW RX9 92 9 38 36 .int := ⟨RX9, TX9, tyX9, rfl, by decide, List.mem_of_getElem? (i := 161) (by decide +kernel), inlX9, rfl, by decide +kernel, tyX9_ok, nmX9⟩
theorem fl9_92 : FL RX9 92 9 38 36 := fw9_92.fl
theorem fl9_96 : FL RX9 96 9 38 37 := ⟨RX9, TX9, rfl, by decide, List.mem_of_getElem? (i := 163) (by decide +kernel), inlX9⟩
theorem fw8_91 : FW RX8 91 5 4 3 .int := ⟨RX5, TX5, tyX5, rfl, by decide, List.mem_of_getElem? (i := 178) (by decide +kernel), inlX5, rfl, by decide +kernel, tyX5_ok, nmX5⟩
theorem fl8_91 : FL RX8 91 5 4 3 := fw8_91.fl
theorem sl8_84 : SL RX8 84 yX8_isStep cX8_isStep 3 (some .boolean) 3 := ⟨List.mem_of_getElem? (i := 179) (by decide +kernel), List.mem_of_getElem? (i := 180) (by decide +kernel), List.mem_of_getElem? (i := 2) (by decide +kernel), List.mem_of_getElem? (i := 181) (by decide +kernel), ⟨by decide +kernel, by decide +kernel⟩, by decide +kernel⟩
theorem sl8_322 : SL RX8 322 yX8_isPlace cX8_isPlace 1 (some .boolean) 1 := ⟨List.mem_of_getElem? (i := 182) (by decide +kernel), List.mem_of_getElem? (i := 183) (by decide +kernel), List.mem_of_getElem? (i := 2) (by decide +kernel), List.mem_of_getElem? (i := 184) (by decide +kernel), ⟨by decide +kernel, by decide +kernel⟩, by decide +kernel⟩
theorem sl8_120 : SL RX8 120 yX8_isWithin cX8_isWithin 3 (some .boolean) 3 := ⟨List.mem_of_getElem? (i := 185) (by decide +kernel), List.mem_of_getElem? (i := 186) (by decide +kernel), List.mem_of_getElem? (i := 2) (by decide +kernel), List.mem_of_getElem? (i := 187) (by decide +kernel), ⟨by decide +kernel, by decide +kernel⟩, by decide +kernel⟩
theorem sl8_101 : SL RX8 101 yX8_isNumber cX8_isNumber 1 (some .boolean) 1 := ⟨List.mem_of_getElem? (i := 188) (by decide +kernel), List.mem_of_getElem? (i := 189) (by decide +kernel), List.mem_of_getElem? (i := 2) (by decide +kernel), List.mem_of_getElem? (i := 190) (by decide +kernel), ⟨by decide +kernel, by decide +kernel⟩, by decide +kernel⟩
theorem vl8_97 : VL RX8 97 5 yX5_append cX5_append 4 none 3 := ⟨⟨TX5, 4, rfl⟩, List.mem_of_getElem? (i := 191) (by decide +kernel), List.mem_of_getElem? (i := 192) (by decide +kernel), List.mem_of_getElem? (i := 193) (by decide +kernel), List.mem_of_getElem? (i := 16) (by decide +kernel), List.mem_of_getElem? (i := 194) (by decide +kernel), ⟨by decide +kernel, by decide +kernel⟩, by decide +kernel⟩
theorem fw9_111 : FW RX9 111 9 38 1 .int := ⟨RX9, TX9, tyX9, rfl, by decide, List.mem_of_getElem? (i := 199) (by decide +kernel), inlX9, rfl, by decide +kernel, tyX9_ok, nmX9⟩
theorem fl9_111 : FL RX9 111 9 38 1 := fw9_111.fl
theorem sl9_107 : SL RX9 107 yX9_isStep cX9_isStep 3 (some .boolean) 3 := ⟨List.mem_of_getElem? (i := 200) (by decide +kernel), List.mem_of_getElem? (i := 201) (by decide +kernel), List.mem_of_getElem? (i := 5) (by decide +kernel), List.mem_of_getElem? (i := 202) (by decide +kernel), ⟨by decide +kernel, by decide +kernel⟩, by decide +kernel⟩
theorem sl9_103 : SL RX9 103 yX9_in cX9_in 3 (some .boolean) 3 := ⟨List.mem_of_getElem? (i := 203) (by decide +kernel), List.mem_of_getElem? (i := 204) (by decide +kernel), List.mem_of_getElem? (i := 5) (by decide +kernel), List.mem_of_getElem? (i := 205) (by decide +kernel), ⟨by decide +kernel, by decide +kernel⟩, by decide +kernel⟩
theorem vl9_114 : VL RX9 114 9 yX9_fails cX9_fails 2 (some .boolean) 1 := ⟨⟨TX9, 38, rfl⟩, List.mem_of_getElem? (i := 206) (by decide +kernel), List.mem_of_getElem? (i := 207) (by decide +kernel), List.mem_of_getElem? (i := 208) (by decide +kernel), List.mem_of_getElem? (i := 5) (by decide +kernel), List.mem_of_getElem? (i := 209) (by decide +kernel), ⟨by decide +kernel, by decide +kernel⟩, by decide +kernel⟩
theorem fw9_100 : FW RX9 100 9 38 0 .int := ⟨RX9, TX9, tyX9, rfl, by decide, List.mem_of_getElem? (i := 210) (by decide +kernel), inlX9, rfl, by decide +kernel, tyX9_ok, nmX9⟩
theorem fl9_100 : FL RX9 100 9 38 0 := fw9_100.fl
theorem vl8_105 : VL RX8 105 3 yX3_hasRoom cX3_hasRoom 2 (some .boolean) 1 := ⟨⟨TX3, 4, rfl⟩, List.mem_of_getElem? (i := 222) (by decide +kernel), List.mem_of_getElem? (i := 223) (by decide +kernel), List.mem_of_getElem? (i := 224) (by decide +kernel), List.mem_of_getElem? (i := 20) (by decide +kernel), List.mem_of_getElem? (i := 225) (by decide +kernel), ⟨by decide +kernel, by decide +kernel⟩, by decide +kernel⟩
theorem vl8_109 : VL RX8 109 3 yX3_append cX3_append 3 (some .int) 2 := ⟨⟨TX3, 4, rfl⟩, List.mem_of_getElem? (i := 226) (by decide +kernel), List.mem_of_getElem? (i := 227) (by decide +kernel), List.mem_of_getElem? (i := 228) (by decide +kernel), List.mem_of_getElem? (i := 20) (by decide +kernel), List.mem_of_getElem? (i := 229) (by decide +kernel), ⟨by decide +kernel, by decide +kernel⟩, by decide +kernel⟩
theorem vl3_25 : VL RX3 25 3 yX3_hasRoom cX3_hasRoom 2 (some .boolean) 1 := ⟨⟨TX3, 4, rfl⟩, List.mem_of_getElem? (i := 230) (by decide +kernel), List.mem_of_getElem? (i := 223) (by decide +kernel), List.mem_of_getElem? (i := 224) (by decide +kernel), List.mem_of_getElem? (i := 20) (by decide +kernel), List.mem_of_getElem? (i := 225) (by decide +kernel), ⟨by decide +kernel, by decide +kernel⟩, by decide +kernel⟩
theorem fw9_118 : FW RX9 118 9 38 6 .int := ⟨RX9, TX9, tyX9, rfl, by decide, List.mem_of_getElem? (i := 235) (by decide +kernel), inlX9, rfl, by decide +kernel, tyX9_ok, nmX9⟩
theorem fl9_118 : FL RX9 118 9 38 6 := fw9_118.fl
theorem fw9_121 : FW RX9 121 9 38 5 .int := ⟨RX9, TX9, tyX9, rfl, by decide, List.mem_of_getElem? (i := 236) (by decide +kernel), inlX9, rfl, by decide +kernel, tyX9_ok, nmX9⟩
theorem fl9_121 : FL RX9 121 9 38 5 := fw9_121.fl
theorem vl8_112 : VL RX8 112 5 yX5_clear cX5_clear 2 (some .int) 0 := ⟨⟨TX5, 4, rfl⟩, List.mem_of_getElem? (i := 241) (by decide +kernel), List.mem_of_getElem? (i := 242) (by decide +kernel), List.mem_of_getElem? (i := 243) (by decide +kernel), List.mem_of_getElem? (i := 16) (by decide +kernel), List.mem_of_getElem? (i := 244) (by decide +kernel), ⟨by decide +kernel, by decide +kernel⟩, by decide +kernel⟩
theorem vl8_116 : VL RX8 116 3 yX3_clear cX3_clear 2 (some .int) 0 := ⟨⟨TX3, 4, rfl⟩, List.mem_of_getElem? (i := 245) (by decide +kernel), List.mem_of_getElem? (i := 246) (by decide +kernel), List.mem_of_getElem? (i := 247) (by decide +kernel), List.mem_of_getElem? (i := 20) (by decide +kernel), List.mem_of_getElem? (i := 248) (by decide +kernel), ⟨by decide +kernel, by decide +kernel⟩, by decide +kernel⟩
theorem fw8_124 : FW RX8 124 4 4 1 .int := ⟨RX4, TX4, tyX4, rfl, by decide, List.mem_of_getElem? (i := 260) (by decide +kernel), inlX4, rfl, by decide +kernel, tyX4_ok, nmX4⟩
theorem fl8_124 : FL RX8 124 4 4 1 := fw8_124.fl
theorem fw8_127 : FW RX8 127 4 4 2 .int := ⟨RX4, TX4, tyX4, rfl, by decide, List.mem_of_getElem? (i := 261) (by decide +kernel), inlX4, rfl, by decide +kernel, tyX4_ok, nmX4⟩
theorem fl8_127 : FL RX8 127 4 4 2 := fw8_127.fl
theorem sl8_117 : SL RX8 117 yX8_isColour cX8_isColour 1 (some .boolean) 1 := ⟨List.mem_of_getElem? (i := 262) (by decide +kernel), List.mem_of_getElem? (i := 263) (by decide +kernel), List.mem_of_getElem? (i := 2) (by decide +kernel), List.mem_of_getElem? (i := 264) (by decide +kernel), ⟨by decide +kernel, by decide +kernel⟩, by decide +kernel⟩
theorem fw9_124 : FW RX9 124 9 38 9 .int := ⟨RX9, TX9, tyX9, rfl, by decide, List.mem_of_getElem? (i := 269) (by decide +kernel), inlX9, rfl, by decide +kernel, tyX9_ok, nmX9⟩
theorem fl9_124 : FL RX9 124 9 38 9 := fw9_124.fl
theorem fw8_136 : FW RX8 136 4 4 3 .int := ⟨RX4, TX4, tyX4, rfl, by decide, List.mem_of_getElem? (i := 280) (by decide +kernel), inlX4, rfl, by decide +kernel, tyX4_ok, nmX4⟩
theorem fl8_136 : FL RX8 136 4 4 3 := fw8_136.fl
theorem fl8_139 : FL RX8 139 4 4 0 := ⟨RX4, TX4, rfl, by decide, List.mem_of_getElem? (i := 281) (by decide +kernel), inlX4⟩
theorem vl8_130 : VL RX8 130 8 yX8_hasProblem cX8_hasProblem 2 (some .boolean) 1 := ⟨⟨TX8, 14, rfl⟩, List.mem_of_getElem? (i := 282) (by decide +kernel), List.mem_of_getElem? (i := 283) (by decide +kernel), List.mem_of_getElem? (i := 284) (by decide +kernel), List.mem_of_getElem? (i := 2) (by decide +kernel), List.mem_of_getElem? (i := 285) (by decide +kernel), ⟨by decide +kernel, by decide +kernel⟩, by decide +kernel⟩
theorem vl8_143 : VL RX8 143 3 yX3_copyFrom cX3_copyFrom 3 none 1 := ⟨⟨TX3, 4, rfl⟩, List.mem_of_getElem? (i := 286) (by decide +kernel), List.mem_of_getElem? (i := 287) (by decide +kernel), List.mem_of_getElem? (i := 288) (by decide +kernel), List.mem_of_getElem? (i := 20) (by decide +kernel), List.mem_of_getElem? (i := 289) (by decide +kernel), ⟨by decide +kernel, by decide +kernel⟩, by decide +kernel⟩
theorem vl3_29 : VL RX3 29 3 yX3_clear cX3_clear 2 (some .int) 0 := ⟨⟨TX3, 4, rfl⟩, List.mem_of_getElem? (i := 290) (by decide +kernel), List.mem_of_getElem? (i := 246) (by decide +kernel), List.mem_of_getElem? (i := 247) (by decide +kernel), List.mem_of_getElem? (i := 20) (by decide +kernel), List.mem_of_getElem? (i := 248) (by decide +kernel), ⟨by decide +kernel, by decide +kernel⟩, by decide +kernel⟩
theorem vl3_33 : VL RX3 33 3 yX3_append cX3_append 3 (some .int) 2 := ⟨⟨TX3, 4, rfl⟩, List.mem_of_getElem? (i := 291) (by decide +kernel), List.mem_of_getElem? (i := 227) (by decide +kernel), List.mem_of_getElem? (i := 228) (by decide +kernel), List.mem_of_getElem? (i := 20) (by decide +kernel), List.mem_of_getElem? (i := 229) (by decide +kernel), ⟨by decide +kernel, by decide +kernel⟩, by decide +kernel⟩
theorem vl8_147 : VL RX8 147 8 yX8_judgeAnew cX8_judgeAnew 6 (some .int) 2 := ⟨⟨TX8, 14, rfl⟩, List.mem_of_getElem? (i := 292) (by decide +kernel), List.mem_of_getElem? (i := 293) (by decide +kernel), List.mem_of_getElem? (i := 294) (by decide +kernel), List.mem_of_getElem? (i := 2) (by decide +kernel), List.mem_of_getElem? (i := 295) (by decide +kernel), ⟨by decide +kernel, by decide +kernel⟩, by decide +kernel⟩
theorem fw8_166 : FW RX8 166 6 10 5 .int := ⟨RX6, TX6, tyX6, rfl, by decide, List.mem_of_getElem? (i := 296) (by decide +kernel), inlX6, rfl, by decide +kernel, tyX6_ok, nmX6⟩
theorem fl8_166 : FL RX8 166 6 10 5 := fw8_166.fl
theorem fw8_193 : FW RX8 193 6 10 8 .char := ⟨RX6, TX6, tyX6, rfl, by decide, List.mem_of_getElem? (i := 297) (by decide +kernel), inlX6, rfl, by decide +kernel, tyX6_ok, nmX6⟩
theorem fl8_193 : FL RX8 193 6 10 8 := fw8_193.fl
theorem vl8_329 : VL RX8 329 8 yX8_judge cX8_judge 4 none 2 := ⟨⟨TX8, 14, rfl⟩, List.mem_of_getElem? (i := 298) (by decide +kernel), List.mem_of_getElem? (i := 299) (by decide +kernel), List.mem_of_getElem? (i := 300) (by decide +kernel), List.mem_of_getElem? (i := 2) (by decide +kernel), List.mem_of_getElem? (i := 301) (by decide +kernel), ⟨by decide +kernel, by decide +kernel⟩, by decide +kernel⟩
theorem fl8_176 : FL RX8 176 6 10 0 := ⟨RX6, TX6, rfl, by decide, List.mem_of_getElem? (i := 302) (by decide +kernel), inlX6⟩
theorem fl8_215 : FL RX8 215 6 10 3 := ⟨RX6, TX6, rfl, by decide, List.mem_of_getElem? (i := 303) (by decide +kernel), inlX6⟩
theorem fl8_343 : FL RX8 343 2 7 1 := ⟨RX2, TX2, rfl, by decide, List.mem_of_getElem? (i := 304) (by decide +kernel), inlX2⟩
theorem fw8_346 : FW RX8 346 2 7 2 .int := ⟨RX2, TX2, tyX2, rfl, by decide, List.mem_of_getElem? (i := 305) (by decide +kernel), inlX2, rfl, by decide +kernel, tyX2_ok, nmX2⟩
theorem fl8_346 : FL RX8 346 2 7 2 := fw8_346.fl
theorem fl8_204 : FL RX8 204 6 10 1 := ⟨RX6, TX6, rfl, by decide, List.mem_of_getElem? (i := 306) (by decide +kernel), inlX6⟩
theorem fw8_353 : FW RX8 353 2 7 6 .char := ⟨RX2, TX2, tyX2, rfl, by decide, List.mem_of_getElem? (i := 307) (by decide +kernel), inlX2, rfl, by decide +kernel, tyX2_ok, nmX2⟩
theorem fl8_353 : FL RX8 353 2 7 6 := fw8_353.fl
theorem fl8_208 : FL RX8 208 6 10 2 := ⟨RX6, TX6, rfl, by decide, List.mem_of_getElem? (i := 308) (by decide +kernel), inlX6⟩
theorem fw8_356 : FW RX8 356 2 7 5 .int := ⟨RX2, TX2, tyX2, rfl, by decide, List.mem_of_getElem? (i := 309) (by decide +kernel), inlX2, rfl, by decide +kernel, tyX2_ok, nmX2⟩
theorem fl8_356 : FL RX8 356 2 7 5 := fw8_356.fl
theorem vl8_336 : VL RX8 336 2 yX2_execute cX2_execute 5 none 3 := ⟨⟨TX2, 7, rfl⟩, List.mem_of_getElem? (i := 310) (by decide +kernel), List.mem_of_getElem? (i := 311) (by decide +kernel), List.mem_of_getElem? (i := 312) (by decide +kernel), List.mem_of_getElem? (i := 28) (by decide +kernel), List.mem_of_getElem? (i := 313) (by decide +kernel), ⟨by decide +kernel, by decide +kernel⟩, by decide +kernel⟩
theorem fw2_38 : FW RX2 38 5 4 3 .int := ⟨RX5, TX5, tyX5, rfl, by decide, List.mem_of_getElem? (i := 314) (by decide +kernel), inlX5, rfl, by decide +kernel, tyX5_ok, nmX5⟩
theorem fl2_38 : FL RX2 38 5 4 3 := fw2_38.fl
theorem vl2_35 : VL RX2 35 2 yX2_reset cX2_reset 2 none 0 := ⟨⟨TX2, 7, rfl⟩, List.mem_of_getElem? (i := 315) (by decide +kernel), List.mem_of_getElem? (i := 316) (by decide +kernel), List.mem_of_getElem? (i := 317) (by decide +kernel), List.mem_of_getElem? (i := 28) (by decide +kernel), List.mem_of_getElem? (i := 318) (by decide +kernel), ⟨by decide +kernel, by decide +kernel⟩, by decide +kernel⟩
theorem vl2_43 : VL RX2 43 2 yX2_doNextStep cX2_doNextStep 6 none 2 := ⟨⟨TX2, 7, rfl⟩, List.mem_of_getElem? (i := 319) (by decide +kernel), List.mem_of_getElem? (i := 320) (by decide +kernel), List.mem_of_getElem? (i := 321) (by decide +kernel), List.mem_of_getElem? (i := 28) (by decide +kernel), List.mem_of_getElem? (i := 322) (by decide +kernel), ⟨by decide +kernel, by decide +kernel⟩, by decide +kernel⟩
theorem fl2_53 : FL RX2 53 5 4 0 := ⟨RX5, TX5, rfl, by decide, List.mem_of_getElem? (i := 323) (by decide +kernel), inlX5⟩
theorem fl2_57 : FL RX2 57 5 4 1 := ⟨RX5, TX5, rfl, by decide, List.mem_of_getElem? (i := 324) (by decide +kernel), inlX5⟩
theorem fl2_60 : FL RX2 60 5 4 2 := ⟨RX5, TX5, rfl, by decide, List.mem_of_getElem? (i := 325) (by decide +kernel), inlX5⟩
theorem vl2_63 : VL RX2 63 2 yX2_takeInput cX2_takeInput 3 none 2 := ⟨⟨TX2, 7, rfl⟩, List.mem_of_getElem? (i := 326) (by decide +kernel), List.mem_of_getElem? (i := 327) (by decide +kernel), List.mem_of_getElem? (i := 328) (by decide +kernel), List.mem_of_getElem? (i := 28) (by decide +kernel), List.mem_of_getElem? (i := 329) (by decide +kernel), ⟨by decide +kernel, by decide +kernel⟩, by decide +kernel⟩
theorem fw2_79 : FW RX2 79 3 4 2 .int := ⟨RX3, TX3, tyX3, rfl, by decide, List.mem_of_getElem? (i := 330) (by decide +kernel), inlX3, rfl, by decide +kernel, tyX3_ok, nmX3⟩
theorem fl2_79 : FL RX2 79 3 4 2 := fw2_79.fl
theorem fl2_82 : FL RX2 82 3 4 0 := ⟨RX3, TX3, rfl, by decide, List.mem_of_getElem? (i := 331) (by decide +kernel), inlX3⟩
theorem vl2_67 : VL RX2 67 2 yX2_putOut cX2_putOut 2 none 1 := ⟨⟨TX2, 7, rfl⟩, List.mem_of_getElem? (i := 332) (by decide +kernel), List.mem_of_getElem? (i := 333) (by decide +kernel), List.mem_of_getElem? (i := 334) (by decide +kernel), List.mem_of_getElem? (i := 28) (by decide +kernel), List.mem_of_getElem? (i := 335) (by decide +kernel), ⟨by decide +kernel, by decide +kernel⟩, by decide +kernel⟩
theorem vl2_71 : VL RX2 71 2 yX2_divide cX2_divide 3 none 2 := ⟨⟨TX2, 7, rfl⟩, List.mem_of_getElem? (i := 336) (by decide +kernel), List.mem_of_getElem? (i := 337) (by decide +kernel), List.mem_of_getElem? (i := 338) (by decide +kernel), List.mem_of_getElem? (i := 28) (by decide +kernel), List.mem_of_getElem? (i := 339) (by decide +kernel), ⟨by decide +kernel, by decide +kernel⟩, by decide +kernel⟩
theorem vl2_75 : VL RX2 75 2 yX2_goIf cX2_goIf 4 none 3 := ⟨⟨TX2, 7, rfl⟩, List.mem_of_getElem? (i := 340) (by decide +kernel), List.mem_of_getElem? (i := 341) (by decide +kernel), List.mem_of_getElem? (i := 342) (by decide +kernel), List.mem_of_getElem? (i := 28) (by decide +kernel), List.mem_of_getElem? (i := 343) (by decide +kernel), ⟨by decide +kernel, by decide +kernel⟩, by decide +kernel⟩
theorem vl2_47 : VL RX2 47 3 yX3_isExpected cX3_isExpected 4 (some .boolean) 2 := ⟨⟨TX3, 4, rfl⟩, List.mem_of_getElem? (i := 344) (by decide +kernel), List.mem_of_getElem? (i := 345) (by decide +kernel), List.mem_of_getElem? (i := 346) (by decide +kernel), List.mem_of_getElem? (i := 20) (by decide +kernel), List.mem_of_getElem? (i := 347) (by decide +kernel), ⟨by decide +kernel, by decide +kernel⟩, by decide +kernel⟩
theorem vl8_340 : VL RX8 340 7 yX7_release cX7_release 2 none 1 := ⟨⟨TX7, 4, rfl⟩, List.mem_of_getElem? (i := 348) (by decide +kernel), List.mem_of_getElem? (i := 349) (by decide +kernel), List.mem_of_getElem? (i := 350) (by decide +kernel), List.mem_of_getElem? (i := 32) (by decide +kernel), List.mem_of_getElem? (i := 351) (by decide +kernel), ⟨by decide +kernel, by decide +kernel⟩, by decide +kernel⟩
theorem vl8_349 : VL RX8 349 7 yX7_keep cX7_keep 4 (some .int) 2 := ⟨⟨TX7, 4, rfl⟩, List.mem_of_getElem? (i := 352) (by decide +kernel), List.mem_of_getElem? (i := 353) (by decide +kernel), List.mem_of_getElem? (i := 354) (by decide +kernel), List.mem_of_getElem? (i := 32) (by decide +kernel), List.mem_of_getElem? (i := 355) (by decide +kernel), ⟨by decide +kernel, by decide +kernel⟩, by decide +kernel⟩
theorem vl7_25 : VL RX7 25 7 yX7_find cX7_find 4 (some .int) 2 := ⟨⟨TX7, 4, rfl⟩, List.mem_of_getElem? (i := 356) (by decide +kernel), List.mem_of_getElem? (i := 357) (by decide +kernel), List.mem_of_getElem? (i := 358) (by decide +kernel), List.mem_of_getElem? (i := 32) (by decide +kernel), List.mem_of_getElem? (i := 359) (by decide +kernel), ⟨by decide +kernel, by decide +kernel⟩, by decide +kernel⟩
theorem vl7_43 : VL RX7 43 7 yX7_isAlike cX7_isAlike 5 (some .boolean) 3 := ⟨⟨TX7, 4, rfl⟩, List.mem_of_getElem? (i := 360) (by decide +kernel), List.mem_of_getElem? (i := 361) (by decide +kernel), List.mem_of_getElem? (i := 362) (by decide +kernel), List.mem_of_getElem? (i := 32) (by decide +kernel), List.mem_of_getElem? (i := 363) (by decide +kernel), ⟨by decide +kernel, by decide +kernel⟩, by decide +kernel⟩
theorem vl7_37 : VL RX7 37 7 yX7_numberAt cX7_numberAt 3 (some .int) 2 := ⟨⟨TX7, 4, rfl⟩, List.mem_of_getElem? (i := 364) (by decide +kernel), List.mem_of_getElem? (i := 365) (by decide +kernel), List.mem_of_getElem? (i := 366) (by decide +kernel), List.mem_of_getElem? (i := 32) (by decide +kernel), List.mem_of_getElem? (i := 367) (by decide +kernel), ⟨by decide +kernel, by decide +kernel⟩, by decide +kernel⟩
theorem vl7_29 : VL RX7 29 7 yX7_firstFree cX7_firstFree 2 (some .int) 0 := ⟨⟨TX7, 4, rfl⟩, List.mem_of_getElem? (i := 368) (by decide +kernel), List.mem_of_getElem? (i := 369) (by decide +kernel), List.mem_of_getElem? (i := 370) (by decide +kernel), List.mem_of_getElem? (i := 32) (by decide +kernel), List.mem_of_getElem? (i := 371) (by decide +kernel), ⟨by decide +kernel, by decide +kernel⟩, by decide +kernel⟩
theorem vl7_33 : VL RX7 33 7 yX7_fill cX7_fill 5 none 3 := ⟨⟨TX7, 4, rfl⟩, List.mem_of_getElem? (i := 372) (by decide +kernel), List.mem_of_getElem? (i := 373) (by decide +kernel), List.mem_of_getElem? (i := 374) (by decide +kernel), List.mem_of_getElem? (i := 32) (by decide +kernel), List.mem_of_getElem? (i := 375) (by decide +kernel), ⟨by decide +kernel, by decide +kernel⟩, by decide +kernel⟩
theorem vl8_333 : VL RX8 333 6 yX6_conclude cX6_conclude 3 none 1 := ⟨⟨TX6, 10, rfl⟩, List.mem_of_getElem? (i := 376) (by decide +kernel), List.mem_of_getElem? (i := 377) (by decide +kernel), List.mem_of_getElem? (i := 378) (by decide +kernel), List.mem_of_getElem? (i := 51) (by decide +kernel), List.mem_of_getElem? (i := 379) (by decide +kernel), ⟨by decide +kernel, by decide +kernel⟩, by decide +kernel⟩
theorem vl8_154 : VL RX8 154 8 yX8_recountBoards cX8_recountBoards 1 none 0 := ⟨⟨TX8, 14, rfl⟩, List.mem_of_getElem? (i := 380) (by decide +kernel), List.mem_of_getElem? (i := 381) (by decide +kernel), List.mem_of_getElem? (i := 382) (by decide +kernel), List.mem_of_getElem? (i := 2) (by decide +kernel), List.mem_of_getElem? (i := 383) (by decide +kernel), ⟨by decide +kernel, by decide +kernel⟩, by decide +kernel⟩
theorem vl8_325 : VL RX8 325 1 yX1_recount cX1_recount 6 none 4 := ⟨⟨TX1, 7, rfl⟩, List.mem_of_getElem? (i := 384) (by decide +kernel), List.mem_of_getElem? (i := 385) (by decide +kernel), List.mem_of_getElem? (i := 386) (by decide +kernel), List.mem_of_getElem? (i := 40) (by decide +kernel), List.mem_of_getElem? (i := 387) (by decide +kernel), ⟨by decide +kernel, by decide +kernel⟩, by decide +kernel⟩
theorem fw1_37 : FW RX1 37 6 10 7 .boolean := ⟨RX6, TX6, tyX6, rfl, by decide, List.mem_of_getElem? (i := 388) (by decide +kernel), inlX6, rfl, by decide +kernel, tyX6_ok, nmX6⟩
theorem fl1_37 : FL RX1 37 6 10 7 := fw1_37.fl
theorem vl1_34 : VL RX1 34 1 yX1_clear cX1_clear 2 none 0 := ⟨⟨TX1, 7, rfl⟩, List.mem_of_getElem? (i := 389) (by decide +kernel), List.mem_of_getElem? (i := 390) (by decide +kernel), List.mem_of_getElem? (i := 391) (by decide +kernel), List.mem_of_getElem? (i := 40) (by decide +kernel), List.mem_of_getElem? (i := 392) (by decide +kernel), ⟨by decide +kernel, by decide +kernel⟩, by decide +kernel⟩
theorem vl1_43 : VL RX1 43 1 yX1_count cX1_count 3 none 1 := ⟨⟨TX1, 7, rfl⟩, List.mem_of_getElem? (i := 393) (by decide +kernel), List.mem_of_getElem? (i := 394) (by decide +kernel), List.mem_of_getElem? (i := 395) (by decide +kernel), List.mem_of_getElem? (i := 40) (by decide +kernel), List.mem_of_getElem? (i := 396) (by decide +kernel), ⟨by decide +kernel, by decide +kernel⟩, by decide +kernel⟩
theorem fw1_50 : FW RX1 50 6 10 4 .int := ⟨RX6, TX6, tyX6, rfl, by decide, List.mem_of_getElem? (i := 397) (by decide +kernel), inlX6, rfl, by decide +kernel, tyX6_ok, nmX6⟩
theorem fl1_50 : FL RX1 50 6 10 4 := fw1_50.fl
theorem fw1_53 : FW RX1 53 6 10 5 .int := ⟨RX6, TX6, tyX6, rfl, by decide, List.mem_of_getElem? (i := 398) (by decide +kernel), inlX6, rfl, by decide +kernel, tyX6_ok, nmX6⟩
theorem fl1_53 : FL RX1 53 6 10 5 := fw1_53.fl
theorem fw1_64 : FW RX1 64 6 10 8 .char := ⟨RX6, TX6, tyX6, rfl, by decide, List.mem_of_getElem? (i := 399) (by decide +kernel), inlX6, rfl, by decide +kernel, tyX6_ok, nmX6⟩
theorem fl1_64 : FL RX1 64 6 10 8 := fw1_64.fl
theorem fw1_68 : FW RX1 68 6 10 6 .int := ⟨RX6, TX6, tyX6, rfl, by decide, List.mem_of_getElem? (i := 400) (by decide +kernel), inlX6, rfl, by decide +kernel, tyX6_ok, nmX6⟩
theorem fl1_68 : FL RX1 68 6 10 6 := fw1_68.fl
theorem vl1_60 : VL RX1 60 1 yX1_hasSolved cX1_hasSolved 2 (some .boolean) 1 := ⟨⟨TX1, 7, rfl⟩, List.mem_of_getElem? (i := 407) (by decide +kernel), List.mem_of_getElem? (i := 408) (by decide +kernel), List.mem_of_getElem? (i := 409) (by decide +kernel), List.mem_of_getElem? (i := 40) (by decide +kernel), List.mem_of_getElem? (i := 410) (by decide +kernel), ⟨by decide +kernel, by decide +kernel⟩, by decide +kernel⟩
theorem vl1_47 : VL RX1 47 1 yX1_putInOrder cX1_putInOrder 3 none 0 := ⟨⟨TX1, 7, rfl⟩, List.mem_of_getElem? (i := 411) (by decide +kernel), List.mem_of_getElem? (i := 412) (by decide +kernel), List.mem_of_getElem? (i := 413) (by decide +kernel), List.mem_of_getElem? (i := 40) (by decide +kernel), List.mem_of_getElem? (i := 414) (by decide +kernel), ⟨by decide +kernel, by decide +kernel⟩, by decide +kernel⟩
theorem vl1_76 : VL RX1 76 1 yX1_isAhead cX1_isAhead 3 (some .boolean) 2 := ⟨⟨TX1, 7, rfl⟩, List.mem_of_getElem? (i := 415) (by decide +kernel), List.mem_of_getElem? (i := 416) (by decide +kernel), List.mem_of_getElem? (i := 417) (by decide +kernel), List.mem_of_getElem? (i := 40) (by decide +kernel), List.mem_of_getElem? (i := 418) (by decide +kernel), ⟨by decide +kernel, by decide +kernel⟩, by decide +kernel⟩
theorem vl8_186 : VL RX8 186 0 yX0_follow cX0_follow 6 none 3 := ⟨⟨TX0, 6, rfl⟩, List.mem_of_getElem? (i := 419) (by decide +kernel), List.mem_of_getElem? (i := 420) (by decide +kernel), List.mem_of_getElem? (i := 421) (by decide +kernel), List.mem_of_getElem? (i := 36) (by decide +kernel), List.mem_of_getElem? (i := 422) (by decide +kernel), ⟨by decide +kernel, by decide +kernel⟩, by decide +kernel⟩
theorem fw0_34 : FW RX0 34 1 7 6 .int := ⟨RX1, TX1, tyX1, rfl, by decide, List.mem_of_getElem? (i := 423) (by decide +kernel), inlX1, rfl, by decide +kernel, tyX1_ok, nmX1⟩
theorem fl0_34 : FL RX0 34 1 7 6 := fw0_34.fl
theorem vl0_43 : VL RX0 43 1 yX1_hasSolved cX1_hasSolved 2 (some .boolean) 1 := ⟨⟨TX1, 7, rfl⟩, List.mem_of_getElem? (i := 424) (by decide +kernel), List.mem_of_getElem? (i := 408) (by decide +kernel), List.mem_of_getElem? (i := 409) (by decide +kernel), List.mem_of_getElem? (i := 40) (by decide +kernel), List.mem_of_getElem? (i := 410) (by decide +kernel), ⟨by decide +kernel, by decide +kernel⟩, by decide +kernel⟩
theorem vl0_47 : VL RX0 47 0 yX0_takeAway cX0_takeAway 3 none 2 := ⟨⟨TX0, 6, rfl⟩, List.mem_of_getElem? (i := 425) (by decide +kernel), List.mem_of_getElem? (i := 426) (by decide +kernel), List.mem_of_getElem? (i := 427) (by decide +kernel), List.mem_of_getElem? (i := 36) (by decide +kernel), List.mem_of_getElem? (i := 428) (by decide +kernel), ⟨by decide +kernel, by decide +kernel⟩, by decide +kernel⟩
theorem vl0_62 : VL RX0 62 0 yX0_leaveQueue cX0_leaveQueue 4 none 2 := ⟨⟨TX0, 6, rfl⟩, List.mem_of_getElem? (i := 429) (by decide +kernel), List.mem_of_getElem? (i := 430) (by decide +kernel), List.mem_of_getElem? (i := 431) (by decide +kernel), List.mem_of_getElem? (i := 36) (by decide +kernel), List.mem_of_getElem? (i := 432) (by decide +kernel), ⟨by decide +kernel, by decide +kernel⟩, by decide +kernel⟩
theorem vl0_58 : VL RX0 58 0 yX0_dropFromQueue cX0_dropFromQueue 6 none 3 := ⟨⟨TX0, 6, rfl⟩, List.mem_of_getElem? (i := 433) (by decide +kernel), List.mem_of_getElem? (i := 434) (by decide +kernel), List.mem_of_getElem? (i := 435) (by decide +kernel), List.mem_of_getElem? (i := 36) (by decide +kernel), List.mem_of_getElem? (i := 436) (by decide +kernel), ⟨by decide +kernel, by decide +kernel⟩, by decide +kernel⟩
theorem vl0_51 : VL RX0 51 0 yX0_serve cX0_serve 3 none 1 := ⟨⟨TX0, 6, rfl⟩, List.mem_of_getElem? (i := 437) (by decide +kernel), List.mem_of_getElem? (i := 438) (by decide +kernel), List.mem_of_getElem? (i := 439) (by decide +kernel), List.mem_of_getElem? (i := 36) (by decide +kernel), List.mem_of_getElem? (i := 440) (by decide +kernel), ⟨by decide +kernel, by decide +kernel⟩, by decide +kernel⟩
theorem vl0_55 : VL RX0 55 0 yX0_enqueue cX0_enqueue 3 none 2 := ⟨⟨TX0, 6, rfl⟩, List.mem_of_getElem? (i := 441) (by decide +kernel), List.mem_of_getElem? (i := 442) (by decide +kernel), List.mem_of_getElem? (i := 443) (by decide +kernel), List.mem_of_getElem? (i := 36) (by decide +kernel), List.mem_of_getElem? (i := 444) (by decide +kernel), ⟨by decide +kernel, by decide +kernel⟩, by decide +kernel⟩
theorem vl9_133 : VL RX9 133 9 yX9_isNoProblem cX9_isNoProblem 2 (some .boolean) 1 := ⟨⟨TX9, 38, rfl⟩, List.mem_of_getElem? (i := 449) (by decide +kernel), List.mem_of_getElem? (i := 450) (by decide +kernel), List.mem_of_getElem? (i := 451) (by decide +kernel), List.mem_of_getElem? (i := 5) (by decide +kernel), List.mem_of_getElem? (i := 452) (by decide +kernel), ⟨by decide +kernel, by decide +kernel⟩, by decide +kernel⟩
theorem vl9_136 : VL RX9 136 9 yX9_lays cX9_lays 4 none 2 := ⟨⟨TX9, 38, rfl⟩, List.mem_of_getElem? (i := 453) (by decide +kernel), List.mem_of_getElem? (i := 454) (by decide +kernel), List.mem_of_getElem? (i := 455) (by decide +kernel), List.mem_of_getElem? (i := 5) (by decide +kernel), List.mem_of_getElem? (i := 456) (by decide +kernel), ⟨by decide +kernel, by decide +kernel⟩, by decide +kernel⟩
theorem vl9_140 : VL RX9 140 9 yX9_judgesAnew cX9_judgesAnew 8 (some .int) 3 := ⟨⟨TX9, 38, rfl⟩, List.mem_of_getElem? (i := 457) (by decide +kernel), List.mem_of_getElem? (i := 458) (by decide +kernel), List.mem_of_getElem? (i := 459) (by decide +kernel), List.mem_of_getElem? (i := 5) (by decide +kernel), List.mem_of_getElem? (i := 460) (by decide +kernel), ⟨by decide +kernel, by decide +kernel⟩, by decide +kernel⟩
theorem fw9_130 : FW RX9 130 9 38 18 .int := ⟨RX9, TX9, tyX9, rfl, by decide, List.mem_of_getElem? (i := 461) (by decide +kernel), inlX9, rfl, by decide +kernel, tyX9_ok, nmX9⟩
theorem fl9_130 : FL RX9 130 9 38 18 := fw9_130.fl
theorem vl9_160 : VL RX9 160 9 yX9_verdictOf cX9_verdictOf 3 (some .char) 1 := ⟨⟨TX9, 38, rfl⟩, List.mem_of_getElem? (i := 462) (by decide +kernel), List.mem_of_getElem? (i := 463) (by decide +kernel), List.mem_of_getElem? (i := 464) (by decide +kernel), List.mem_of_getElem? (i := 5) (by decide +kernel), List.mem_of_getElem? (i := 465) (by decide +kernel), ⟨by decide +kernel, by decide +kernel⟩, by decide +kernel⟩
theorem vl9_156 : VL RX9 156 9 yX9_failedOf cX9_failedOf 3 (some .int) 1 := ⟨⟨TX9, 38, rfl⟩, List.mem_of_getElem? (i := 466) (by decide +kernel), List.mem_of_getElem? (i := 467) (by decide +kernel), List.mem_of_getElem? (i := 468) (by decide +kernel), List.mem_of_getElem? (i := 5) (by decide +kernel), List.mem_of_getElem? (i := 469) (by decide +kernel), ⟨by decide +kernel, by decide +kernel⟩, by decide +kernel⟩
theorem vl9_164 : VL RX9 164 9 yX9_judges cX9_judges 11 none 2 := ⟨⟨TX9, 38, rfl⟩, List.mem_of_getElem? (i := 470) (by decide +kernel), List.mem_of_getElem? (i := 471) (by decide +kernel), List.mem_of_getElem? (i := 472) (by decide +kernel), List.mem_of_getElem? (i := 5) (by decide +kernel), List.mem_of_getElem? (i := 473) (by decide +kernel), ⟨by decide +kernel, by decide +kernel⟩, by decide +kernel⟩
theorem vl9_144 : VL RX9 144 9 yX9_isExpected cX9_isExpected 6 (some .boolean) 2 := ⟨⟨TX9, 38, rfl⟩, List.mem_of_getElem? (i := 474) (by decide +kernel), List.mem_of_getElem? (i := 475) (by decide +kernel), List.mem_of_getElem? (i := 476) (by decide +kernel), List.mem_of_getElem? (i := 5) (by decide +kernel), List.mem_of_getElem? (i := 477) (by decide +kernel), ⟨by decide +kernel, by decide +kernel⟩, by decide +kernel⟩
theorem vl9_148 : VL RX9 148 9 yX9_tells cX9_tells 4 (some .char) 3 := ⟨⟨TX9, 38, rfl⟩, List.mem_of_getElem? (i := 478) (by decide +kernel), List.mem_of_getElem? (i := 479) (by decide +kernel), List.mem_of_getElem? (i := 480) (by decide +kernel), List.mem_of_getElem? (i := 5) (by decide +kernel), List.mem_of_getElem? (i := 481) (by decide +kernel), ⟨by decide +kernel, by decide +kernel⟩, by decide +kernel⟩
theorem vl9_152 : VL RX9 152 9 yX9_reckons cX9_reckons 4 (some .char) 3 := ⟨⟨TX9, 38, rfl⟩, List.mem_of_getElem? (i := 482) (by decide +kernel), List.mem_of_getElem? (i := 483) (by decide +kernel), List.mem_of_getElem? (i := 484) (by decide +kernel), List.mem_of_getElem? (i := 5) (by decide +kernel), List.mem_of_getElem? (i := 485) (by decide +kernel), ⟨by decide +kernel, by decide +kernel⟩, by decide +kernel⟩
theorem vl9_167 : VL RX9 167 9 yX9_calls cX9_calls 3 none 1 := ⟨⟨TX9, 38, rfl⟩, List.mem_of_getElem? (i := 486) (by decide +kernel), List.mem_of_getElem? (i := 487) (by decide +kernel), List.mem_of_getElem? (i := 488) (by decide +kernel), List.mem_of_getElem? (i := 5) (by decide +kernel), List.mem_of_getElem? (i := 489) (by decide +kernel), ⟨by decide +kernel, by decide +kernel⟩, by decide +kernel⟩
theorem fw9_127 : FW RX9 127 9 38 17 .int := ⟨RX9, TX9, tyX9, rfl, by decide, List.mem_of_getElem? (i := 490) (by decide +kernel), inlX9, rfl, by decide +kernel, tyX9_ok, nmX9⟩
theorem fl9_127 : FL RX9 127 9 38 17 := fw9_127.fl
theorem fw9_174 : FW RX9 174 9 38 35 .int := ⟨RX9, TX9, tyX9, rfl, by decide, List.mem_of_getElem? (i := 491) (by decide +kernel), inlX9, rfl, by decide +kernel, tyX9_ok, nmX9⟩
theorem fl9_174 : FL RX9 174 9 38 35 := fw9_174.fl
theorem vl9_171 : VL RX9 171 9 yX9_hasSolved cX9_hasSolved 5 (some .boolean) 2 := ⟨⟨TX9, 38, rfl⟩, List.mem_of_getElem? (i := 492) (by decide +kernel), List.mem_of_getElem? (i := 493) (by decide +kernel), List.mem_of_getElem? (i := 494) (by decide +kernel), List.mem_of_getElem? (i := 5) (by decide +kernel), List.mem_of_getElem? (i := 495) (by decide +kernel), ⟨by decide +kernel, by decide +kernel⟩, by decide +kernel⟩
theorem vl9_177 : VL RX9 177 9 yX9_gives cX9_gives 3 none 1 := ⟨⟨TX9, 38, rfl⟩, List.mem_of_getElem? (i := 496) (by decide +kernel), List.mem_of_getElem? (i := 497) (by decide +kernel), List.mem_of_getElem? (i := 498) (by decide +kernel), List.mem_of_getElem? (i := 5) (by decide +kernel), List.mem_of_getElem? (i := 499) (by decide +kernel), ⟨by decide +kernel, by decide +kernel⟩, by decide +kernel⟩
theorem vl9_186 : VL RX9 186 9 yX9_waitingAt cX9_waitingAt 9 (some .int) 2 := ⟨⟨TX9, 38, rfl⟩, List.mem_of_getElem? (i := 500) (by decide +kernel), List.mem_of_getElem? (i := 501) (by decide +kernel), List.mem_of_getElem? (i := 502) (by decide +kernel), List.mem_of_getElem? (i := 5) (by decide +kernel), List.mem_of_getElem? (i := 503) (by decide +kernel), ⟨by decide +kernel, by decide +kernel⟩, by decide +kernel⟩
theorem vl9_180 : VL RX9 180 9 yX9_sends cX9_sends 3 none 2 := ⟨⟨TX9, 38, rfl⟩, List.mem_of_getElem? (i := 504) (by decide +kernel), List.mem_of_getElem? (i := 505) (by decide +kernel), List.mem_of_getElem? (i := 506) (by decide +kernel), List.mem_of_getElem? (i := 5) (by decide +kernel), List.mem_of_getElem? (i := 507) (by decide +kernel), ⟨by decide +kernel, by decide +kernel⟩, by decide +kernel⟩
theorem fw9_183 : FW RX9 183 9 38 34 .int := ⟨RX9, TX9, tyX9, rfl, by decide, List.mem_of_getElem? (i := 508) (by decide +kernel), inlX9, rfl, by decide +kernel, tyX9_ok, nmX9⟩
theorem fl9_183 : FL RX9 183 9 38 34 := fw9_183.fl
theorem vl8_151 : VL RX8 151 4 yX4_hasTest cX4_hasTest 2 (some .boolean) 1 := ⟨⟨TX4, 4, rfl⟩, List.mem_of_getElem? (i := 516) (by decide +kernel), List.mem_of_getElem? (i := 517) (by decide +kernel), List.mem_of_getElem? (i := 518) (by decide +kernel), List.mem_of_getElem? (i := 49) (by decide +kernel), List.mem_of_getElem? (i := 519) (by decide +kernel), ⟨by decide +kernel, by decide +kernel⟩, by decide +kernel⟩
theorem fw8_163 : FW RX8 163 6 10 4 .int := ⟨RX6, TX6, tyX6, rfl, by decide, List.mem_of_getElem? (i := 553) (by decide +kernel), inlX6, rfl, by decide +kernel, tyX6_ok, nmX6⟩
theorem fl8_163 : FL RX8 163 6 10 4 := fw8_163.fl
theorem fw8_169 : FW RX8 169 6 10 6 .int := ⟨RX6, TX6, tyX6, rfl, by decide, List.mem_of_getElem? (i := 554) (by decide +kernel), inlX6, rfl, by decide +kernel, tyX6_ok, nmX6⟩
theorem fl8_169 : FL RX8 169 6 10 6 := fw8_169.fl
theorem fw8_172 : FW RX8 172 6 10 7 .boolean := ⟨RX6, TX6, tyX6, rfl, by decide, List.mem_of_getElem? (i := 555) (by decide +kernel), inlX6, rfl, by decide +kernel, tyX6_ok, nmX6⟩
theorem fl8_172 : FL RX8 172 6 10 7 := fw8_172.fl
theorem vl8_157 : VL RX8 157 8 yX8_hasTeam cX8_hasTeam 2 (some .boolean) 1 := ⟨⟨TX8, 14, rfl⟩, List.mem_of_getElem? (i := 556) (by decide +kernel), List.mem_of_getElem? (i := 557) (by decide +kernel), List.mem_of_getElem? (i := 558) (by decide +kernel), List.mem_of_getElem? (i := 2) (by decide +kernel), List.mem_of_getElem? (i := 559) (by decide +kernel), ⟨by decide +kernel, by decide +kernel⟩, by decide +kernel⟩
theorem vl8_160 : VL RX8 160 8 yX8_lastMinute cX8_lastMinute 1 (some .int) 0 := ⟨⟨TX8, 14, rfl⟩, List.mem_of_getElem? (i := 560) (by decide +kernel), List.mem_of_getElem? (i := 561) (by decide +kernel), List.mem_of_getElem? (i := 562) (by decide +kernel), List.mem_of_getElem? (i := 2) (by decide +kernel), List.mem_of_getElem? (i := 563) (by decide +kernel), ⟨by decide +kernel, by decide +kernel⟩, by decide +kernel⟩
theorem vl8_179 : VL RX8 179 5 yX5_copyFrom cX5_copyFrom 3 none 1 := ⟨⟨TX5, 4, rfl⟩, List.mem_of_getElem? (i := 564) (by decide +kernel), List.mem_of_getElem? (i := 565) (by decide +kernel), List.mem_of_getElem? (i := 566) (by decide +kernel), List.mem_of_getElem? (i := 16) (by decide +kernel), List.mem_of_getElem? (i := 567) (by decide +kernel), ⟨by decide +kernel, by decide +kernel⟩, by decide +kernel⟩
theorem vl5_26 : VL RX5 26 5 yX5_append cX5_append 4 none 3 := ⟨⟨TX5, 4, rfl⟩, List.mem_of_getElem? (i := 568) (by decide +kernel), List.mem_of_getElem? (i := 192) (by decide +kernel), List.mem_of_getElem? (i := 193) (by decide +kernel), List.mem_of_getElem? (i := 16) (by decide +kernel), List.mem_of_getElem? (i := 194) (by decide +kernel), ⟨by decide +kernel, by decide +kernel⟩, by decide +kernel⟩
theorem vl8_182 : VL RX8 182 8 yX8_judgeByAll cX8_judgeByAll 4 none 1 := ⟨⟨TX8, 14, rfl⟩, List.mem_of_getElem? (i := 569) (by decide +kernel), List.mem_of_getElem? (i := 570) (by decide +kernel), List.mem_of_getElem? (i := 571) (by decide +kernel), List.mem_of_getElem? (i := 2) (by decide +kernel), List.mem_of_getElem? (i := 572) (by decide +kernel), ⟨by decide +kernel, by decide +kernel⟩, by decide +kernel⟩
theorem vl8_295 : VL RX8 295 8 yX8_testCountOf cX8_testCountOf 2 (some .int) 1 := ⟨⟨TX8, 14, rfl⟩, List.mem_of_getElem? (i := 573) (by decide +kernel), List.mem_of_getElem? (i := 574) (by decide +kernel), List.mem_of_getElem? (i := 575) (by decide +kernel), List.mem_of_getElem? (i := 2) (by decide +kernel), List.mem_of_getElem? (i := 576) (by decide +kernel), ⟨by decide +kernel, by decide +kernel⟩, by decide +kernel⟩
theorem vl9_190 : VL RX9 190 9 yX9_isNoTeam cX9_isNoTeam 2 (some .boolean) 1 := ⟨⟨TX9, 38, rfl⟩, List.mem_of_getElem? (i := 581) (by decide +kernel), List.mem_of_getElem? (i := 582) (by decide +kernel), List.mem_of_getElem? (i := 583) (by decide +kernel), List.mem_of_getElem? (i := 5) (by decide +kernel), List.mem_of_getElem? (i := 584) (by decide +kernel), ⟨by decide +kernel, by decide +kernel⟩, by decide +kernel⟩
theorem vl8_190 : VL RX8 190 8 yX8_hasRun cX8_hasRun 2 (some .boolean) 1 := ⟨⟨TX8, 14, rfl⟩, List.mem_of_getElem? (i := 592) (by decide +kernel), List.mem_of_getElem? (i := 593) (by decide +kernel), List.mem_of_getElem? (i := 594) (by decide +kernel), List.mem_of_getElem? (i := 2) (by decide +kernel), List.mem_of_getElem? (i := 595) (by decide +kernel), ⟨by decide +kernel, by decide +kernel⟩, by decide +kernel⟩
theorem vl9_193 : VL RX9 193 9 yX9_isNoRun cX9_isNoRun 2 (some .boolean) 1 := ⟨⟨TX9, 38, rfl⟩, List.mem_of_getElem? (i := 600) (by decide +kernel), List.mem_of_getElem? (i := 601) (by decide +kernel), List.mem_of_getElem? (i := 602) (by decide +kernel), List.mem_of_getElem? (i := 5) (by decide +kernel), List.mem_of_getElem? (i := 603) (by decide +kernel), ⟨by decide +kernel, by decide +kernel⟩, by decide +kernel⟩
theorem fw8_197 : FW RX8 197 6 10 9 .int := ⟨RX6, TX6, tyX6, rfl, by decide, List.mem_of_getElem? (i := 611) (by decide +kernel), inlX6, rfl, by decide +kernel, tyX6_ok, nmX6⟩
theorem fl8_197 : FL RX8 197 6 10 9 := fw8_197.fl
theorem vl8_200 : VL RX8 200 8 yX8_hasTestOfRun cX8_hasTestOfRun 3 (some .boolean) 2 := ⟨⟨TX8, 14, rfl⟩, List.mem_of_getElem? (i := 623) (by decide +kernel), List.mem_of_getElem? (i := 624) (by decide +kernel), List.mem_of_getElem? (i := 625) (by decide +kernel), List.mem_of_getElem? (i := 2) (by decide +kernel), List.mem_of_getElem? (i := 626) (by decide +kernel), ⟨by decide +kernel, by decide +kernel⟩, by decide +kernel⟩
theorem vl9_196 : VL RX9 196 9 yX9_isNoTest cX9_isNoTest 3 (some .boolean) 2 := ⟨⟨TX9, 38, rfl⟩, List.mem_of_getElem? (i := 631) (by decide +kernel), List.mem_of_getElem? (i := 632) (by decide +kernel), List.mem_of_getElem? (i := 633) (by decide +kernel), List.mem_of_getElem? (i := 5) (by decide +kernel), List.mem_of_getElem? (i := 634) (by decide +kernel), ⟨by decide +kernel, by decide +kernel⟩, by decide +kernel⟩
theorem fl8_212 : FL RX8 212 7 4 1 := ⟨RX7, TX7, rfl, by decide, List.mem_of_getElem? (i := 653) (by decide +kernel), inlX7⟩
theorem vl8_221 : VL RX8 221 7 yX7_numberAt cX7_numberAt 3 (some .int) 2 := ⟨⟨TX7, 4, rfl⟩, List.mem_of_getElem? (i := 668) (by decide +kernel), List.mem_of_getElem? (i := 365) (by decide +kernel), List.mem_of_getElem? (i := 366) (by decide +kernel), List.mem_of_getElem? (i := 32) (by decide +kernel), List.mem_of_getElem? (i := 367) (by decide +kernel), ⟨by decide +kernel, by decide +kernel⟩, by decide +kernel⟩
theorem fw8_224 : FW RX8 224 7 4 3 .int := ⟨RX7, TX7, tyX7, rfl, by decide, List.mem_of_getElem? (i := 677) (by decide +kernel), inlX7, rfl, by decide +kernel, tyX7_ok, nmX7⟩
theorem fl8_224 : FL RX8 224 7 4 3 := fw8_224.fl
theorem vl9_199 : VL RX9 199 9 yX9_isFirst cX9_isFirst 6 (some .boolean) 2 := ⟨⟨TX9, 38, rfl⟩, List.mem_of_getElem? (i := 682) (by decide +kernel), List.mem_of_getElem? (i := 683) (by decide +kernel), List.mem_of_getElem? (i := 684) (by decide +kernel), List.mem_of_getElem? (i := 5) (by decide +kernel), List.mem_of_getElem? (i := 685) (by decide +kernel), ⟨by decide +kernel, by decide +kernel⟩, by decide +kernel⟩
theorem vl9_202 : VL RX9 202 9 yX9_areAlike cX9_areAlike 7 (some .boolean) 4 := ⟨⟨TX9, 38, rfl⟩, List.mem_of_getElem? (i := 686) (by decide +kernel), List.mem_of_getElem? (i := 687) (by decide +kernel), List.mem_of_getElem? (i := 688) (by decide +kernel), List.mem_of_getElem? (i := 5) (by decide +kernel), List.mem_of_getElem? (i := 689) (by decide +kernel), ⟨by decide +kernel, by decide +kernel⟩, by decide +kernel⟩
theorem fl8_227 : FL RX8 227 7 4 2 := ⟨RX7, TX7, rfl, by decide, List.mem_of_getElem? (i := 697) (by decide +kernel), inlX7⟩
theorem fl8_230 : FL RX8 230 0 6 3 := ⟨RX0, TX0, rfl, by decide, List.mem_of_getElem? (i := 709) (by decide +kernel), inlX0⟩
theorem vl8_233 : VL RX8 233 0 yX0_serve cX0_serve 3 none 1 := ⟨⟨TX0, 6, rfl⟩, List.mem_of_getElem? (i := 710) (by decide +kernel), List.mem_of_getElem? (i := 438) (by decide +kernel), List.mem_of_getElem? (i := 439) (by decide +kernel), List.mem_of_getElem? (i := 36) (by decide +kernel), List.mem_of_getElem? (i := 440) (by decide +kernel), ⟨by decide +kernel, by decide +kernel⟩, by decide +kernel⟩
theorem sl9_206 : SL RX9 206 yX9_isNoColour cX9_isNoColour 1 (some .boolean) 1 := ⟨List.mem_of_getElem? (i := 715) (by decide +kernel), List.mem_of_getElem? (i := 716) (by decide +kernel), List.mem_of_getElem? (i := 5) (by decide +kernel), List.mem_of_getElem? (i := 717) (by decide +kernel), ⟨by decide +kernel, by decide +kernel⟩, by decide +kernel⟩
theorem fl8_237 : FL RX8 237 0 6 4 := ⟨RX0, TX0, rfl, by decide, List.mem_of_getElem? (i := 736) (by decide +kernel), inlX0⟩
theorem fl8_240 : FL RX8 240 0 6 0 := ⟨RX0, TX0, rfl, by decide, List.mem_of_getElem? (i := 748) (by decide +kernel), inlX0⟩
theorem sl8_243 : SL RX8 243 yX8_spotOf cX8_spotOf 2 (some .int) 2 := ⟨List.mem_of_getElem? (i := 749) (by decide +kernel), List.mem_of_getElem? (i := 405) (by decide +kernel), List.mem_of_getElem? (i := 2) (by decide +kernel), List.mem_of_getElem? (i := 406) (by decide +kernel), ⟨by decide +kernel, by decide +kernel⟩, by decide +kernel⟩
theorem fl8_246 : FL RX8 246 0 6 2 := ⟨RX0, TX0, rfl, by decide, List.mem_of_getElem? (i := 761) (by decide +kernel), inlX0⟩
theorem fl8_249 : FL RX8 249 0 6 1 := ⟨RX0, TX0, rfl, by decide, List.mem_of_getElem? (i := 762) (by decide +kernel), inlX0⟩
theorem sl8_253 : SL RX8 253 yX8_teamOf cX8_teamOf 1 (some .int) 1 := ⟨List.mem_of_getElem? (i := 763) (by decide +kernel), List.mem_of_getElem? (i := 764) (by decide +kernel), List.mem_of_getElem? (i := 2) (by decide +kernel), List.mem_of_getElem? (i := 765) (by decide +kernel), ⟨by decide +kernel, by decide +kernel⟩, by decide +kernel⟩
theorem fw8_257 : FW RX8 257 0 6 5 .int := ⟨RX0, TX0, tyX0, rfl, by decide, List.mem_of_getElem? (i := 774) (by decide +kernel), inlX0, rfl, by decide +kernel, tyX0_ok, nmX0⟩
theorem fl8_257 : FL RX8 257 0 6 5 := fw8_257.fl
theorem vl9_209 : VL RX9 209 9 yX9_isPending cX9_isPending 2 (some .boolean) 1 := ⟨⟨TX9, 38, rfl⟩, List.mem_of_getElem? (i := 793) (by decide +kernel), List.mem_of_getElem? (i := 794) (by decide +kernel), List.mem_of_getElem? (i := 795) (by decide +kernel), List.mem_of_getElem? (i := 5) (by decide +kernel), List.mem_of_getElem? (i := 796) (by decide +kernel), ⟨by decide +kernel, by decide +kernel⟩, by decide +kernel⟩
theorem vl8_263 : VL RX8 263 8 yX8_countPending cX8_countPending 5 (some .int) 2 := ⟨⟨TX8, 14, rfl⟩, List.mem_of_getElem? (i := 804) (by decide +kernel), List.mem_of_getElem? (i := 805) (by decide +kernel), List.mem_of_getElem? (i := 806) (by decide +kernel), List.mem_of_getElem? (i := 2) (by decide +kernel), List.mem_of_getElem? (i := 807) (by decide +kernel), ⟨by decide +kernel, by decide +kernel⟩, by decide +kernel⟩
theorem vl9_212 : VL RX9 212 9 yX9_pendingOf cX9_pendingOf 5 (some .int) 2 := ⟨⟨TX9, 38, rfl⟩, List.mem_of_getElem? (i := 812) (by decide +kernel), List.mem_of_getElem? (i := 813) (by decide +kernel), List.mem_of_getElem? (i := 814) (by decide +kernel), List.mem_of_getElem? (i := 5) (by decide +kernel), List.mem_of_getElem? (i := 815) (by decide +kernel), ⟨by decide +kernel, by decide +kernel⟩, by decide +kernel⟩
theorem vl8_266 : VL RX8 266 8 yX8_lowestPendingTeam cX8_lowestPendingTeam 3 (some .int) 0 := ⟨⟨TX8, 14, rfl⟩, List.mem_of_getElem? (i := 823) (by decide +kernel), List.mem_of_getElem? (i := 824) (by decide +kernel), List.mem_of_getElem? (i := 825) (by decide +kernel), List.mem_of_getElem? (i := 2) (by decide +kernel), List.mem_of_getElem? (i := 826) (by decide +kernel), ⟨by decide +kernel, by decide +kernel⟩, by decide +kernel⟩
theorem fl8_289 : FL RX8 289 1 7 5 := ⟨RX1, TX1, rfl, by decide, List.mem_of_getElem? (i := 827) (by decide +kernel), inlX1⟩
theorem vl8_269 : VL RX8 269 8 yX8_lowestPendingProblem cX8_lowestPendingProblem 3 (some .int) 1 := ⟨⟨TX8, 14, rfl⟩, List.mem_of_getElem? (i := 828) (by decide +kernel), List.mem_of_getElem? (i := 829) (by decide +kernel), List.mem_of_getElem? (i := 830) (by decide +kernel), List.mem_of_getElem? (i := 2) (by decide +kernel), List.mem_of_getElem? (i := 831) (by decide +kernel), ⟨by decide +kernel, by decide +kernel⟩, by decide +kernel⟩
theorem vl8_272 : VL RX8 272 8 yX8_openRuns cX8_openRuns 4 none 2 := ⟨⟨TX8, 14, rfl⟩, List.mem_of_getElem? (i := 832) (by decide +kernel), List.mem_of_getElem? (i := 833) (by decide +kernel), List.mem_of_getElem? (i := 834) (by decide +kernel), List.mem_of_getElem? (i := 2) (by decide +kernel), List.mem_of_getElem? (i := 835) (by decide +kernel), ⟨by decide +kernel, by decide +kernel⟩, by decide +kernel⟩
theorem vl9_215 : VL RX9 215 9 yX9_pendingIn cX9_pendingIn 3 (some .int) 1 := ⟨⟨TX9, 38, rfl⟩, List.mem_of_getElem? (i := 840) (by decide +kernel), List.mem_of_getElem? (i := 841) (by decide +kernel), List.mem_of_getElem? (i := 842) (by decide +kernel), List.mem_of_getElem? (i := 5) (by decide +kernel), List.mem_of_getElem? (i := 843) (by decide +kernel), ⟨by decide +kernel, by decide +kernel⟩, by decide +kernel⟩
theorem vl9_218 : VL RX9 218 9 yX9_isAhead cX9_isAhead 5 (some .boolean) 3 := ⟨⟨TX9, 38, rfl⟩, List.mem_of_getElem? (i := 844) (by decide +kernel), List.mem_of_getElem? (i := 845) (by decide +kernel), List.mem_of_getElem? (i := 846) (by decide +kernel), List.mem_of_getElem? (i := 5) (by decide +kernel), List.mem_of_getElem? (i := 847) (by decide +kernel), ⟨by decide +kernel, by decide +kernel⟩, by decide +kernel⟩
theorem vl9_226 : VL RX9 226 9 yX9_solvedBy cX9_solvedBy 5 (some .int) 2 := ⟨⟨TX9, 38, rfl⟩, List.mem_of_getElem? (i := 848) (by decide +kernel), List.mem_of_getElem? (i := 849) (by decide +kernel), List.mem_of_getElem? (i := 850) (by decide +kernel), List.mem_of_getElem? (i := 5) (by decide +kernel), List.mem_of_getElem? (i := 851) (by decide +kernel), ⟨by decide +kernel, by decide +kernel⟩, by decide +kernel⟩
theorem vl9_222 : VL RX9 222 9 yX9_firstOf cX9_firstOf 5 (some .int) 3 := ⟨⟨TX9, 38, rfl⟩, List.mem_of_getElem? (i := 852) (by decide +kernel), List.mem_of_getElem? (i := 853) (by decide +kernel), List.mem_of_getElem? (i := 854) (by decide +kernel), List.mem_of_getElem? (i := 5) (by decide +kernel), List.mem_of_getElem? (i := 855) (by decide +kernel), ⟨by decide +kernel, by decide +kernel⟩, by decide +kernel⟩
theorem vl9_230 : VL RX9 230 9 yX9_penaltyOf cX9_penaltyOf 7 (some .int) 2 := ⟨⟨TX9, 38, rfl⟩, List.mem_of_getElem? (i := 856) (by decide +kernel), List.mem_of_getElem? (i := 857) (by decide +kernel), List.mem_of_getElem? (i := 858) (by decide +kernel), List.mem_of_getElem? (i := 5) (by decide +kernel), List.mem_of_getElem? (i := 859) (by decide +kernel), ⟨by decide +kernel, by decide +kernel⟩, by decide +kernel⟩
theorem vl9_233 : VL RX9 233 9 yX9_latestOf cX9_latestOf 6 (some .int) 2 := ⟨⟨TX9, 38, rfl⟩, List.mem_of_getElem? (i := 860) (by decide +kernel), List.mem_of_getElem? (i := 861) (by decide +kernel), List.mem_of_getElem? (i := 862) (by decide +kernel), List.mem_of_getElem? (i := 5) (by decide +kernel), List.mem_of_getElem? (i := 863) (by decide +kernel), ⟨by decide +kernel, by decide +kernel⟩, by decide +kernel⟩
theorem fl8_280 : FL RX8 280 1 7 2 := ⟨RX1, TX1, rfl, by decide, List.mem_of_getElem? (i := 871) (by decide +kernel), inlX1⟩
theorem vl8_276 : VL RX8 276 8 yX8_boardOf cX8_boardOf 2 (some (.object "Judgefold$Board") 1 := ⟨⟨TX8, 14, rfl⟩, List.mem_of_getElem? (i := 872) (by decide +kernel), List.mem_of_getElem? (i := 873) (by decide +kernel), List.mem_of_getElem? (i := 874) (by decide +kernel), List.mem_of_getElem? (i := 2) (by decide +kernel), List.mem_of_getElem? (i := 875) (by decide +kernel), ⟨by decide +kernel, by decide +kernel⟩, by decide +kernel⟩
theorem fl8_283 : FL RX8 283 1 7 3 := ⟨RX1, TX1, rfl, by decide, List.mem_of_getElem? (i := 887) (by decide +kernel), inlX1⟩
theorem vl8_286 : VL RX8 286 1 yX1_rankOf cX1_rankOf 3 (some .int) 1 := ⟨⟨TX1, 7, rfl⟩, List.mem_of_getElem? (i := 899) (by decide +kernel), List.mem_of_getElem? (i := 900) (by decide +kernel), List.mem_of_getElem? (i := 901) (by decide +kernel), List.mem_of_getElem? (i := 40) (by decide +kernel), List.mem_of_getElem? (i := 902) (by decide +kernel), ⟨by decide +kernel, by decide +kernel⟩, by decide +kernel⟩
theorem vl9_236 : VL RX9 236 9 yX9_rankOf cX9_rankOf 5 (some .int) 2 := ⟨⟨TX9, 38, rfl⟩, List.mem_of_getElem? (i := 907) (by decide +kernel), List.mem_of_getElem? (i := 908) (by decide +kernel), List.mem_of_getElem? (i := 909) (by decide +kernel), List.mem_of_getElem? (i := 5) (by decide +kernel), List.mem_of_getElem? (i := 910) (by decide +kernel), ⟨by decide +kernel, by decide +kernel⟩, by decide +kernel⟩
theorem vl8_303 : VL RX8 303 7 yX7_addTo cX7_addTo 7 (some .long) 2 := ⟨⟨TX7, 4, rfl⟩, List.mem_of_getElem? (i := 954) (by decide +kernel), List.mem_of_getElem? (i := 955) (by decide +kernel), List.mem_of_getElem? (i := 956) (by decide +kernel), List.mem_of_getElem? (i := 32) (by decide +kernel), List.mem_of_getElem? (i := 957) (by decide +kernel), ⟨by decide +kernel, by decide +kernel⟩, by decide +kernel⟩
theorem vl8_309 : VL RX8 309 8 yX8_isRankedAnew cX8_isRankedAnew 2 (some .boolean) 1 := ⟨⟨TX8, 14, rfl⟩, List.mem_of_getElem? (i := 970) (by decide +kernel), List.mem_of_getElem? (i := 971) (by decide +kernel), List.mem_of_getElem? (i := 972) (by decide +kernel), List.mem_of_getElem? (i := 2) (by decide +kernel), List.mem_of_getElem? (i := 973) (by decide +kernel), ⟨by decide +kernel, by decide +kernel⟩, by decide +kernel⟩
theorem vl8_359 : VL RX8 359 1 yX1_isLike cX1_isLike 3 (some .boolean) 1 := ⟨⟨TX1, 7, rfl⟩, List.mem_of_getElem? (i := 974) (by decide +kernel), List.mem_of_getElem? (i := 975) (by decide +kernel), List.mem_of_getElem? (i := 976) (by decide +kernel), List.mem_of_getElem? (i := 40) (by decide +kernel), List.mem_of_getElem? (i := 977) (by decide +kernel), ⟨by decide +kernel, by decide +kernel⟩, by decide +kernel⟩
theorem vl8_312 : VL RX8 312 8 yX8_areBalloonsEarned cX8_areBalloonsEarned 5 (some .boolean) 0 := ⟨⟨TX8, 14, rfl⟩, List.mem_of_getElem? (i := 978) (by decide +kernel), List.mem_of_getElem? (i := 979) (by decide +kernel), List.mem_of_getElem? (i := 980) (by decide +kernel), List.mem_of_getElem? (i := 2) (by decide +kernel), List.mem_of_getElem? (i := 981) (by decide +kernel), ⟨by decide +kernel, by decide +kernel⟩, by decide +kernel⟩
theorem vl8_363 : VL RX8 363 1 yX1_hasSolved cX1_hasSolved 2 (some .boolean) 1 := ⟨⟨TX1, 7, rfl⟩, List.mem_of_getElem? (i := 982) (by decide +kernel), List.mem_of_getElem? (i := 408) (by decide +kernel), List.mem_of_getElem? (i := 409) (by decide +kernel), List.mem_of_getElem? (i := 40) (by decide +kernel), List.mem_of_getElem? (i := 410) (by decide +kernel), ⟨by decide +kernel, by decide +kernel⟩, by decide +kernel⟩
theorem vl8_316 : VL RX8 316 0 yX0_isStockLeftOver cX0_isStockLeftOver 2 (some .boolean) 0 := ⟨⟨TX0, 6, rfl⟩, List.mem_of_getElem? (i := 983) (by decide +kernel), List.mem_of_getElem? (i := 984) (by decide +kernel), List.mem_of_getElem? (i := 985) (by decide +kernel), List.mem_of_getElem? (i := 36) (by decide +kernel), List.mem_of_getElem? (i := 986) (by decide +kernel), ⟨by decide +kernel, by decide +kernel⟩, by decide +kernel⟩
theorem vl8_319 : VL RX8 319 8 yX8_areOutputsAnew cX8_areOutputsAnew 4 (some .boolean) 0 := ⟨⟨TX8, 14, rfl⟩, List.mem_of_getElem? (i := 987) (by decide +kernel), List.mem_of_getElem? (i := 988) (by decide +kernel), List.mem_of_getElem? (i := 989) (by decide +kernel), List.mem_of_getElem? (i := 2) (by decide +kernel), List.mem_of_getElem? (i := 990) (by decide +kernel), ⟨by decide +kernel, by decide +kernel⟩, by decide +kernel⟩
theorem vl8_366 : VL RX8 366 7 yX7_isAlike cX7_isAlike 5 (some .boolean) 3 := ⟨⟨TX7, 4, rfl⟩, List.mem_of_getElem? (i := 991) (by decide +kernel), List.mem_of_getElem? (i := 361) (by decide +kernel), List.mem_of_getElem? (i := 362) (by decide +kernel), List.mem_of_getElem? (i := 32) (by decide +kernel), List.mem_of_getElem? (i := 363) (by decide +kernel), ⟨by decide +kernel, by decide +kernel⟩, by decide +kernel⟩
abbrev mX8_step : MI := (cX8_step, RX8, 4, (some .int))
abbrev mX8_isStep : MI := (cX8_isStep, RX8, 3, (some .boolean))
abbrev mX8_isPlace : MI := (cX8_isPlace, RX8, 1, (some .boolean))
abbrev mX8_isWithin : MI := (cX8_isWithin, RX8, 3, (some .boolean))
abbrev mX8_isNumber : MI := (cX8_isNumber, RX8, 1, (some .boolean))
abbrev mX5_append : MI := (cX5_append, RX5, 4, none)
abbrev mX9_step : MI := (cX9_step, RX9, 4, (some .int))
abbrev mX9_isStep : MI := (cX9_isStep, RX9, 3, (some .boolean))
abbrev mX9_in : MI := (cX9_in, RX9, 3, (some .boolean))
abbrev mX9_fails : MI := (cX9_fails, RX9, 2, (some .boolean))
abbrev mX9_thrown : MI := (cX9_thrown, RX9, 1, (some .int))
abbrev mX8_number : MI := (cX8_number, RX8, 3, (some .int))
abbrev mX3_hasRoom : MI := (cX3_hasRoom, RX3, 2, (some .boolean))
abbrev mX3_append : MI := (cX3_append, RX3, 3, (some .int))
abbrev mX9_number : MI := (cX9_number, RX9, 3, (some .int))
abbrev mX8_wipe : MI := (cX8_wipe, RX8, 2, (some .int))
abbrev mX5_clear : MI := (cX5_clear, RX5, 2, (some .int))
abbrev mX3_clear : MI := (cX3_clear, RX3, 2, (some .int))
abbrev mX9_wipe : MI := (cX9_wipe, RX9, 3, (some .int))
abbrev mX8_problem : MI := (cX8_problem, RX8, 3, (some .int))
abbrev mX8_isColour : MI := (cX8_isColour, RX8, 1, (some .boolean))
abbrev mX9_problem : MI := (cX9_problem, RX9, 3, (some .int))
abbrev mX8_test : MI := (cX8_test, RX8, 3, (some .int))
abbrev mX8_hasProblem : MI := (cX8_hasProblem, RX8, 2, (some .boolean))
abbrev mX3_copyFrom : MI := (cX3_copyFrom, RX3, 3, none)
abbrev mX8_judgeAnew : MI := (cX8_judgeAnew, RX8, 6, (some .int))
abbrev mX8_judge : MI := (cX8_judge, RX8, 4, none)
abbrev mX2_execute : MI := (cX2_execute, RX2, 5, none)
abbrev mX2_reset : MI := (cX2_reset, RX2, 2, none)
abbrev mX2_doNextStep : MI := (cX2_doNextStep, RX2, 6, none)
abbrev mX2_takeInput : MI := (cX2_takeInput, RX2, 3, none)
abbrev mX2_putOut : MI := (cX2_putOut, RX2, 2, none)
abbrev mX2_divide : MI := (cX2_divide, RX2, 3, none)
abbrev mX2_goIf : MI := (cX2_goIf, RX2, 4, none)
abbrev mX3_isExpected : MI := (cX3_isExpected, RX3, 4, (some .boolean))
abbrev mX7_release : MI := (cX7_release, RX7, 2, none)
abbrev mX7_keep : MI := (cX7_keep, RX7, 4, (some .int))
abbrev mX7_find : MI := (cX7_find, RX7, 4, (some .int))
abbrev mX7_isAlike : MI := (cX7_isAlike, RX7, 5, (some .boolean))
abbrev mX7_numberAt : MI := (cX7_numberAt, RX7, 3, (some .int))
abbrev mX7_firstFree : MI := (cX7_firstFree, RX7, 2, (some .int))
abbrev mX7_fill : MI := (cX7_fill, RX7, 5, none)
abbrev mX6_conclude : MI := (cX6_conclude, RX6, 3, none)
abbrev mX8_recountBoards : MI := (cX8_recountBoards, RX8, 1, none)
abbrev mX1_recount : MI := (cX1_recount, RX1, 6, none)
abbrev mX1_clear : MI := (cX1_clear, RX1, 2, none)
abbrev mX1_count : MI := (cX1_count, RX1, 3, none)
abbrev mX8_spotOf : MI := (cX8_spotOf, RX8, 2, (some .int))
abbrev mX1_hasSolved : MI := (cX1_hasSolved, RX1, 2, (some .boolean))
abbrev mX1_putInOrder : MI := (cX1_putInOrder, RX1, 3, none)
abbrev mX1_isAhead : MI := (cX1_isAhead, RX1, 3, (some .boolean))
abbrev mX0_follow : MI := (cX0_follow, RX0, 6, none)
abbrev mX0_takeAway : MI := (cX0_takeAway, RX0, 3, none)
abbrev mX0_leaveQueue : MI := (cX0_leaveQueue, RX0, 4, none)
abbrev mX0_dropFromQueue : MI := (cX0_dropFromQueue, RX0, 6, none)
abbrev mX0_serve : MI := (cX0_serve, RX0, 3, none)
abbrev mX0_enqueue : MI := (cX0_enqueue, RX0, 3, none)
abbrev mX9_test : MI := (cX9_test, RX9, 3, (some .int))
abbrev mX9_isNoProblem : MI := (cX9_isNoProblem, RX9, 2, (some .boolean))
abbrev mX9_lays : MI := (cX9_lays, RX9, 4, none)
abbrev mX9_judgesAnew : MI := (cX9_judgesAnew, RX9, 8, (some .int))
abbrev mX9_verdictOf : MI := (cX9_verdictOf, RX9, 3, (some .char))
abbrev mX9_failedOf : MI := (cX9_failedOf, RX9, 3, (some .int))
abbrev mX9_judges : MI := (cX9_judges, RX9, 11, none)
abbrev mX9_isExpected : MI := (cX9_isExpected, RX9, 6, (some .boolean))
abbrev mX9_tells : MI := (cX9_tells, RX9, 4, (some .char))
abbrev mX9_reckons : MI := (cX9_reckons, RX9, 4, (some .char))
abbrev mX9_calls : MI := (cX9_calls, RX9, 3, none)
abbrev mX9_hasSolved : MI := (cX9_hasSolved, RX9, 5, (some .boolean))
abbrev mX9_gives : MI := (cX9_gives, RX9, 3, none)
abbrev mX9_waitingAt : MI := (cX9_waitingAt, RX9, 9, (some .int))
abbrev mX9_sends : MI := (cX9_sends, RX9, 3, none)
abbrev mX8_fix : MI := (cX8_fix, RX8, 3, (some .int))
abbrev mX4_hasTest : MI := (cX4_hasTest, RX4, 2, (some .boolean))
abbrev mX9_fix : MI := (cX9_fix, RX9, 3, (some .int))
abbrev mX8_tests : MI := (cX8_tests, RX8, 2, (some .int))
abbrev mX9_tests : MI := (cX9_tests, RX9, 2, (some .int))
abbrev mX8_team : MI := (cX8_team, RX8, 1, (some .int))
abbrev mX9_team : MI := (cX9_team, RX9, 2, (some .int))
abbrev mX8_submit : MI := (cX8_submit, RX8, 5, (some .int))
abbrev mX8_hasTeam : MI := (cX8_hasTeam, RX8, 2, (some .boolean))
abbrev mX8_lastMinute : MI := (cX8_lastMinute, RX8, 1, (some .int))
abbrev mX5_copyFrom : MI := (cX5_copyFrom, RX5, 3, none)
abbrev mX8_judgeByAll : MI := (cX8_judgeByAll, RX8, 4, none)
abbrev mX8_testCountOf : MI := (cX8_testCountOf, RX8, 2, (some .int))
abbrev mX9_submit : MI := (cX9_submit, RX9, 7, (some .int))
abbrev mX9_isNoTeam : MI := (cX9_isNoTeam, RX9, 2, (some .boolean))
abbrev mX8_verdict : MI := (cX8_verdict, RX8, 2, (some .char))
abbrev mX8_hasRun : MI := (cX8_hasRun, RX8, 2, (some .boolean))
abbrev mX9_verdict : MI := (cX9_verdict, RX9, 2, (some .char))
abbrev mX9_isNoRun : MI := (cX9_isNoRun, RX9, 2, (some .boolean))
abbrev mX8_failed : MI := (cX8_failed, RX8, 2, (some .int))
abbrev mX9_failed : MI := (cX9_failed, RX9, 2, (some .int))
abbrev mX8_ended : MI := (cX8_ended, RX8, 3, (some .char))
abbrev mX8_hasTestOfRun : MI := (cX8_hasTestOfRun, RX8, 3, (some .boolean))
abbrev mX9_ended : MI := (cX9_ended, RX9, 3, (some .char))
abbrev mX9_isNoTest : MI := (cX9_isNoTest, RX9, 3, (some .boolean))
abbrev mX8_steps : MI := (cX8_steps, RX8, 3, (some .int))
abbrev mX9_steps : MI := (cX9_steps, RX9, 3, (some .int))
abbrev mX8_outputs : MI := (cX8_outputs, RX8, 3, (some .int))
abbrev mX9_outputs : MI := (cX9_outputs, RX9, 3, (some .int))
abbrev mX8_output : MI := (cX8_output, RX8, 5, (some .int))
abbrev mX9_output : MI := (cX9_output, RX9, 4, (some .int))
abbrev mX8_kept : MI := (cX8_kept, RX8, 1, (some .int))
abbrev mX9_kept : MI := (cX9_kept, RX9, 4, (some .int))
abbrev mX9_isFirst : MI := (cX9_isFirst, RX9, 6, (some .boolean))
abbrev mX9_areAlike : MI := (cX9_areAlike, RX9, 7, (some .boolean))
abbrev mX8_sharing : MI := (cX8_sharing, RX8, 3, (some .int))
abbrev mX9_sharing : MI := (cX9_sharing, RX9, 6, (some .int))
abbrev mX8_stock : MI := (cX8_stock, RX8, 3, (some .int))
abbrev mX9_stock : MI := (cX9_stock, RX9, 3, (some .int))
abbrev mX9_isNoColour : MI := (cX9_isNoColour, RX9, 1, (some .boolean))
abbrev mX8_inStock : MI := (cX8_inStock, RX8, 2, (some .int))
abbrev mX9_inStock : MI := (cX9_inStock, RX9, 2, (some .int))
abbrev mX8_out : MI := (cX8_out, RX8, 2, (some .int))
abbrev mX9_out : MI := (cX9_out, RX9, 5, (some .int))
abbrev mX8_balloon : MI := (cX8_balloon, RX8, 3, (some .char))
abbrev mX9_balloon : MI := (cX9_balloon, RX9, 3, (some .char))
abbrev mX8_waiting : MI := (cX8_waiting, RX8, 3, (some .int))
abbrev mX8_teamOf : MI := (cX8_teamOf, RX8, 1, (some .int))
abbrev mX9_waiting : MI := (cX9_waiting, RX9, 4, (some .int))
abbrev mX8_calledBack : MI := (cX8_calledBack, RX8, 1, (some .int))
abbrev mX9_calledBack : MI := (cX9_calledBack, RX9, 1, (some .int))
abbrev mX8_freeze : MI := (cX8_freeze, RX8, 4, (some .int))
abbrev mX9_freeze : MI := (cX9_freeze, RX9, 4, (some .int))
abbrev mX9_isPending : MI := (cX9_isPending, RX9, 2, (some .boolean))
abbrev mX8_pending : MI := (cX8_pending, RX8, 3, (some .int))
abbrev mX8_countPending : MI := (cX8_countPending, RX8, 5, (some .int))
abbrev mX9_pending : MI := (cX9_pending, RX9, 3, (some .int))
abbrev mX9_pendingOf : MI := (cX9_pendingOf, RX9, 5, (some .int))
abbrev mX8_open : MI := (cX8_open, RX8, 2, (some .int))
abbrev mX8_lowestPendingTeam : MI := (cX8_lowestPendingTeam, RX8, 3, (some .int))
abbrev mX8_lowestPendingProblem : MI := (cX8_lowestPendingProblem, RX8, 3, (some .int))
abbrev mX8_openRuns : MI := (cX8_openRuns, RX8, 4, none)
abbrev mX9_open : MI := (cX9_open, RX9, 4, (some .int))
abbrev mX9_pendingIn : MI := (cX9_pendingIn, RX9, 3, (some .int))
abbrev mX9_isAhead : MI := (cX9_isAhead, RX9, 5, (some .boolean))
abbrev mX9_solvedBy : MI := (cX9_solvedBy, RX9, 5, (some .int))
abbrev mX9_firstOf : MI := (cX9_firstOf, RX9, 5, (some .int))
abbrev mX9_penaltyOf : MI := (cX9_penaltyOf, RX9, 7, (some .int))
abbrev mX9_latestOf : MI := (cX9_latestOf, RX9, 6, (some .int))
abbrev mX8_solved : MI := (cX8_solved, RX8, 3, (some .int))
abbrev mX8_boardOf : MI := (cX8_boardOf, RX8, 2, (some (.object "Judgefold$Board"))
abbrev mX9_solved : MI := (cX9_solved, RX9, 3, (some .int))
abbrev mX8_penalty : MI := (cX8_penalty, RX8, 3, (some .int))
abbrev mX9_penalty : MI := (cX9_penalty, RX9, 3, (some .int))
abbrev mX8_rank : MI := (cX8_rank, RX8, 3, (some .int))
abbrev mX1_rankOf : MI := (cX1_rankOf, RX1, 3, (some .int))
abbrev mX9_rank : MI := (cX9_rank, RX9, 3, (some .int))
abbrev mX9_rankOf : MI := (cX9_rankOf, RX9, 5, (some .int))
abbrev mX8_ranked : MI := (cX8_ranked, RX8, 3, (some .int))
abbrev mX9_ranked : MI := (cX9_ranked, RX9, 5, (some .int))
abbrev mX8_acceptedShare : MI := (cX8_acceptedShare, RX8, 3, (some .float))
abbrev mX9_acceptedShare : MI := (cX9_acceptedShare, RX9, 3, (some .float))
abbrev mX8_meanSteps : MI := (cX8_meanSteps, RX8, 6, (some .double))
abbrev mX9_meanSteps : MI := (cX9_meanSteps, RX9, 5, (some .double))
abbrev mX8_checksum : MI := (cX8_checksum, RX8, 6, (some .long))
abbrev mX7_addTo : MI := (cX7_addTo, RX7, 7, (some .long))
abbrev mX9_checksum : MI := (cX9_checksum, RX9, 6, (some .long))
abbrev mX8_isTrue : MI := (cX8_isTrue, RX8, 1, (some .boolean))
abbrev mX8_isRankedAnew : MI := (cX8_isRankedAnew, RX8, 2, (some .boolean))
abbrev mX1_isLike : MI := (cX1_isLike, RX1, 3, (some .boolean))
abbrev mX8_areBalloonsEarned : MI := (cX8_areBalloonsEarned, RX8, 5, (some .boolean))
abbrev mX0_isStockLeftOver : MI := (cX0_isStockLeftOver, RX0, 2, (some .boolean))
abbrev mX8_areOutputsAnew : MI := (cX8_areOutputsAnew, RX8, 4, (some .boolean))
abbrev mX9_isTrue : MI := (cX9_isTrue, RX9, 1, (some .boolean))
