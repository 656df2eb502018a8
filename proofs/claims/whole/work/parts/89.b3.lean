theorem dvX0 : ∀ k, k < 6 → defaultValue (tyX0 k) = dvl 0 k := by
  intro k hk
  rcases (show k = 0 ∨ k = 1 ∨ k = 2 ∨ k = 3 ∨ k = 4 ∨ k = 5 by omega) with rfl | rfl | rfl | rfl | rfl | rfl <;> rfl
theorem dvX1 : ∀ k, k < 7 → defaultValue (tyX1 k) = dvl 1 k := by
  intro k hk
  rcases (show k = 0 ∨ k = 1 ∨ k = 2 ∨ k = 3 ∨ k = 4 ∨ k = 5 ∨ k = 6 by omega) with rfl | rfl | rfl | rfl | rfl | rfl | rfl <;> rfl
theorem dvX2 : ∀ k, k < 7 → defaultValue (tyX2 k) = dvl 2 k := by
  intro k hk
  rcases (show k = 0 ∨ k = 1 ∨ k = 2 ∨ k = 3 ∨ k = 4 ∨ k = 5 ∨ k = 6 by omega) with rfl | rfl | rfl | rfl | rfl | rfl | rfl <;> rfl
theorem dvX3 : ∀ k, k < 4 → defaultValue (tyX3 k) = dvl 3 k := by
  intro k hk
  rcases (show k = 0 ∨ k = 1 ∨ k = 2 ∨ k = 3 by omega) with rfl | rfl | rfl | rfl <;> rfl
theorem dvX4 : ∀ k, k < 4 → defaultValue (tyX4 k) = dvl 4 k := by
  intro k hk
  rcases (show k = 0 ∨ k = 1 ∨ k = 2 ∨ k = 3 by omega) with rfl | rfl | rfl | rfl <;> rfl
theorem dvX5 : ∀ k, k < 4 → defaultValue (tyX5 k) = dvl 5 k := by
  intro k hk
  rcases (show k = 0 ∨ k = 1 ∨ k = 2 ∨ k = 3 by omega) with rfl | rfl | rfl | rfl <;> rfl
theorem dvX6 : ∀ k, k < 10 → defaultValue (tyX6 k) = dvl 6 k := by
  intro k hk
  rcases (show k = 0 ∨ k = 1 ∨ k = 2 ∨ k = 3 ∨ k = 4 ∨ k = 5 ∨ k = 6 ∨ k = 7 ∨ k = 8 ∨ k = 9 by omega) with rfl | rfl | rfl | rfl | rfl | rfl | rfl | rfl | rfl | rfl <;> rfl
theorem dvX7 : ∀ k, k < 4 → defaultValue (tyX7 k) = dvl 7 k := by
  intro k hk
  rcases (show k = 0 ∨ k = 1 ∨ k = 2 ∨ k = 3 by omega) with rfl | rfl | rfl | rfl <;> rfl
theorem dvX8 : ∀ k, k < 14 → defaultValue (tyX8 k) = dvl 8 k := by
  intro k hk
  rcases (show k = 0 ∨ k = 1 ∨ k = 2 ∨ k = 3 ∨ k = 4 ∨ k = 5 ∨ k = 6 ∨ k = 7 ∨ k = 8 ∨ k = 9 ∨ k = 10 ∨ k = 11 ∨ k = 12 ∨ k = 13 by omega) with rfl | rfl | rfl | rfl | rfl | rfl | rfl | rfl | rfl | rfl | rfl | rfl | rfl | rfl <;> rfl
theorem dvX9 : ∀ k, k < 38 → defaultValue (tyX9 k) = dvl 9 k := by
  intro k hk
  rcases (show k = 0 ∨ k = 1 ∨ k = 2 ∨ k = 3 ∨ k = 4 ∨ k = 5 ∨ k = 6 ∨ k = 7 ∨ k = 8 ∨ k = 9 ∨ k = 10 ∨ k = 11 ∨ k = 12 ∨ k = 13 ∨ k = 14 ∨ k = 15 ∨ k = 16 ∨ k = 17 ∨ k = 18 ∨ k = 19 ∨ k = 20 ∨ k = 21 ∨ k = 22 ∨ k = 23 ∨ k = 24 ∨ k = 25 ∨ k = 26 ∨ k = 27 ∨ k = 28 ∨ k = 29 ∨ k = 30 ∨ k = 31 ∨ k = 32 ∨ k = 33 ∨ k = 34 ∨ k = 35 ∨ k = 36 ∨ k = 37 by omega) with rfl | rfl | rfl | rfl | rfl | rfl | rfl | rfl | rfl | rfl | rfl | rfl | rfl | rfl | rfl | rfl | rfl | rfl | rfl | rfl | rfl | rfl | rfl | rfl | rfl | rfl | rfl | rfl | rfl | rfl | rfl | rfl | rfl | rfl | rfl | rfl | rfl | rfl <;> rfl
theorem ac_int : Cond.arrayClass .int ∈ wsL_law := inr3 _ (List.mem_of_getElem? (i := 9) rfl)
theorem ac_char : Cond.arrayClass .char ∈ wsL_law := inr3 _ (List.mem_of_getElem? (i := 7) rfl)
theorem ac_boolean : Cond.arrayClass .boolean ∈ wsL_law := inr7 _ (List.mem_of_getElem? (i := 18) rfl)
theorem ac_long : Cond.arrayClass .long ∈ wsL_law := inr1 _ (List.mem_of_getElem? (i := 6) rfl)
theorem ac_double : Cond.arrayClass .double ∈ wsL_law := inr1 _ (List.mem_of_getElem? (i := 7) rfl)
theorem ck8_9 : Cond.classLink RX8 9 RX5 ∈ wsL_law := inr1 _ (List.mem_of_getElem? (i := 14) rfl)
theorem ck8_16 : Cond.classLink RX8 16 RX3 ∈ wsL_law := inr1 _ (List.mem_of_getElem? (i := 18) rfl)
theorem ck8_23 : Cond.classLink RX8 23 RX4 ∈ wsL_law := inr1 _ (List.mem_of_getElem? (i := 22) rfl)
theorem ck8_29 : Cond.classLink RX8 29 RX6 ∈ wsL_law := inr2 _ (List.mem_of_getElem? (i := 0) rfl)
theorem ck8_35 : Cond.classLink RX8 35 RX2 ∈ wsL_law := inr2 _ (List.mem_of_getElem? (i := 2) rfl)
theorem ck8_42 : Cond.classLink RX8 42 RX7 ∈ wsL_law := inr2 _ (List.mem_of_getElem? (i := 6) rfl)
theorem ck8_49 : Cond.classLink RX8 49 RX0 ∈ wsL_law := inr2 _ (List.mem_of_getElem? (i := 10) rfl)
theorem ck8_56 : Cond.classLink RX8 56 RX1 ∈ wsL_law := inr2 _ (List.mem_of_getElem? (i := 14) rfl)
theorem ck0_15 : Cond.classLink RX0 15 "[[I" ∈ wsL_law := inr4 _ (List.mem_of_getElem? (i := 18) rfl)
theorem ck4_9 : Cond.classLink RX4 9 RX3 ∈ wsL_law := inr5 _ (List.mem_of_getElem? (i := 14) rfl)
theorem ck6_9 : Cond.classLink RX6 9 RX5 ∈ wsL_law := inr5 _ (List.mem_of_getElem? (i := 23) rfl)
theorem nwL_8 : NWd RL 8 8 14 := ⟨RX8, TX8, tyX8, rfl, inr1 _ (List.mem_of_getElem? (i := 0) rfl), inr1 _ (List.mem_of_getElem? (i := 1) rfl), inr1 _ (List.mem_of_getElem? (i := 2) rfl), inlX8, tyX8_ok, dvX8⟩
theorem nwL_119 : NWd RL 119 9 38 := ⟨RX9, TX9, tyX9, rfl, inr1 _ (List.mem_of_getElem? (i := 3) rfl), inr1 _ (List.mem_of_getElem? (i := 4) rfl), inr1 _ (List.mem_of_getElem? (i := 5) rfl), inlX9, tyX9_ok, dvX9⟩
theorem ilL_118 : IL RL 118 yX8_init cX8_init 2 := ⟨inr1 _ (List.mem_of_getElem? (i := 8) rfl), inr1 _ (List.mem_of_getElem? (i := 9) rfl), inr1 _ (List.mem_of_getElem? (i := 2) rfl), inr1 _ (List.mem_of_getElem? (i := 10) rfl), rfl, ⟨by decide +kernel, by decide +kernel⟩, by decide +kernel⟩
theorem ow8_3 : OW RX8 3 := ⟨inr1 _ (List.mem_of_getElem? (i := 11) rfl), inr1 _ (List.mem_of_getElem? (i := 12) rfl), inr1 _ (List.mem_of_getElem? (i := 13) rfl)⟩
theorem nwX8_9 : NWd RX8 9 5 4 := ⟨RX5, TX5, tyX5, rfl, inr1 _ (List.mem_of_getElem? (i := 14) rfl), inr1 _ (List.mem_of_getElem? (i := 15) rfl), inr1 _ (List.mem_of_getElem? (i := 16) rfl), inlX5, tyX5_ok, dvX5⟩
theorem fp8_12 : FP RX8 12 8 14 0 (.object "Judgefold$Program") := ⟨RX8, TX8, tyX8, rfl, by decide, inr1 _ (List.mem_of_getElem? (i := 17) rfl), inlX8, Or.inr ⟨rfl, rfl⟩, by decide +kernel, tyX8_ok, nmX8⟩
theorem nwX8_16 : NWd RX8 16 3 4 := ⟨RX3, TX3, tyX3, rfl, inr1 _ (List.mem_of_getElem? (i := 18) rfl), inr1 _ (List.mem_of_getElem? (i := 19) rfl), inr1 _ (List.mem_of_getElem? (i := 20) rfl), inlX3, tyX3_ok, dvX3⟩
theorem fp8_19 : FP RX8 19 8 14 1 (.object "Judgefold$Numbers") := ⟨RX8, TX8, tyX8, rfl, by decide, inr1 _ (List.mem_of_getElem? (i := 21) rfl), inlX8, Or.inr ⟨rfl, rfl⟩, by decide +kernel, tyX8_ok, nmX8⟩
theorem nwX8_23 : NWd RX8 23 4 4 := ⟨RX4, TX4, tyX4, rfl, inr1 _ (List.mem_of_getElem? (i := 22) rfl), inr3 _ (List.mem_of_getElem? (i := 0) rfl), inr3 _ (List.mem_of_getElem? (i := 1) rfl), inlX4, tyX4_ok, dvX4⟩
theorem fp8_25 : FP RX8 25 8 14 2 (.array (.object "Judgefold$Problem")) := ⟨RX8, TX8, tyX8, rfl, by decide, inr1 _ (List.mem_of_getElem? (i := 23) rfl), inlX8, Or.inr ⟨rfl, rfl⟩, by decide +kernel, tyX8_ok, nmX8⟩
theorem nwX8_29 : NWd RX8 29 6 10 := ⟨RX6, TX6, tyX6, rfl, inr2 _ (List.mem_of_getElem? (i := 0) rfl), inr3 _ (List.mem_of_getElem? (i := 2) rfl), inr3 _ (List.mem_of_getElem? (i := 3) rfl), inlX6, tyX6_ok, dvX6⟩
theorem fp8_31 : FP RX8 31 8 14 3 (.array (.object "Judgefold$Run")) := ⟨RX8, TX8, tyX8, rfl, by decide, inr2 _ (List.mem_of_getElem? (i := 1) rfl), inlX8, Or.inr ⟨rfl, rfl⟩, by decide +kernel, tyX8_ok, nmX8⟩
theorem nwX8_35 : NWd RX8 35 2 7 := ⟨RX2, TX2, tyX2, rfl, inr2 _ (List.mem_of_getElem? (i := 2) rfl), inr2 _ (List.mem_of_getElem? (i := 3) rfl), inr2 _ (List.mem_of_getElem? (i := 4) rfl), inlX2, tyX2_ok, dvX2⟩
theorem fp8_38 : FP RX8 38 8 14 4 (.object "Judgefold$Machine") := ⟨RX8, TX8, tyX8, rfl, by decide, inr2 _ (List.mem_of_getElem? (i := 5) rfl), inlX8, Or.inr ⟨rfl, rfl⟩, by decide +kernel, tyX8_ok, nmX8⟩
theorem nwX8_42 : NWd RX8 42 7 4 := ⟨RX7, TX7, tyX7, rfl, inr2 _ (List.mem_of_getElem? (i := 6) rfl), inr2 _ (List.mem_of_getElem? (i := 7) rfl), inr2 _ (List.mem_of_getElem? (i := 8) rfl), inlX7, tyX7_ok, dvX7⟩
theorem fp8_45 : FP RX8 45 8 14 5 (.object "Judgefold$Store") := ⟨RX8, TX8, tyX8, rfl, by decide, inr2 _ (List.mem_of_getElem? (i := 9) rfl), inlX8, Or.inr ⟨rfl, rfl⟩, by decide +kernel, tyX8_ok, nmX8⟩
theorem nwX8_49 : NWd RX8 49 0 6 := ⟨RX0, TX0, tyX0, rfl, inr2 _ (List.mem_of_getElem? (i := 10) rfl), inr2 _ (List.mem_of_getElem? (i := 11) rfl), inr2 _ (List.mem_of_getElem? (i := 12) rfl), inlX0, tyX0_ok, dvX0⟩
theorem fp8_52 : FP RX8 52 8 14 6 (.object "Judgefold$Balloons") := ⟨RX8, TX8, tyX8, rfl, by decide, inr2 _ (List.mem_of_getElem? (i := 13) rfl), inlX8, Or.inr ⟨rfl, rfl⟩, by decide +kernel, tyX8_ok, nmX8⟩
theorem nwX8_56 : NWd RX8 56 1 7 := ⟨RX1, TX1, tyX1, rfl, inr2 _ (List.mem_of_getElem? (i := 14) rfl), inr2 _ (List.mem_of_getElem? (i := 15) rfl), inr2 _ (List.mem_of_getElem? (i := 16) rfl), inlX1, tyX1_ok, dvX1⟩
theorem fp8_59 : FP RX8 59 8 14 7 (.object "Judgefold$Board") := ⟨RX8, TX8, tyX8, rfl, by decide, inr2 _ (List.mem_of_getElem? (i := 17) rfl), inlX8, Or.inr ⟨rfl, rfl⟩, by decide +kernel, tyX8_ok, nmX8⟩
theorem fp8_63 : FP RX8 63 8 14 8 (.object "Judgefold$Board") := ⟨RX8, TX8, tyX8, rfl, by decide, inr2 _ (List.mem_of_getElem? (i := 18) rfl), inlX8, Or.inr ⟨rfl, rfl⟩, by decide +kernel, tyX8_ok, nmX8⟩
theorem fp8_66 : FP RX8 66 8 14 9 (.object "Judgefold$Board") := ⟨RX8, TX8, tyX8, rfl, by decide, inr2 _ (List.mem_of_getElem? (i := 19) rfl), inlX8, Or.inr ⟨rfl, rfl⟩, by decide +kernel, tyX8_ok, nmX8⟩
theorem fp8_69 : FP RX8 69 8 14 10 .int := ⟨RX8, TX8, tyX8, rfl, by decide, inr2 _ (List.mem_of_getElem? (i := 20) rfl), inlX8, Or.inl rfl, by decide +kernel, tyX8_ok, nmX8⟩
theorem fp8_73 : FP RX8 73 8 14 11 .int := ⟨RX8, TX8, tyX8, rfl, by decide, inr2 _ (List.mem_of_getElem? (i := 21) rfl), inlX8, Or.inl rfl, by decide +kernel, tyX8_ok, nmX8⟩
theorem fp8_76 : FP RX8 76 8 14 12 .int := ⟨RX8, TX8, tyX8, rfl, by decide, inr2 _ (List.mem_of_getElem? (i := 22) rfl), inlX8, Or.inl rfl, by decide +kernel, tyX8_ok, nmX8⟩
theorem fp8_79 : FP RX8 79 8 14 13 .int := ⟨RX8, TX8, tyX8, rfl, by decide, inr2 _ (List.mem_of_getElem? (i := 23) rfl), inlX8, Or.inl rfl, by decide +kernel, tyX8_ok, nmX8⟩
theorem ow5_3 : OW RX5 3 := ⟨inr3 _ (List.mem_of_getElem? (i := 6) rfl), inr1 _ (List.mem_of_getElem? (i := 12) rfl), inr1 _ (List.mem_of_getElem? (i := 13) rfl)⟩
theorem fp5_9 : FP RX5 9 5 4 0 (.array .char) := ⟨RX5, TX5, tyX5, rfl, by decide, inr3 _ (List.mem_of_getElem? (i := 8) rfl), inlX5, Or.inr ⟨rfl, rfl⟩, by decide +kernel, tyX5_ok, nmX5⟩
theorem fp5_15 : FP RX5 15 5 4 1 (.array .int) := ⟨RX5, TX5, tyX5, rfl, by decide, inr3 _ (List.mem_of_getElem? (i := 10) rfl), inlX5, Or.inr ⟨rfl, rfl⟩, by decide +kernel, tyX5_ok, nmX5⟩
theorem fp5_19 : FP RX5 19 5 4 2 (.array .int) := ⟨RX5, TX5, tyX5, rfl, by decide, inr3 _ (List.mem_of_getElem? (i := 11) rfl), inlX5, Or.inr ⟨rfl, rfl⟩, by decide +kernel, tyX5_ok, nmX5⟩
theorem fp5_22 : FP RX5 22 5 4 3 .int := ⟨RX5, TX5, tyX5, rfl, by decide, inr3 _ (List.mem_of_getElem? (i := 12) rfl), inlX5, Or.inl rfl, by decide +kernel, tyX5_ok, nmX5⟩
theorem ow3_3 : OW RX3 3 := ⟨inr3 _ (List.mem_of_getElem? (i := 15) rfl), inr1 _ (List.mem_of_getElem? (i := 12) rfl), inr1 _ (List.mem_of_getElem? (i := 13) rfl)⟩
theorem fp3_9 : FP RX3 9 3 4 0 (.array .int) := ⟨RX3, TX3, tyX3, rfl, by decide, inr3 _ (List.mem_of_getElem? (i := 16) rfl), inlX3, Or.inr ⟨rfl, rfl⟩, by decide +kernel, tyX3_ok, nmX3⟩
theorem fp3_15 : FP RX3 15 3 4 1 (.array .int) := ⟨RX3, TX3, tyX3, rfl, by decide, inr3 _ (List.mem_of_getElem? (i := 17) rfl), inlX3, Or.inr ⟨rfl, rfl⟩, by decide +kernel, tyX3_ok, nmX3⟩
theorem fp3_18 : FP RX3 18 3 4 2 .int := ⟨RX3, TX3, tyX3, rfl, by decide, inr3 _ (List.mem_of_getElem? (i := 18) rfl), inlX3, Or.inl rfl, by decide +kernel, tyX3_ok, nmX3⟩
theorem fp3_22 : FP RX3 22 3 4 3 .int := ⟨RX3, TX3, tyX3, rfl, by decide, inr3 _ (List.mem_of_getElem? (i := 19) rfl), inlX3, Or.inl rfl, by decide +kernel, tyX3_ok, nmX3⟩
theorem ow2_3 : OW RX2 3 := ⟨inr3 _ (List.mem_of_getElem? (i := 22) rfl), inr1 _ (List.mem_of_getElem? (i := 12) rfl), inr1 _ (List.mem_of_getElem? (i := 13) rfl)⟩
theorem fp2_9 : FP RX2 9 2 7 0 (.array .int) := ⟨RX2, TX2, tyX2, rfl, by decide, inr3 _ (List.mem_of_getElem? (i := 23) rfl), inlX2, Or.inr ⟨rfl, rfl⟩, by decide +kernel, tyX2_ok, nmX2⟩
theorem fp2_15 : FP RX2 15 2 7 1 (.array .int) := ⟨RX2, TX2, tyX2, rfl, by decide, inr4 _ (List.mem_of_getElem? (i := 0) rfl), inlX2, Or.inr ⟨rfl, rfl⟩, by decide +kernel, tyX2_ok, nmX2⟩
theorem fp2_18 : FP RX2 18 2 7 2 .int := ⟨RX2, TX2, tyX2, rfl, by decide, inr4 _ (List.mem_of_getElem? (i := 1) rfl), inlX2, Or.inl rfl, by decide +kernel, tyX2_ok, nmX2⟩
theorem fp2_22 : FP RX2 22 2 7 3 .int := ⟨RX2, TX2, tyX2, rfl, by decide, inr4 _ (List.mem_of_getElem? (i := 2) rfl), inlX2, Or.inl rfl, by decide +kernel, tyX2_ok, nmX2⟩
theorem fp2_25 : FP RX2 25 2 7 4 .int := ⟨RX2, TX2, tyX2, rfl, by decide, inr4 _ (List.mem_of_getElem? (i := 3) rfl), inlX2, Or.inl rfl, by decide +kernel, tyX2_ok, nmX2⟩
theorem fp2_28 : FP RX2 28 2 7 5 .int := ⟨RX2, TX2, tyX2, rfl, by decide, inr4 _ (List.mem_of_getElem? (i := 4) rfl), inlX2, Or.inl rfl, by decide +kernel, tyX2_ok, nmX2⟩
theorem fp2_31 : FP RX2 31 2 7 6 .char := ⟨RX2, TX2, tyX2, rfl, by decide, inr4 _ (List.mem_of_getElem? (i := 5) rfl), inlX2, Or.inl rfl, by decide +kernel, tyX2_ok, nmX2⟩
theorem ow7_3 : OW RX7 3 := ⟨inr4 _ (List.mem_of_getElem? (i := 8) rfl), inr1 _ (List.mem_of_getElem? (i := 12) rfl), inr1 _ (List.mem_of_getElem? (i := 13) rfl)⟩
theorem fp7_9 : FP RX7 9 7 4 0 (.array .int) := ⟨RX7, TX7, tyX7, rfl, by decide, inr4 _ (List.mem_of_getElem? (i := 9) rfl), inlX7, Or.inr ⟨rfl, rfl⟩, by decide +kernel, tyX7_ok, nmX7⟩
theorem fp7_15 : FP RX7 15 7 4 1 (.array .int) := ⟨RX7, TX7, tyX7, rfl, by decide, inr4 _ (List.mem_of_getElem? (i := 10) rfl), inlX7, Or.inr ⟨rfl, rfl⟩, by decide +kernel, tyX7_ok, nmX7⟩
theorem fp7_18 : FP RX7 18 7 4 2 (.array .int) := ⟨RX7, TX7, tyX7, rfl, by decide, inr4 _ (List.mem_of_getElem? (i := 11) rfl), inlX7, Or.inr ⟨rfl, rfl⟩, by decide +kernel, tyX7_ok, nmX7⟩
theorem fp7_21 : FP RX7 21 7 4 3 .int := ⟨RX7, TX7, tyX7, rfl, by decide, inr4 _ (List.mem_of_getElem? (i := 12) rfl), inlX7, Or.inl rfl, by decide +kernel, tyX7_ok, nmX7⟩
theorem ilX8_51 : IL RX8 51 yX0_init cX0_init 2 := ⟨inr4 _ (List.mem_of_getElem? (i := 13) rfl), inr4 _ (List.mem_of_getElem? (i := 14) rfl), inr2 _ (List.mem_of_getElem? (i := 12) rfl), inr4 _ (List.mem_of_getElem? (i := 15) rfl), rfl, ⟨by decide +kernel, by decide +kernel⟩, by decide +kernel⟩
theorem ow0_3 : OW RX0 3 := ⟨inr4 _ (List.mem_of_getElem? (i := 16) rfl), inr1 _ (List.mem_of_getElem? (i := 12) rfl), inr1 _ (List.mem_of_getElem? (i := 13) rfl)⟩
theorem fp0_9 : FP RX0 9 0 6 0 (.array .char) := ⟨RX0, TX0, tyX0, rfl, by decide, inr4 _ (List.mem_of_getElem? (i := 17) rfl), inlX0, Or.inr ⟨rfl, rfl⟩, by decide +kernel, tyX0_ok, nmX0⟩
theorem fp0_17 : FP RX0 17 0 6 1 (.array (.array .int)) := ⟨RX0, TX0, tyX0, rfl, by decide, inr4 _ (List.mem_of_getElem? (i := 19) rfl), inlX0, Or.inr ⟨rfl, rfl⟩, by decide +kernel, tyX0_ok, nmX0⟩
theorem fp0_20 : FP RX0 20 0 6 2 (.array .int) := ⟨RX0, TX0, tyX0, rfl, by decide, inr4 _ (List.mem_of_getElem? (i := 20) rfl), inlX0, Or.inr ⟨rfl, rfl⟩, by decide +kernel, tyX0_ok, nmX0⟩
theorem fp0_24 : FP RX0 24 0 6 3 (.array .int) := ⟨RX0, TX0, tyX0, rfl, by decide, inr4 _ (List.mem_of_getElem? (i := 21) rfl), inlX0, Or.inr ⟨rfl, rfl⟩, by decide +kernel, tyX0_ok, nmX0⟩
theorem fp0_27 : FP RX0 27 0 6 4 (.array .int) := ⟨RX0, TX0, tyX0, rfl, by decide, inr4 _ (List.mem_of_getElem? (i := 22) rfl), inlX0, Or.inr ⟨rfl, rfl⟩, by decide +kernel, tyX0_ok, nmX0⟩
theorem fp0_30 : FP RX0 30 0 6 5 .int := ⟨RX0, TX0, tyX0, rfl, by decide, inr4 _ (List.mem_of_getElem? (i := 23) rfl), inlX0, Or.inl rfl, by decide +kernel, tyX0_ok, nmX0⟩
theorem ow1_3 : OW RX1 3 := ⟨inr5 _ (List.mem_of_getElem? (i := 2) rfl), inr1 _ (List.mem_of_getElem? (i := 12) rfl), inr1 _ (List.mem_of_getElem? (i := 13) rfl)⟩
theorem fp1_9 : FP RX1 9 1 7 0 (.array .int) := ⟨RX1, TX1, tyX1, rfl, by decide, inr5 _ (List.mem_of_getElem? (i := 3) rfl), inlX1, Or.inr ⟨rfl, rfl⟩, by decide +kernel, tyX1_ok, nmX1⟩
theorem fp1_15 : FP RX1 15 1 7 1 (.array .int) := ⟨RX1, TX1, tyX1, rfl, by decide, inr5 _ (List.mem_of_getElem? (i := 4) rfl), inlX1, Or.inr ⟨rfl, rfl⟩, by decide +kernel, tyX1_ok, nmX1⟩
theorem fp1_18 : FP RX1 18 1 7 2 (.array .int) := ⟨RX1, TX1, tyX1, rfl, by decide, inr5 _ (List.mem_of_getElem? (i := 5) rfl), inlX1, Or.inr ⟨rfl, rfl⟩, by decide +kernel, tyX1_ok, nmX1⟩
theorem fp1_21 : FP RX1 21 1 7 3 (.array .int) := ⟨RX1, TX1, tyX1, rfl, by decide, inr5 _ (List.mem_of_getElem? (i := 6) rfl), inlX1, Or.inr ⟨rfl, rfl⟩, by decide +kernel, tyX1_ok, nmX1⟩
theorem fp1_24 : FP RX1 24 1 7 4 (.array .int) := ⟨RX1, TX1, tyX1, rfl, by decide, inr5 _ (List.mem_of_getElem? (i := 7) rfl), inlX1, Or.inr ⟨rfl, rfl⟩, by decide +kernel, tyX1_ok, nmX1⟩
theorem fp1_27 : FP RX1 27 1 7 5 (.array .int) := ⟨RX1, TX1, tyX1, rfl, by decide, inr5 _ (List.mem_of_getElem? (i := 8) rfl), inlX1, Or.inr ⟨rfl, rfl⟩, by decide +kernel, tyX1_ok, nmX1⟩
theorem fp1_30 : FP RX1 30 1 7 6 .int := ⟨RX1, TX1, tyX1, rfl, by decide, inr5 _ (List.mem_of_getElem? (i := 9) rfl), inlX1, Or.inl rfl, by decide +kernel, tyX1_ok, nmX1⟩
theorem ilX8_82 : IL RX8 82 yX4_init cX4_init 2 := ⟨inr5 _ (List.mem_of_getElem? (i := 10) rfl), inr5 _ (List.mem_of_getElem? (i := 11) rfl), inr3 _ (List.mem_of_getElem? (i := 1) rfl), inr5 _ (List.mem_of_getElem? (i := 12) rfl), rfl, ⟨by decide +kernel, by decide +kernel⟩, by decide +kernel⟩
theorem ow4_3 : OW RX4 3 := ⟨inr5 _ (List.mem_of_getElem? (i := 13) rfl), inr1 _ (List.mem_of_getElem? (i := 12) rfl), inr1 _ (List.mem_of_getElem? (i := 13) rfl)⟩
theorem nwX4_9 : NWd RX4 9 3 4 := ⟨RX3, TX3, tyX3, rfl, inr5 _ (List.mem_of_getElem? (i := 14) rfl), inr1 _ (List.mem_of_getElem? (i := 19) rfl), inr1 _ (List.mem_of_getElem? (i := 20) rfl), inlX3, tyX3_ok, dvX3⟩
theorem fp4_11 : FP RX4 11 4 4 0 (.array (.object "Judgefold$Numbers")) := ⟨RX4, TX4, tyX4, rfl, by decide, inr5 _ (List.mem_of_getElem? (i := 15) rfl), inlX4, Or.inr ⟨rfl, rfl⟩, by decide +kernel, tyX4_ok, nmX4⟩
theorem fp4_17 : FP RX4 17 4 4 1 .int := ⟨RX4, TX4, tyX4, rfl, by decide, inr5 _ (List.mem_of_getElem? (i := 16) rfl), inlX4, Or.inl rfl, by decide +kernel, tyX4_ok, nmX4⟩
theorem fp4_21 : FP RX4 21 4 4 2 .int := ⟨RX4, TX4, tyX4, rfl, by decide, inr5 _ (List.mem_of_getElem? (i := 17) rfl), inlX4, Or.inl rfl, by decide +kernel, tyX4_ok, nmX4⟩
theorem fp4_24 : FP RX4 24 4 4 3 .int := ⟨RX4, TX4, tyX4, rfl, by decide, inr5 _ (List.mem_of_getElem? (i := 18) rfl), inlX4, Or.inl rfl, by decide +kernel, tyX4_ok, nmX4⟩
theorem ilX8_83 : IL RX8 83 yX6_init cX6_init 2 := ⟨inr5 _ (List.mem_of_getElem? (i := 19) rfl), inr5 _ (List.mem_of_getElem? (i := 20) rfl), inr3 _ (List.mem_of_getElem? (i := 3) rfl), inr5 _ (List.mem_of_getElem? (i := 21) rfl), rfl, ⟨by decide +kernel, by decide +kernel⟩, by decide +kernel⟩
theorem ow6_3 : OW RX6 3 := ⟨inr5 _ (List.mem_of_getElem? (i := 22) rfl), inr1 _ (List.mem_of_getElem? (i := 12) rfl), inr1 _ (List.mem_of_getElem? (i := 13) rfl)⟩
theorem nwX6_9 : NWd RX6 9 5 4 := ⟨RX5, TX5, tyX5, rfl, inr5 _ (List.mem_of_getElem? (i := 23) rfl), inr1 _ (List.mem_of_getElem? (i := 15) rfl), inr1 _ (List.mem_of_getElem? (i := 16) rfl), inlX5, tyX5_ok, dvX5⟩
theorem fp6_12 : FP RX6 12 6 10 0 (.object "Judgefold$Program") := ⟨RX6, TX6, tyX6, rfl, by decide, inr6 _ (List.mem_of_getElem? (i := 0) rfl), inlX6, Or.inr ⟨rfl, rfl⟩, by decide +kernel, tyX6_ok, nmX6⟩
theorem fp6_18 : FP RX6 18 6 10 1 (.array .char) := ⟨RX6, TX6, tyX6, rfl, by decide, inr6 _ (List.mem_of_getElem? (i := 1) rfl), inlX6, Or.inr ⟨rfl, rfl⟩, by decide +kernel, tyX6_ok, nmX6⟩
theorem fp6_22 : FP RX6 22 6 10 2 (.array .int) := ⟨RX6, TX6, tyX6, rfl, by decide, inr6 _ (List.mem_of_getElem? (i := 2) rfl), inlX6, Or.inr ⟨rfl, rfl⟩, by decide +kernel, tyX6_ok, nmX6⟩
theorem fp6_26 : FP RX6 26 6 10 3 (.array .int) := ⟨RX6, TX6, tyX6, rfl, by decide, inr6 _ (List.mem_of_getElem? (i := 3) rfl), inlX6, Or.inr ⟨rfl, rfl⟩, by decide +kernel, tyX6_ok, nmX6⟩
theorem fp6_29 : FP RX6 29 6 10 4 .int := ⟨RX6, TX6, tyX6, rfl, by decide, inr6 _ (List.mem_of_getElem? (i := 4) rfl), inlX6, Or.inl rfl, by decide +kernel, tyX6_ok, nmX6⟩
theorem fp6_33 : FP RX6 33 6 10 5 .int := ⟨RX6, TX6, tyX6, rfl, by decide, inr6 _ (List.mem_of_getElem? (i := 5) rfl), inlX6, Or.inl rfl, by decide +kernel, tyX6_ok, nmX6⟩
theorem fp6_36 : FP RX6 36 6 10 6 .int := ⟨RX6, TX6, tyX6, rfl, by decide, inr6 _ (List.mem_of_getElem? (i := 6) rfl), inlX6, Or.inl rfl, by decide +kernel, tyX6_ok, nmX6⟩
theorem fp6_39 : FP RX6 39 6 10 7 .boolean := ⟨RX6, TX6, tyX6, rfl, by decide, inr6 _ (List.mem_of_getElem? (i := 7) rfl), inlX6, Or.inl rfl, by decide +kernel, tyX6_ok, nmX6⟩
theorem fp6_43 : FP RX6 43 6 10 8 .char := ⟨RX6, TX6, tyX6, rfl, by decide, inr6 _ (List.mem_of_getElem? (i := 8) rfl), inlX6, Or.inl rfl, by decide +kernel, tyX6_ok, nmX6⟩
theorem fp6_47 : FP RX6 47 6 10 9 .int := ⟨RX6, TX6, tyX6, rfl, by decide, inr6 _ (List.mem_of_getElem? (i := 9) rfl), inlX6, Or.inl rfl, by decide +kernel, tyX6_ok, nmX6⟩
theorem ilL_121 : IL RL 121 yX9_init cX9_init 1 := ⟨inr6 _ (List.mem_of_getElem? (i := 10) rfl), inr6 _ (List.mem_of_getElem? (i := 11) rfl), inr1 _ (List.mem_of_getElem? (i := 5) rfl), inr6 _ (List.mem_of_getElem? (i := 12) rfl), rfl, ⟨by decide +kernel, by decide +kernel⟩, by decide +kernel⟩
theorem ow9_1 : OW RX9 1 := ⟨inr6 _ (List.mem_of_getElem? (i := 13) rfl), inr1 _ (List.mem_of_getElem? (i := 12) rfl), inr1 _ (List.mem_of_getElem? (i := 13) rfl)⟩
theorem fp9_7 : FP RX9 7 9 38 2 (.array .char) := ⟨RX9, TX9, tyX9, rfl, by decide, inr6 _ (List.mem_of_getElem? (i := 14) rfl), inlX9, Or.inr ⟨rfl, rfl⟩, by decide +kernel, tyX9_ok, nmX9⟩
theorem fp9_13 : FP RX9 13 9 38 3 (.array .int) := ⟨RX9, TX9, tyX9, rfl, by decide, inr6 _ (List.mem_of_getElem? (i := 15) rfl), inlX9, Or.inr ⟨rfl, rfl⟩, by decide +kernel, tyX9_ok, nmX9⟩
theorem fp9_17 : FP RX9 17 9 38 4 (.array .int) := ⟨RX9, TX9, tyX9, rfl, by decide, inr6 _ (List.mem_of_getElem? (i := 16) rfl), inlX9, Or.inr ⟨rfl, rfl⟩, by decide +kernel, tyX9_ok, nmX9⟩
theorem fp9_20 : FP RX9 20 9 38 7 (.array .int) := ⟨RX9, TX9, tyX9, rfl, by decide, inr6 _ (List.mem_of_getElem? (i := 17) rfl), inlX9, Or.inr ⟨rfl, rfl⟩, by decide +kernel, tyX9_ok, nmX9⟩
theorem fp9_23 : FP RX9 23 9 38 8 (.array .int) := ⟨RX9, TX9, tyX9, rfl, by decide, inr6 _ (List.mem_of_getElem? (i := 18) rfl), inlX9, Or.inr ⟨rfl, rfl⟩, by decide +kernel, tyX9_ok, nmX9⟩
theorem fp9_26 : FP RX9 26 9 38 10 (.array .int) := ⟨RX9, TX9, tyX9, rfl, by decide, inr6 _ (List.mem_of_getElem? (i := 19) rfl), inlX9, Or.inr ⟨rfl, rfl⟩, by decide +kernel, tyX9_ok, nmX9⟩
theorem fp9_29 : FP RX9 29 9 38 11 (.array .int) := ⟨RX9, TX9, tyX9, rfl, by decide, inr6 _ (List.mem_of_getElem? (i := 20) rfl), inlX9, Or.inr ⟨rfl, rfl⟩, by decide +kernel, tyX9_ok, nmX9⟩
theorem fp9_32 : FP RX9 32 9 38 12 (.array .int) := ⟨RX9, TX9, tyX9, rfl, by decide, inr6 _ (List.mem_of_getElem? (i := 21) rfl), inlX9, Or.inr ⟨rfl, rfl⟩, by decide +kernel, tyX9_ok, nmX9⟩
theorem fp9_35 : FP RX9 35 9 38 13 (.array .int) := ⟨RX9, TX9, tyX9, rfl, by decide, inr6 _ (List.mem_of_getElem? (i := 22) rfl), inlX9, Or.inr ⟨rfl, rfl⟩, by decide +kernel, tyX9_ok, nmX9⟩
theorem fp9_38 : FP RX9 38 9 38 14 (.array .int) := ⟨RX9, TX9, tyX9, rfl, by decide, inr6 _ (List.mem_of_getElem? (i := 23) rfl), inlX9, Or.inr ⟨rfl, rfl⟩, by decide +kernel, tyX9_ok, nmX9⟩
theorem fp9_41 : FP RX9 41 9 38 15 (.array .int) := ⟨RX9, TX9, tyX9, rfl, by decide, inr7 _ (List.mem_of_getElem? (i := 0) rfl), inlX9, Or.inr ⟨rfl, rfl⟩, by decide +kernel, tyX9_ok, nmX9⟩
theorem fp9_44 : FP RX9 44 9 38 16 (.array .int) := ⟨RX9, TX9, tyX9, rfl, by decide, inr7 _ (List.mem_of_getElem? (i := 1) rfl), inlX9, Or.inr ⟨rfl, rfl⟩, by decide +kernel, tyX9_ok, nmX9⟩
theorem fp9_47 : FP RX9 47 9 38 19 (.array .int) := ⟨RX9, TX9, tyX9, rfl, by decide, inr7 _ (List.mem_of_getElem? (i := 2) rfl), inlX9, Or.inr ⟨rfl, rfl⟩, by decide +kernel, tyX9_ok, nmX9⟩
theorem fp9_50 : FP RX9 50 9 38 20 (.array .int) := ⟨RX9, TX9, tyX9, rfl, by decide, inr7 _ (List.mem_of_getElem? (i := 3) rfl), inlX9, Or.inr ⟨rfl, rfl⟩, by decide +kernel, tyX9_ok, nmX9⟩
theorem fp9_53 : FP RX9 53 9 38 21 (.array .int) := ⟨RX9, TX9, tyX9, rfl, by decide, inr7 _ (List.mem_of_getElem? (i := 4) rfl), inlX9, Or.inr ⟨rfl, rfl⟩, by decide +kernel, tyX9_ok, nmX9⟩
theorem fp9_56 : FP RX9 56 9 38 22 (.array .int) := ⟨RX9, TX9, tyX9, rfl, by decide, inr7 _ (List.mem_of_getElem? (i := 5) rfl), inlX9, Or.inr ⟨rfl, rfl⟩, by decide +kernel, tyX9_ok, nmX9⟩
theorem fp9_59 : FP RX9 59 9 38 23 (.array .char) := ⟨RX9, TX9, tyX9, rfl, by decide, inr7 _ (List.mem_of_getElem? (i := 6) rfl), inlX9, Or.inr ⟨rfl, rfl⟩, by decide +kernel, tyX9_ok, nmX9⟩
theorem fp9_62 : FP RX9 62 9 38 24 (.array .int) := ⟨RX9, TX9, tyX9, rfl, by decide, inr7 _ (List.mem_of_getElem? (i := 7) rfl), inlX9, Or.inr ⟨rfl, rfl⟩, by decide +kernel, tyX9_ok, nmX9⟩
theorem fp9_65 : FP RX9 65 9 38 25 (.array .int) := ⟨RX9, TX9, tyX9, rfl, by decide, inr7 _ (List.mem_of_getElem? (i := 8) rfl), inlX9, Or.inr ⟨rfl, rfl⟩, by decide +kernel, tyX9_ok, nmX9⟩
theorem fp9_68 : FP RX9 68 9 38 26 (.array .char) := ⟨RX9, TX9, tyX9, rfl, by decide, inr7 _ (List.mem_of_getElem? (i := 9) rfl), inlX9, Or.inr ⟨rfl, rfl⟩, by decide +kernel, tyX9_ok, nmX9⟩
theorem fp9_71 : FP RX9 71 9 38 27 (.array .int) := ⟨RX9, TX9, tyX9, rfl, by decide, inr7 _ (List.mem_of_getElem? (i := 10) rfl), inlX9, Or.inr ⟨rfl, rfl⟩, by decide +kernel, tyX9_ok, nmX9⟩
theorem fp9_74 : FP RX9 74 9 38 28 (.array .int) := ⟨RX9, TX9, tyX9, rfl, by decide, inr7 _ (List.mem_of_getElem? (i := 11) rfl), inlX9, Or.inr ⟨rfl, rfl⟩, by decide +kernel, tyX9_ok, nmX9⟩
theorem fp9_77 : FP RX9 77 9 38 29 (.array .int) := ⟨RX9, TX9, tyX9, rfl, by decide, inr7 _ (List.mem_of_getElem? (i := 12) rfl), inlX9, Or.inr ⟨rfl, rfl⟩, by decide +kernel, tyX9_ok, nmX9⟩
theorem fp9_80 : FP RX9 80 9 38 30 (.array .int) := ⟨RX9, TX9, tyX9, rfl, by decide, inr7 _ (List.mem_of_getElem? (i := 13) rfl), inlX9, Or.inr ⟨rfl, rfl⟩, by decide +kernel, tyX9_ok, nmX9⟩
theorem fp9_83 : FP RX9 83 9 38 31 (.array .char) := ⟨RX9, TX9, tyX9, rfl, by decide, inr7 _ (List.mem_of_getElem? (i := 14) rfl), inlX9, Or.inr ⟨rfl, rfl⟩, by decide +kernel, tyX9_ok, nmX9⟩
theorem fp9_86 : FP RX9 86 9 38 32 (.array .int) := ⟨RX9, TX9, tyX9, rfl, by decide, inr7 _ (List.mem_of_getElem? (i := 15) rfl), inlX9, Or.inr ⟨rfl, rfl⟩, by decide +kernel, tyX9_ok, nmX9⟩
theorem fp9_89 : FP RX9 89 9 38 33 (.array .int) := ⟨RX9, TX9, tyX9, rfl, by decide, inr7 _ (List.mem_of_getElem? (i := 16) rfl), inlX9, Or.inr ⟨rfl, rfl⟩, by decide +kernel, tyX9_ok, nmX9⟩
theorem fp9_92 : FP RX9 92 9 38 36 .int := ⟨RX9, TX9, tyX9, rfl, by decide, inr7 _ (List.mem_of_getElem? (i := 17) rfl), inlX9, Or.inl rfl, by decide +kernel, tyX9_ok, nmX9⟩
theorem fp9_96 : FP RX9 96 9 38 37 (.array .boolean) := ⟨RX9, TX9, tyX9, rfl, by decide, inr7 _ (List.mem_of_getElem? (i := 19) rfl), inlX9, Or.inr ⟨rfl, rfl⟩, by decide +kernel, tyX9_ok, nmX9⟩
theorem fp9_111 : FP RX9 111 9 38 1 .int := ⟨RX9, TX9, tyX9, rfl, by decide, inr9 _ (List.mem_of_getElem? (i := 7) rfl), inlX9, Or.inl rfl, by decide +kernel, tyX9_ok, nmX9⟩
theorem fp9_100 : FP RX9 100 9 38 0 .int := ⟨RX9, TX9, tyX9, rfl, by decide, inr9 _ (List.mem_of_getElem? (i := 18) rfl), inlX9, Or.inl rfl, by decide +kernel, tyX9_ok, nmX9⟩
theorem fp9_118 : FP RX9 118 9 38 6 .int := ⟨RX9, TX9, tyX9, rfl, by decide, inr10 _ (List.mem_of_getElem? (i := 19) rfl), inlX9, Or.inl rfl, by decide +kernel, tyX9_ok, nmX9⟩
theorem fp9_121 : FP RX9 121 9 38 5 .int := ⟨RX9, TX9, tyX9, rfl, by decide, inr10 _ (List.mem_of_getElem? (i := 20) rfl), inlX9, Or.inl rfl, by decide +kernel, tyX9_ok, nmX9⟩
theorem fp9_124 : FP RX9 124 9 38 9 .int := ⟨RX9, TX9, tyX9, rfl, by decide, inr12 _ (List.mem_of_getElem? (i := 5) rfl), inlX9, Or.inl rfl, by decide +kernel, tyX9_ok, nmX9⟩
theorem fp9_130 : FP RX9 130 9 38 18 .int := ⟨RX9, TX9, tyX9, rfl, by decide, inr20 _ (List.mem_of_getElem? (i := 9) rfl), inlX9, Or.inl rfl, by decide +kernel, tyX9_ok, nmX9⟩
theorem fp9_127 : FP RX9 127 9 38 17 .int := ⟨RX9, TX9, tyX9, rfl, by decide, inr21 _ (List.mem_of_getElem? (i := 14) rfl), inlX9, Or.inl rfl, by decide +kernel, tyX9_ok, nmX9⟩
theorem fp9_174 : FP RX9 174 9 38 35 .int := ⟨RX9, TX9, tyX9, rfl, by decide, inr21 _ (List.mem_of_getElem? (i := 15) rfl), inlX9, Or.inl rfl, by decide +kernel, tyX9_ok, nmX9⟩
theorem fp9_183 : FP RX9 183 9 38 34 .int := ⟨RX9, TX9, tyX9, rfl, by decide, inr22 _ (List.mem_of_getElem? (i := 8) rfl), inlX9, Or.inl rfl, by decide +kernel, tyX9_ok, nmX9⟩
theorem ilX8_11 : ILN RX8 11 yX5_init cX5_init 1 := ⟨fun _ h => h.1, inr3 _ (List.mem_of_getElem? (i := 4) rfl), inr1 _ (List.mem_of_getElem? (i := 16) rfl), inr3 _ (List.mem_of_getElem? (i := 5) rfl), rfl, ⟨by decide +kernel, by decide +kernel⟩, by decide +kernel⟩
theorem ilX8_18 : ILN RX8 18 yX3_init cX3_init 1 := ⟨fun _ h => h.2.1, inr3 _ (List.mem_of_getElem? (i := 13) rfl), inr1 _ (List.mem_of_getElem? (i := 20) rfl), inr3 _ (List.mem_of_getElem? (i := 14) rfl), rfl, ⟨by decide +kernel, by decide +kernel⟩, by decide +kernel⟩
theorem ilX8_37 : ILN RX8 37 yX2_init cX2_init 1 := ⟨fun _ h => h.2.2.1, inr3 _ (List.mem_of_getElem? (i := 20) rfl), inr2 _ (List.mem_of_getElem? (i := 4) rfl), inr3 _ (List.mem_of_getElem? (i := 21) rfl), rfl, ⟨by decide +kernel, by decide +kernel⟩, by decide +kernel⟩
theorem ilX8_44 : ILN RX8 44 yX7_init cX7_init 1 := ⟨fun _ h => h.2.2.2.1, inr4 _ (List.mem_of_getElem? (i := 6) rfl), inr2 _ (List.mem_of_getElem? (i := 8) rfl), inr4 _ (List.mem_of_getElem? (i := 7) rfl), rfl, ⟨by decide +kernel, by decide +kernel⟩, by decide +kernel⟩
theorem ilX8_58 : ILN RX8 58 yX1_init cX1_init 1 := ⟨fun _ h => h.2.2.2.2.1, inr5 _ (List.mem_of_getElem? (i := 0) rfl), inr2 _ (List.mem_of_getElem? (i := 16) rfl), inr5 _ (List.mem_of_getElem? (i := 1) rfl), rfl, ⟨by decide +kernel, by decide +kernel⟩, by decide +kernel⟩
theorem ilX4_27 : ILN RX4 27 yX3_init cX3_init 1 := ⟨fun _ h => h.2.2.2.2.2.1, inr3 _ (List.mem_of_getElem? (i := 13) rfl), inr1 _ (List.mem_of_getElem? (i := 20) rfl), inr3 _ (List.mem_of_getElem? (i := 14) rfl), rfl, ⟨by decide +kernel, by decide +kernel⟩, by decide +kernel⟩
theorem ilX6_11 : ILN RX6 11 yX5_init cX5_init 1 := ⟨fun _ h => h.2.2.2.2.2.2, inr3 _ (List.mem_of_getElem? (i := 4) rfl), inr1 _ (List.mem_of_getElem? (i := 16) rfl), inr3 _ (List.mem_of_getElem? (i := 5) rfl), rfl, ⟨by decide +kernel, by decide +kernel⟩, by decide +kernel⟩
