set_option maxHeartbeats 600000 in
set_option maxRecDepth 100000 in
theorem c_X8_isPlace (g : GG) (M : Mem) (v : Int) (hv : rg v) : Ct g yX8_isPlace cX8_isPlace 1 (some .boolean) 1 [iv v] M (pIP (fun z => (z = 1 ∧ 0 ≤ v ∧ v ≤ 3) ∨ (z = 0 ∧ (v < 0 ∨ 3 < v))) M) := by
  refine ct_of (by decide +kernel) (Nat.le_of_ble_eq_true rfl) ?_
  show Ok g mX8_isPlace (rmd 1) (FQ g (pIP (fun z => (z = 1 ∧ 0 ≤ v ∧ v ≤ 3) ∨ (z = 0 ∧ (v < 0 ∨ 3 < v))) M)) 0 [(0, iv v)] [] M
  have hv1 := hv.1
  have hv2 := hv.2
  refine x_iload_n 0 dX8_isPlace_0 rfl rfl ?_
  refine x_iconst (0) dX8_isPlace_1 rfl ?_
  refine x_iconst (3) dX8_isPlace_2 rfl ?_
  refine x_callSIP (as := [iv v, iv 0, iv 3]) (rest := []) dX8_isPlace_3 sl8_120 (c_X8_isWithin g M v 0 3 ⟨by omega, by omega⟩ ⟨by omega, by omega⟩ ⟨by omega, by omega⟩) rfl rfl (Nat.le_of_ble_eq_true rfl) ⟨Nat.le_of_ble_eq_true rfl, Nat.le_of_ble_eq_true rfl⟩ (fun z1 h2 => ?_)
  refine x_iret dX8_isPlace_6 rfl (iZ_bool (by omega)) ?_
  exact ⟨_, rfl, rfl, by omega⟩

set_option maxHeartbeats 600000 in
set_option maxRecDepth 100000 in
theorem c_X8_isNumber (g : GG) (M : Mem) (v : Int) (hv : rg v) : Ct g yX8_isNumber cX8_isNumber 1 (some .boolean) 1 [iv v] M (pIP (fun z => (z = 1 ∧ -999 ≤ v ∧ v ≤ 999) ∨ (z = 0 ∧ (v < -999 ∨ 999 < v))) M) := by
  refine ct_of (by decide +kernel) (Nat.le_of_ble_eq_true rfl) ?_
  show Ok g mX8_isNumber (rmd 1) (FQ g (pIP (fun z => (z = 1 ∧ -999 ≤ v ∧ v ≤ 999) ∨ (z = 0 ∧ (v < -999 ∨ 999 < v))) M)) 0 [(0, iv v)] [] M
  have hv1 := hv.1
  have hv2 := hv.2
  refine x_iload_n 0 dX8_isNumber_0 rfl rfl ?_
  refine x_sipush (-999) dX8_isNumber_1 rfl ?_
  refine x_sipush (999) dX8_isNumber_4 rfl ?_
  refine x_callSIP (as := [iv v, iv ((-999)), iv 999]) (rest := []) dX8_isNumber_7 sl8_120 (c_X8_isWithin g M v ((-999)) 999 ⟨by omega, by omega⟩ ⟨by omega, by omega⟩ ⟨by omega, by omega⟩) rfl rfl (Nat.le_of_ble_eq_true rfl) ⟨Nat.le_of_ble_eq_true rfl, Nat.le_of_ble_eq_true rfl⟩ (fun z1 h2 => ?_)
  refine x_iret dX8_isNumber_10 rfl (iZ_bool (by omega)) ?_
  exact ⟨_, rfl, rfl, by omega⟩

set_option maxHeartbeats 600000 in
set_option maxRecDepth 100000 in
theorem c_X8_isColour (g : GG) (M : Mem) (v : Int) (hv : rg v) : Ct g yX8_isColour cX8_isColour 1 (some .boolean) 1 [iv v] M (pIP (fun z => (z = 1 ∧ 0 ≤ v ∧ v ≤ 3) ∨ (z = 0 ∧ (v < 0 ∨ 3 < v))) M) := by
  refine ct_of (by decide +kernel) (Nat.le_of_ble_eq_true rfl) ?_
  show Ok g mX8_isColour (rmd 1) (FQ g (pIP (fun z => (z = 1 ∧ 0 ≤ v ∧ v ≤ 3) ∨ (z = 0 ∧ (v < 0 ∨ 3 < v))) M)) 0 [(0, iv v)] [] M
  have hv1 := hv.1
  have hv2 := hv.2
  refine x_iload_n 0 dX8_isColour_0 rfl rfl ?_
  refine x_iconst (0) dX8_isColour_1 rfl ?_
  refine x_iconst (3) dX8_isColour_2 rfl ?_
  refine x_callSIP (as := [iv v, iv 0, iv 3]) (rest := []) dX8_isColour_3 sl8_120 (c_X8_isWithin g M v 0 3 ⟨by omega, by omega⟩ ⟨by omega, by omega⟩ ⟨by omega, by omega⟩) rfl rfl (Nat.le_of_ble_eq_true rfl) ⟨Nat.le_of_ble_eq_true rfl, Nat.le_of_ble_eq_true rfl⟩ (fun z1 h2 => ?_)
  refine x_iret dX8_isColour_6 rfl (iZ_bool (by omega)) ?_
  exact ⟨_, rfl, rfl, by omega⟩

set_option maxHeartbeats 600000 in
set_option maxRecDepth 100000 in
theorem c_X8_isStep (g : GG) (M : Mem) (l a d : Int) (hl : 0 ≤ l ∧ l < 65536) (ha : rg a) (hd : rg d) : Ct g yX8_isStep cX8_isStep 3 (some .boolean) 2 [iv l, iv a, iv d] M (pIP (fun z => (z = 1 ∧ SOK l a d) ∨ (z = 0 ∧ ¬ SOK l a d)) M) := by
  refine ct_of (by decide +kernel) (Nat.le_of_ble_eq_true rfl) ?_
  show Ok g mX8_isStep (rmd 2) (FQ g (pIP (fun z => (z = 1 ∧ SOK l a d) ∨ (z = 0 ∧ ¬ SOK l a d)) M)) 0 [(0, iv l), (1, iv a), (2, iv d)] [] M
  have ha1 := ha.1
  have ha2 := ha.2
  have hd1 := hd.1
  have hd2 := hd.2
  have hl1 := hl.1
  have hl2 := hl.2
  refine x_iload_n 0 dX8_isStep_0 rfl rfl ?_
  by_cases c1_0 : l = 97
  · refine x_tabIn (off := 116) (tgt := 117) dX8_isStep_1 ⟨by omega, by omega⟩ (by omega) (by omega) (by rw [c1_0]; rfl) (by decide) ?_
    refine x_iload_n 1 dX8_isStep_117 rfl rfl ?_
    refine x_callSIP (as := [iv a]) (rest := []) dX8_isStep_118 sl8_322 (c_X8_isPlace g M a ⟨by omega, by omega⟩) rfl rfl (Nat.le_of_ble_eq_true rfl) ⟨Nat.le_of_ble_eq_true rfl, Nat.le_of_ble_eq_true rfl⟩ (fun z2 h3 => ?_)
    refine x_if_eq (tgt := 135) dX8_isStep_121 (by decide) ⟨by omega, by omega⟩ (fun c5 => ?_) (fun c5 => ?_)
    · refine x_iconst (0) dX8_isStep_135 rfl ?_
      refine x_iret dX8_isStep_136 rfl (iZ_bool (by omega)) ?_
      exact ⟨_, rfl, rfl, by unfold SOK; omega⟩
    · refine x_iload_n 2 dX8_isStep_124 rfl rfl ?_
      refine x_callSIP (as := [iv d]) (rest := []) dX8_isStep_125 sl8_322 (c_X8_isPlace g M d ⟨by omega, by omega⟩) rfl rfl (Nat.le_of_ble_eq_true rfl) ⟨Nat.le_of_ble_eq_true rfl, Nat.le_of_ble_eq_true rfl⟩ (fun z6 h7 => ?_)
      refine x_if_eq (tgt := 135) dX8_isStep_128 (by decide) ⟨by omega, by omega⟩ (fun c9 => ?_) (fun c9 => ?_)
      · refine x_iconst (0) dX8_isStep_135 rfl ?_
        refine x_iret dX8_isStep_136 rfl (iZ_bool (by omega)) ?_
        exact ⟨_, rfl, rfl, by unfold SOK; omega⟩
      · refine x_iconst (1) dX8_isStep_131 rfl ?_
        refine x_goto (tgt := 136) dX8_isStep_132 (by decide) ?_
        refine x_iret dX8_isStep_136 rfl (iZ_bool (by omega)) ?_
        exact ⟨_, rfl, rfl, by unfold SOK; omega⟩
  by_cases c1_3 : l = 100
  · refine x_tabIn (off := 116) (tgt := 117) dX8_isStep_1 ⟨by omega, by omega⟩ (by omega) (by omega) (by rw [c1_3]; rfl) (by decide) ?_
    refine x_iload_n 1 dX8_isStep_117 rfl rfl ?_
    refine x_callSIP (as := [iv a]) (rest := []) dX8_isStep_118 sl8_322 (c_X8_isPlace g M a ⟨by omega, by omega⟩) rfl rfl (Nat.le_of_ble_eq_true rfl) ⟨Nat.le_of_ble_eq_true rfl, Nat.le_of_ble_eq_true rfl⟩ (fun z10 h11 => ?_)
    refine x_if_eq (tgt := 135) dX8_isStep_121 (by decide) ⟨by omega, by omega⟩ (fun c13 => ?_) (fun c13 => ?_)
    · refine x_iconst (0) dX8_isStep_135 rfl ?_
      refine x_iret dX8_isStep_136 rfl (iZ_bool (by omega)) ?_
      exact ⟨_, rfl, rfl, by unfold SOK; omega⟩
    · refine x_iload_n 2 dX8_isStep_124 rfl rfl ?_
      refine x_callSIP (as := [iv d]) (rest := []) dX8_isStep_125 sl8_322 (c_X8_isPlace g M d ⟨by omega, by omega⟩) rfl rfl (Nat.le_of_ble_eq_true rfl) ⟨Nat.le_of_ble_eq_true rfl, Nat.le_of_ble_eq_true rfl⟩ (fun z14 h15 => ?_)
      refine x_if_eq (tgt := 135) dX8_isStep_128 (by decide) ⟨by omega, by omega⟩ (fun c17 => ?_) (fun c17 => ?_)
      · refine x_iconst (0) dX8_isStep_135 rfl ?_
        refine x_iret dX8_isStep_136 rfl (iZ_bool (by omega)) ?_
        exact ⟨_, rfl, rfl, by unfold SOK; omega⟩
      · refine x_iconst (1) dX8_isStep_131 rfl ?_
        refine x_goto (tgt := 136) dX8_isStep_132 (by decide) ?_
        refine x_iret dX8_isStep_136 rfl (iZ_bool (by omega)) ?_
        exact ⟨_, rfl, rfl, by unfold SOK; omega⟩
  by_cases c1_7 : l = 104
  · refine x_tabIn (off := 159) (tgt := 160) dX8_isStep_1 ⟨by omega, by omega⟩ (by omega) (by omega) (by rw [c1_7]; rfl) (by decide) ?_
    refine x_iconst (1) dX8_isStep_160 rfl ?_
    refine x_iret dX8_isStep_161 rfl (iZ_bool (by omega)) ?_
    exact ⟨_, rfl, rfl, by unfold SOK; omega⟩
  by_cases c1_8 : l = 105
  · refine x_tabIn (off := 91) (tgt := 92) dX8_isStep_1 ⟨by omega, by omega⟩ (by omega) (by omega) (by rw [c1_8]; rfl) (by decide) ?_
    refine x_iload_n 1 dX8_isStep_92 rfl rfl ?_
    refine x_callSIP (as := [iv a]) (rest := []) dX8_isStep_93 sl8_322 (c_X8_isPlace g M a ⟨by omega, by omega⟩) rfl rfl (Nat.le_of_ble_eq_true rfl) ⟨Nat.le_of_ble_eq_true rfl, Nat.le_of_ble_eq_true rfl⟩ (fun z18 h19 => ?_)
    refine x_iret dX8_isStep_96 rfl (iZ_bool (by omega)) ?_
    exact ⟨_, rfl, rfl, by unfold SOK; omega⟩
  by_cases c1_9 : l = 106
  · refine x_tabIn (off := 136) (tgt := 137) dX8_isStep_1 ⟨by omega, by omega⟩ (by omega) (by omega) (by rw [c1_9]; rfl) (by decide) ?_
    refine x_iload_n 1 dX8_isStep_137 rfl rfl ?_
    refine x_callSIP (as := [iv a]) (rest := []) dX8_isStep_138 sl8_322 (c_X8_isPlace g M a ⟨by omega, by omega⟩) rfl rfl (Nat.le_of_ble_eq_true rfl) ⟨Nat.le_of_ble_eq_true rfl, Nat.le_of_ble_eq_true rfl⟩ (fun z21 h22 => ?_)
    refine x_if_eq (tgt := 158) dX8_isStep_141 (by decide) ⟨by omega, by omega⟩ (fun c24 => ?_) (fun c24 => ?_)
    · refine x_iconst (0) dX8_isStep_158 rfl ?_
      refine x_iret dX8_isStep_159 rfl (iZ_bool (by omega)) ?_
      exact ⟨_, rfl, rfl, by unfold SOK; omega⟩
    · refine x_iload_n 2 dX8_isStep_144 rfl rfl ?_
      refine x_iconst (0) dX8_isStep_145 rfl ?_
      refine x_bipush (99) dX8_isStep_146 rfl ?_
      refine x_callSIP (as := [iv d, iv 0, iv 99]) (rest := []) dX8_isStep_148 sl8_120 (c_X8_isWithin g M d 0 99 ⟨by omega, by omega⟩ ⟨by omega, by omega⟩ ⟨by omega, by omega⟩) rfl rfl (Nat.le_of_ble_eq_true rfl) ⟨Nat.le_of_ble_eq_true rfl, Nat.le_of_ble_eq_true rfl⟩ (fun z25 h26 => ?_)
      refine x_if_eq (tgt := 158) dX8_isStep_151 (by decide) ⟨by omega, by omega⟩ (fun c28 => ?_) (fun c28 => ?_)
      · refine x_iconst (0) dX8_isStep_158 rfl ?_
        refine x_iret dX8_isStep_159 rfl (iZ_bool (by omega)) ?_
        exact ⟨_, rfl, rfl, by unfold SOK; omega⟩
      · refine x_iconst (1) dX8_isStep_154 rfl ?_
        refine x_goto (tgt := 159) dX8_isStep_155 (by decide) ?_
        refine x_iret dX8_isStep_159 rfl (iZ_bool (by omega)) ?_
        exact ⟨_, rfl, rfl, by unfold SOK; omega⟩
  by_cases c1_12 : l = 109
  · refine x_tabIn (off := 116) (tgt := 117) dX8_isStep_1 ⟨by omega, by omega⟩ (by omega) (by omega) (by rw [c1_12]; rfl) (by decide) ?_
    refine x_iload_n 1 dX8_isStep_117 rfl rfl ?_
    refine x_callSIP (as := [iv a]) (rest := []) dX8_isStep_118 sl8_322 (c_X8_isPlace g M a ⟨by omega, by omega⟩) rfl rfl (Nat.le_of_ble_eq_true rfl) ⟨Nat.le_of_ble_eq_true rfl, Nat.le_of_ble_eq_true rfl⟩ (fun z29 h30 => ?_)
    refine x_if_eq (tgt := 135) dX8_isStep_121 (by decide) ⟨by omega, by omega⟩ (fun c32 => ?_) (fun c32 => ?_)
    · refine x_iconst (0) dX8_isStep_135 rfl ?_
      refine x_iret dX8_isStep_136 rfl (iZ_bool (by omega)) ?_
      exact ⟨_, rfl, rfl, by unfold SOK; omega⟩
    · refine x_iload_n 2 dX8_isStep_124 rfl rfl ?_
      refine x_callSIP (as := [iv d]) (rest := []) dX8_isStep_125 sl8_322 (c_X8_isPlace g M d ⟨by omega, by omega⟩) rfl rfl (Nat.le_of_ble_eq_true rfl) ⟨Nat.le_of_ble_eq_true rfl, Nat.le_of_ble_eq_true rfl⟩ (fun z33 h34 => ?_)
      refine x_if_eq (tgt := 135) dX8_isStep_128 (by decide) ⟨by omega, by omega⟩ (fun c36 => ?_) (fun c36 => ?_)
      · refine x_iconst (0) dX8_isStep_135 rfl ?_
        refine x_iret dX8_isStep_136 rfl (iZ_bool (by omega)) ?_
        exact ⟨_, rfl, rfl, by unfold SOK; omega⟩
      · refine x_iconst (1) dX8_isStep_131 rfl ?_
        refine x_goto (tgt := 136) dX8_isStep_132 (by decide) ?_
        refine x_iret dX8_isStep_136 rfl (iZ_bool (by omega)) ?_
        exact ⟨_, rfl, rfl, by unfold SOK; omega⟩
  by_cases c1_13 : l = 110
  · refine x_tabIn (off := 136) (tgt := 137) dX8_isStep_1 ⟨by omega, by omega⟩ (by omega) (by omega) (by rw [c1_13]; rfl) (by decide) ?_
    refine x_iload_n 1 dX8_isStep_137 rfl rfl ?_
    refine x_callSIP (as := [iv a]) (rest := []) dX8_isStep_138 sl8_322 (c_X8_isPlace g M a ⟨by omega, by omega⟩) rfl rfl (Nat.le_of_ble_eq_true rfl) ⟨Nat.le_of_ble_eq_true rfl, Nat.le_of_ble_eq_true rfl⟩ (fun z37 h38 => ?_)
    refine x_if_eq (tgt := 158) dX8_isStep_141 (by decide) ⟨by omega, by omega⟩ (fun c40 => ?_) (fun c40 => ?_)
    · refine x_iconst (0) dX8_isStep_158 rfl ?_
      refine x_iret dX8_isStep_159 rfl (iZ_bool (by omega)) ?_
      exact ⟨_, rfl, rfl, by unfold SOK; omega⟩
    · refine x_iload_n 2 dX8_isStep_144 rfl rfl ?_
      refine x_iconst (0) dX8_isStep_145 rfl ?_
      refine x_bipush (99) dX8_isStep_146 rfl ?_
      refine x_callSIP (as := [iv d, iv 0, iv 99]) (rest := []) dX8_isStep_148 sl8_120 (c_X8_isWithin g M d 0 99 ⟨by omega, by omega⟩ ⟨by omega, by omega⟩ ⟨by omega, by omega⟩) rfl rfl (Nat.le_of_ble_eq_true rfl) ⟨Nat.le_of_ble_eq_true rfl, Nat.le_of_ble_eq_true rfl⟩ (fun z41 h42 => ?_)
      refine x_if_eq (tgt := 158) dX8_isStep_151 (by decide) ⟨by omega, by omega⟩ (fun c44 => ?_) (fun c44 => ?_)
      · refine x_iconst (0) dX8_isStep_158 rfl ?_
        refine x_iret dX8_isStep_159 rfl (iZ_bool (by omega)) ?_
        exact ⟨_, rfl, rfl, by unfold SOK; omega⟩
      · refine x_iconst (1) dX8_isStep_154 rfl ?_
        refine x_goto (tgt := 159) dX8_isStep_155 (by decide) ?_
        refine x_iret dX8_isStep_159 rfl (iZ_bool (by omega)) ?_
        exact ⟨_, rfl, rfl, by unfold SOK; omega⟩
  by_cases c1_14 : l = 111
  · refine x_tabIn (off := 91) (tgt := 92) dX8_isStep_1 ⟨by omega, by omega⟩ (by omega) (by omega) (by rw [c1_14]; rfl) (by decide) ?_
    refine x_iload_n 1 dX8_isStep_92 rfl rfl ?_
    refine x_callSIP (as := [iv a]) (rest := []) dX8_isStep_93 sl8_322 (c_X8_isPlace g M a ⟨by omega, by omega⟩) rfl rfl (Nat.le_of_ble_eq_true rfl) ⟨Nat.le_of_ble_eq_true rfl, Nat.le_of_ble_eq_true rfl⟩ (fun z45 h46 => ?_)
    refine x_iret dX8_isStep_96 rfl (iZ_bool (by omega)) ?_
    exact ⟨_, rfl, rfl, by unfold SOK; omega⟩
  by_cases c1_18 : l = 115
  · refine x_tabIn (off := 96) (tgt := 97) dX8_isStep_1 ⟨by omega, by omega⟩ (by omega) (by omega) (by rw [c1_18]; rfl) (by decide) ?_
    refine x_iload_n 1 dX8_isStep_97 rfl rfl ?_
    refine x_callSIP (as := [iv a]) (rest := []) dX8_isStep_98 sl8_322 (c_X8_isPlace g M a ⟨by omega, by omega⟩) rfl rfl (Nat.le_of_ble_eq_true rfl) ⟨Nat.le_of_ble_eq_true rfl, Nat.le_of_ble_eq_true rfl⟩ (fun z48 h49 => ?_)
    refine x_if_eq (tgt := 115) dX8_isStep_101 (by decide) ⟨by omega, by omega⟩ (fun c51 => ?_) (fun c51 => ?_)
    · refine x_iconst (0) dX8_isStep_115 rfl ?_
      refine x_iret dX8_isStep_116 rfl (iZ_bool (by omega)) ?_
      exact ⟨_, rfl, rfl, by unfold SOK; omega⟩
    · refine x_iload_n 2 dX8_isStep_104 rfl rfl ?_
      refine x_callSIP (as := [iv d]) (rest := []) dX8_isStep_105 sl8_101 (c_X8_isNumber g M d ⟨by omega, by omega⟩) rfl rfl (Nat.le_of_ble_eq_true rfl) ⟨Nat.le_of_ble_eq_true rfl, Nat.le_of_ble_eq_true rfl⟩ (fun z52 h53 => ?_)
      refine x_if_eq (tgt := 115) dX8_isStep_108 (by decide) ⟨by omega, by omega⟩ (fun c55 => ?_) (fun c55 => ?_)
      · refine x_iconst (0) dX8_isStep_115 rfl ?_
        refine x_iret dX8_isStep_116 rfl (iZ_bool (by omega)) ?_
        exact ⟨_, rfl, rfl, by unfold SOK; omega⟩
      · refine x_iconst (1) dX8_isStep_111 rfl ?_
        refine x_goto (tgt := 116) dX8_isStep_112 (by decide) ?_
        refine x_iret dX8_isStep_116 rfl (iZ_bool (by omega)) ?_
        exact ⟨_, rfl, rfl, by unfold SOK; omega⟩
  have c1_r : (l < 97 ∨ 115 < l) ∨ l = 98 ∨ l = 99 ∨ l = 101 ∨ l = 102 ∨ l = 103 ∨ l = 107 ∨ l = 108 ∨ l = 112 ∨ l = 113 ∨ l = 114 := by omega
  have c1_k : Ok g mX8_isStep (rmd 2) (FQ g (pIP (fun z => (z = 1 ∧ SOK l a d) ∨ (z = 0 ∧ ¬ SOK l a d)) M)) 162 [(0, iv l), (1, iv a), (2, iv d)] [] M := by
    refine x_iconst (0) dX8_isStep_162 rfl ?_
    refine x_iret dX8_isStep_163 rfl (iZ_bool (by omega)) ?_
    exact ⟨_, rfl, rfl, by unfold SOK; omega⟩
  rcases c1_r with c1_r | c1_r | c1_r | c1_r | c1_r | c1_r | c1_r | c1_r | c1_r | c1_r | c1_r
  · exact x_tabOut (tgt := 162) dX8_isStep_1 ⟨by omega, by omega⟩ c1_r (by decide) c1_k
  · exact x_tabIn (off := 161) (tgt := 162) dX8_isStep_1 ⟨by omega, by omega⟩ (by omega) (by omega) (by rw [c1_r]; rfl) (by decide) c1_k
  · exact x_tabIn (off := 161) (tgt := 162) dX8_isStep_1 ⟨by omega, by omega⟩ (by omega) (by omega) (by rw [c1_r]; rfl) (by decide) c1_k
  · exact x_tabIn (off := 161) (tgt := 162) dX8_isStep_1 ⟨by omega, by omega⟩ (by omega) (by omega) (by rw [c1_r]; rfl) (by decide) c1_k
  · exact x_tabIn (off := 161) (tgt := 162) dX8_isStep_1 ⟨by omega, by omega⟩ (by omega) (by omega) (by rw [c1_r]; rfl) (by decide) c1_k
  · exact x_tabIn (off := 161) (tgt := 162) dX8_isStep_1 ⟨by omega, by omega⟩ (by omega) (by omega) (by rw [c1_r]; rfl) (by decide) c1_k
  · exact x_tabIn (off := 161) (tgt := 162) dX8_isStep_1 ⟨by omega, by omega⟩ (by omega) (by omega) (by rw [c1_r]; rfl) (by decide) c1_k
  · exact x_tabIn (off := 161) (tgt := 162) dX8_isStep_1 ⟨by omega, by omega⟩ (by omega) (by omega) (by rw [c1_r]; rfl) (by decide) c1_k
  · exact x_tabIn (off := 161) (tgt := 162) dX8_isStep_1 ⟨by omega, by omega⟩ (by omega) (by omega) (by rw [c1_r]; rfl) (by decide) c1_k
  · exact x_tabIn (off := 161) (tgt := 162) dX8_isStep_1 ⟨by omega, by omega⟩ (by omega) (by omega) (by rw [c1_r]; rfl) (by decide) c1_k
  · exact x_tabIn (off := 161) (tgt := 162) dX8_isStep_1 ⟨by omega, by omega⟩ (by omega) (by omega) (by rw [c1_r]; rfl) (by decide) c1_k

set_option maxHeartbeats 600000 in
set_option maxRecDepth 100000 in
theorem c_X8_teamOf (g : GG) (M : Mem) (x : Int) (x0 : 0 ≤ x ∧ x < 40) : Ct g yX8_teamOf cX8_teamOf 1 (some .int) 0 [iv x] M (pIP (fun z => z = x / 5) M) := by
  refine ct_of (by decide +kernel) (Nat.le_of_ble_eq_true rfl) ?_
  show Ok g mX8_teamOf (rmd 0) (FQ g (pIP (fun z => z = x / 5) M)) 0 [(0, iv x)] [] M
  refine x_iload_n 0 dX8_teamOf_0 rfl rfl ?_
  refine x_iconst (5) dX8_teamOf_1 rfl ?_
  refine x_idivp dX8_teamOf_2 (by omega) (by omega) (by omega) (by omega) ?_
  refine x_iret dX8_teamOf_3 rfl rfl ?_
  exact ⟨_, rfl, rfl, by omega⟩

set_option maxHeartbeats 600000 in
set_option maxRecDepth 100000 in
theorem c_X8_hasProblem (g : GG) (M : Mem) (v : Int) (hn : 0 ≤ M 0 10 ∧ M 0 10 ≤ 40) (hv : rg v) : Ct g yX8_hasProblem cX8_hasProblem 2 (some .boolean) 1 [rv g 0, iv v] M (pIP (fun z => (z = 1 ∧ 0 ≤ v ∧ v < M 0 10) ∨ (z = 0 ∧ (v < 0 ∨ M 0 10 ≤ v))) M) := by
  refine ct_of (by decide +kernel) (Nat.le_of_ble_eq_true rfl) ?_
  show Ok g mX8_hasProblem (rmd 1) (FQ g (pIP (fun z => (z = 1 ∧ 0 ≤ v ∧ v < M 0 10) ∨ (z = 0 ∧ (v < 0 ∨ M 0 10 ≤ v))) M)) 0 [(0, rv g 0), (1, iv v)] [] M
  have hv1 := hv.1
  have hv2 := hv.2
  refine x_iload_n 1 dX8_hasProblem_0 rfl rfl ?_
  refine x_iconst (0) dX8_hasProblem_1 rfl ?_
  refine x_aload_n 0 dX8_hasProblem_2 rfl rfl ?_
  refine x_geti (k := 10) (kI := 10) dX8_hasProblem_3 fl8_69 k_0 rfl rfl (fun ⟨a1, a1'⟩ => ?_)
  refine x_iconst (1) dX8_hasProblem_6 rfl ?_
  refine x_isub dX8_hasProblem_7 ?_
  refine x_callSIP (as := [iv v, iv 0, iv ((M 0 10) - 1)]) (rest := []) dX8_hasProblem_8 sl8_120 (c_X8_isWithin g M v 0 ((M 0 10) - 1) ⟨by omega, by omega⟩ ⟨by omega, by omega⟩ ⟨by omega, by omega⟩) rfl rfl (Nat.le_of_ble_eq_true rfl) ⟨Nat.le_of_ble_eq_true rfl, Nat.le_of_ble_eq_true rfl⟩ (fun z2 h3 => ?_)
  refine x_iret dX8_hasProblem_11 rfl (iZ_bool (by omega)) ?_
  exact ⟨_, rfl, rfl, by omega⟩

set_option maxHeartbeats 600000 in
set_option maxRecDepth 100000 in
theorem c_X8_hasTeam (g : GG) (M : Mem) (v : Int) (hn : 0 ≤ M 0 11 ∧ M 0 11 ≤ 40) (hv : rg v) : Ct g yX8_hasTeam cX8_hasTeam 2 (some .boolean) 1 [rv g 0, iv v] M (pIP (fun z => (z = 1 ∧ 0 ≤ v ∧ v < M 0 11) ∨ (z = 0 ∧ (v < 0 ∨ M 0 11 ≤ v))) M) := by
  refine ct_of (by decide +kernel) (Nat.le_of_ble_eq_true rfl) ?_
  show Ok g mX8_hasTeam (rmd 1) (FQ g (pIP (fun z => (z = 1 ∧ 0 ≤ v ∧ v < M 0 11) ∨ (z = 0 ∧ (v < 0 ∨ M 0 11 ≤ v))) M)) 0 [(0, rv g 0), (1, iv v)] [] M
  have hv1 := hv.1
  have hv2 := hv.2
  refine x_iload_n 1 dX8_hasTeam_0 rfl rfl ?_
  refine x_iconst (0) dX8_hasTeam_1 rfl ?_
  refine x_aload_n 0 dX8_hasTeam_2 rfl rfl ?_
  refine x_geti (k := 11) (kI := 11) dX8_hasTeam_3 fl8_73 k_0 rfl rfl (fun ⟨a1, a1'⟩ => ?_)
  refine x_iconst (1) dX8_hasTeam_6 rfl ?_
  refine x_isub dX8_hasTeam_7 ?_
  refine x_callSIP (as := [iv v, iv 0, iv ((M 0 11) - 1)]) (rest := []) dX8_hasTeam_8 sl8_120 (c_X8_isWithin g M v 0 ((M 0 11) - 1) ⟨by omega, by omega⟩ ⟨by omega, by omega⟩ ⟨by omega, by omega⟩) rfl rfl (Nat.le_of_ble_eq_true rfl) ⟨Nat.le_of_ble_eq_true rfl, Nat.le_of_ble_eq_true rfl⟩ (fun z2 h3 => ?_)
  refine x_iret dX8_hasTeam_11 rfl (iZ_bool (by omega)) ?_
  exact ⟨_, rfl, rfl, by omega⟩

set_option maxHeartbeats 600000 in
set_option maxRecDepth 100000 in
theorem c_X8_hasRun (g : GG) (M : Mem) (v : Int) (hn : 0 ≤ M 0 12 ∧ M 0 12 ≤ 40) (hv : rg v) : Ct g yX8_hasRun cX8_hasRun 2 (some .boolean) 1 [rv g 0, iv v] M (pIP (fun z => (z = 1 ∧ 0 ≤ v ∧ v < M 0 12) ∨ (z = 0 ∧ (v < 0 ∨ M 0 12 ≤ v))) M) := by
  refine ct_of (by decide +kernel) (Nat.le_of_ble_eq_true rfl) ?_
  show Ok g mX8_hasRun (rmd 1) (FQ g (pIP (fun z => (z = 1 ∧ 0 ≤ v ∧ v < M 0 12) ∨ (z = 0 ∧ (v < 0 ∨ M 0 12 ≤ v))) M)) 0 [(0, rv g 0), (1, iv v)] [] M
  have hv1 := hv.1
  have hv2 := hv.2
  refine x_iload_n 1 dX8_hasRun_0 rfl rfl ?_
  refine x_iconst (0) dX8_hasRun_1 rfl ?_
  refine x_aload_n 0 dX8_hasRun_2 rfl rfl ?_
  refine x_geti (k := 12) (kI := 12) dX8_hasRun_3 fl8_76 k_0 rfl rfl (fun ⟨a1, a1'⟩ => ?_)
  refine x_iconst (1) dX8_hasRun_6 rfl ?_
  refine x_isub dX8_hasRun_7 ?_
  refine x_callSIP (as := [iv v, iv 0, iv ((M 0 12) - 1)]) (rest := []) dX8_hasRun_8 sl8_120 (c_X8_isWithin g M v 0 ((M 0 12) - 1) ⟨by omega, by omega⟩ ⟨by omega, by omega⟩ ⟨by omega, by omega⟩) rfl rfl (Nat.le_of_ble_eq_true rfl) ⟨Nat.le_of_ble_eq_true rfl, Nat.le_of_ble_eq_true rfl⟩ (fun z2 h3 => ?_)
  refine x_iret dX8_hasRun_11 rfl (iZ_bool (by omega)) ?_
  exact ⟨_, rfl, rfl, by omega⟩

set_option maxHeartbeats 600000 in
set_option maxRecDepth 100000 in
theorem c_X8_hasTestOfRun (g : GG) (M : Mem) (r t : Int) (C : CR M) (hr : rg r) (ht : rg t) : Ct g yX8_hasTestOfRun cX8_hasTestOfRun 3 (some .boolean) 2 [rv g 0, iv r, iv t] M (pIP (fun z => (z = 1 ∧ 0 ≤ r ∧ r < M 0 12 ∧ 0 ≤ t ∧ t < M (20 * M (8 * r + 148) 5 + 48) 3) ∨ (z = 0 ∧ (r < 0 ∨ M 0 12 ≤ r ∨ (0 ≤ r ∧ r < M 0 12 ∧ (t < 0 ∨ M (20 * M (8 * r + 148) 5 + 48) 3 ≤ t))))) M) := by
  refine ct_of (by decide +kernel) (Nat.le_of_ble_eq_true rfl) ?_
  show Ok g mX8_hasTestOfRun (rmd 2) (FQ g (pIP (fun z => (z = 1 ∧ 0 ≤ r ∧ r < M 0 12 ∧ 0 ≤ t ∧ t < M (20 * M (8 * r + 148) 5 + 48) 3) ∨ (z = 0 ∧ (r < 0 ∨ M 0 12 ≤ r ∨ (0 ≤ r ∧ r < M 0 12 ∧ (t < 0 ∨ M (20 * M (8 * r + 148) 5 + 48) 3 ≤ t))))) M)) 0 [(0, rv g 0), (1, iv r), (2, iv t)] [] M
  have c0 := C.1
  have hr1 := hr.1
  have hr2 := hr.2
  have ht1 := ht.1
  have ht2 := ht.2
  refine x_aload_n 0 dX8_hasTestOfRun_0 rfl rfl ?_
  refine x_iload_n 1 dX8_hasTestOfRun_1 rfl rfl ?_
  refine x_callVIP (as := [iv r]) (rest := []) dX8_hasTestOfRun_2 vl8_190 k_0 (c_X8_hasRun g M r (by omega) ⟨by omega, by omega⟩) rfl rfl (Nat.le_of_ble_eq_true rfl) ⟨Nat.le_of_ble_eq_true rfl, Nat.le_of_ble_eq_true rfl⟩ (fun z1 h2 => ?_)
  refine x_if_eq (tgt := 33) dX8_hasTestOfRun_5 (by decide) ⟨by omega, by omega⟩ (fun c4 => ?_) (fun c4 => ?_)
  · refine x_iconst (0) dX8_hasTestOfRun_33 rfl ?_
    refine x_iret dX8_hasTestOfRun_34 rfl (iZ_bool (by omega)) ?_
    exact ⟨_, rfl, rfl, by omega⟩
  · have i1 := C.run r (by omega) (by omega)
    have i2 := C.prob (M (8 * r + 148) 5) (by omega) (by omega)
    refine x_aload_n 0 dX8_hasTestOfRun_8 rfl rfl ?_
    refine x_getr (k := 2) (d := 8) dX8_hasTestOfRun_9 fl8_25 k_0 rfl (fun k5 => ?_)
    have k5 : isK 30 5 8 := k5
    show Ok g mX8_hasTestOfRun (rmd 2) (FQ g (pIP (fun z => (z = 1 ∧ 0 ≤ r ∧ r < M 0 12 ∧ 0 ≤ t ∧ t < M (20 * M (8 * r + 148) 5 + 48) 3) ∨ (z = 0 ∧ (r < 0 ∨ M 0 12 ≤ r ∨ (0 ≤ r ∧ r < M 0 12 ∧ (t < 0 ∨ M (20 * M (8 * r + 148) 5 + 48) 3 ≤ t))))) M)) 12 [(0, rv g 0), (1, iv r), (2, iv t)] [rv g 8] M
    refine x_aload_n 0 dX8_hasTestOfRun_12 rfl rfl ?_
    refine x_getr (k := 3) (d := 9) dX8_hasTestOfRun_13 fl8_31 k_0 rfl (fun k6 => ?_)
    have k6 : isK 31 40 9 := k6
    show Ok g mX8_hasTestOfRun (rmd 2) (FQ g (pIP (fun z => (z = 1 ∧ 0 ≤ r ∧ r < M 0 12 ∧ 0 ≤ t ∧ t < M (20 * M (8 * r + 148) 5 + 48) 3) ∨ (z = 0 ∧ (r < 0 ∨ M 0 12 ≤ r ∨ (0 ≤ r ∧ r < M 0 12 ∧ (t < 0 ∨ M (20 * M (8 * r + 148) 5 + 48) 3 ≤ t))))) M)) 16 [(0, rv g 0), (1, iv r), (2, iv t)] [rv g 9, rv g 8] M
    refine x_iload_n 1 dX8_hasTestOfRun_16 rfl rfl ?_
    refine x_aald31 dX8_hasTestOfRun_17 k6 (by omega) (by omega) (by decide) (fun k7 => ?_)
    have ek7 : 9 + (139 + 8 * r) = 8 * r + 148 := by omega
    rw [ek7] at k7 ⊢
    refine x_geti (k := 5) (kI := 5) dX8_hasTestOfRun_18 fl8_166 k7 rfl rfl (fun ⟨a8, a8'⟩ => ?_)
    refine x_aald30 dX8_hasTestOfRun_21 k5 (by omega) (by omega) (by decide) (fun k9 => ?_)
    have ek9 : 8 + (40 + 20 * (M (8 * r + 148) 5)) = 20 * M (8 * r + 148) 5 + 48 := by omega
    rw [ek9] at k9 ⊢
    refine x_iload_n 2 dX8_hasTestOfRun_22 rfl rfl ?_
    refine x_callVIP (as := [iv t]) (rest := []) dX8_hasTestOfRun_23 vl8_151 k9 (c_X4_hasTest g M (20 * M (8 * r + 148) 5 + 48) t k9 ⟨by omega, by omega⟩ (by omega)) rfl rfl (Nat.le_of_ble_eq_true rfl) ⟨Nat.le_of_ble_eq_true rfl, Nat.le_of_ble_eq_true rfl⟩ (fun z10 h11 => ?_)
    refine x_if_eq (tgt := 33) dX8_hasTestOfRun_26 (by decide) ⟨by omega, by omega⟩ (fun c13 => ?_) (fun c13 => ?_)
    · refine x_iconst (0) dX8_hasTestOfRun_33 rfl ?_
      refine x_iret dX8_hasTestOfRun_34 rfl (iZ_bool (by omega)) ?_
      exact ⟨_, rfl, rfl, by omega⟩
    · refine x_iconst (1) dX8_hasTestOfRun_29 rfl ?_
      refine x_goto (tgt := 34) dX8_hasTestOfRun_30 (by decide) ?_
      refine x_iret dX8_hasTestOfRun_34 rfl (iZ_bool (by omega)) ?_
      exact ⟨_, rfl, rfl, by omega⟩

set_option maxHeartbeats 600000 in
set_option maxRecDepth 100000 in
theorem c_X8_lastMinute (g : GG) (M : Mem)  (C : CR M) : Ct g yX8_lastMinute cX8_lastMinute 1 (some .int) 0 [rv g 0] M (pIP (fun z => (M 0 12 = 0 ∧ z = 0) ∨ (0 < M 0 12 ∧ z = M (8 * M 0 12 + 140) 6)) M) := by
  refine ct_of (by decide +kernel) (Nat.le_of_ble_eq_true rfl) ?_
  show Ok g mX8_lastMinute (rmd 0) (FQ g (pIP (fun z => (M 0 12 = 0 ∧ z = 0) ∨ (0 < M 0 12 ∧ z = M (8 * M 0 12 + 140) 6)) M)) 0 [(0, rv g 0)] [] M
  have c0 := C.1
  refine x_aload_n 0 dX8_lastMinute_0 rfl rfl ?_
  refine x_geti (k := 12) (kI := 12) dX8_lastMinute_1 fl8_76 k_0 rfl rfl (fun ⟨a1, a1'⟩ => ?_)
  refine x_if_ne (tgt := 11) dX8_lastMinute_4 (by decide) ⟨by omega, by omega⟩ (fun c2 => ?_) (fun c2 => ?_)
  · refine x_aload_n 0 dX8_lastMinute_11 rfl rfl ?_
    refine x_getr (k := 3) (d := 9) dX8_lastMinute_12 fl8_31 k_0 rfl (fun k3 => ?_)
    have k3 : isK 31 40 9 := k3
    show Ok g mX8_lastMinute (rmd 0) (FQ g (pIP (fun z => (M 0 12 = 0 ∧ z = 0) ∨ (0 < M 0 12 ∧ z = M (8 * M 0 12 + 140) 6)) M)) 15 [(0, rv g 0)] [rv g 9] M
    refine x_aload_n 0 dX8_lastMinute_15 rfl rfl ?_
    refine x_geti (k := 12) (kI := 12) dX8_lastMinute_16 fl8_76 k_0 rfl rfl (fun ⟨a4, a4'⟩ => ?_)
    refine x_iconst (1) dX8_lastMinute_19 rfl ?_
    refine x_isub dX8_lastMinute_20 ?_
    refine x_aald31 dX8_lastMinute_21 k3 (by omega) (by omega) (by decide) (fun k5 => ?_)
    have ek5 : 9 + (139 + 8 * ((M 0 12) - 1)) = 8 * M 0 12 + 140 := by omega
    rw [ek5] at k5 ⊢
    refine x_geti (k := 6) (kI := 6) dX8_lastMinute_22 fl8_169 k5 rfl rfl (fun ⟨a6, a6'⟩ => ?_)
    refine x_iret dX8_lastMinute_25 rfl rfl ?_
    exact ⟨_, rfl, rfl, Or.inr ⟨by omega, rfl⟩⟩
  · refine x_iconst (0) dX8_lastMinute_7 rfl ?_
    refine x_goto (tgt := 25) dX8_lastMinute_8 (by decide) ?_
    refine x_iret dX8_lastMinute_25 rfl rfl ?_
    exact ⟨_, rfl, rfl, Or.inl ⟨by omega, rfl⟩⟩

set_option maxHeartbeats 600000 in
set_option maxRecDepth 100000 in
theorem c_X8_countPending (g : GG) (M : Mem) (t p : Int) (C : CR M) (ht : rg t) (hp : rg p) : Ct g yX8_countPending cX8_countPending 5 (some .int) 0 [rv g 0, iv t, iv p] M (pIP (fun z => z = cpn M t p) M) := by
  refine ct_of (by decide +kernel) (Nat.le_of_ble_eq_true rfl) ?_
  show Ok g mX8_countPending (rmd 0) (FQ g (pIP (fun z => z = cpn M t p) M)) 0 [(0, rv g 0), (1, iv t), (2, iv p)] [] M
  have c0 := C.1
  have ht1 := ht.1
  have ht2 := ht.2
  have hp1 := hp.1
  have hp2 := hp.2
  have h_5 : ∀ (n_5 : Nat) (c : Int) (r : Int), (0 ≤ r ∧ r ≤ M 0 12) → (c = cnt (fun r => M (8 * r + 148) 7 ≠ 0 ∧ M (8 * r + 148) 4 = t ∧ M (8 * r + 148) 5 = p) r) → (0 ≤ c ∧ c ≤ r) → (M 0 12 - r).toNat < n_5 → Ok g mX8_countPending (rmd 0) (FQ g (pIP (fun z => z = cpn M t p) M)) 5 [(0, rv g 0), (1, iv t), (2, iv p), (3, iv c), (4, iv r)] [] M := by
    intro n_5
    induction n_5 with
    | zero => intro c r j0 j1 j2 hn_5; exact absurd hn_5 (Nat.not_lt_zero _)
    | succ n_5 ih_5 =>
      intro c r j0 j1 j2 hn_5
      refine x_iload 4 dX8_countPending_5 rfl ?_
      refine x_aload_n 0 dX8_countPending_7 rfl rfl ?_
      refine x_geti (k := 12) (kI := 12) dX8_countPending_8 fl8_76 k_0 rfl rfl (fun ⟨a1, a1'⟩ => ?_)
      refine x_icmp_ge (tgt := 64) dX8_countPending_11 (by decide) ⟨by omega, by omega⟩ ⟨by omega, by omega⟩ (fun c2 => ?_) (fun c2 => ?_)
      · refine x_iload_n 3 dX8_countPending_64 rfl rfl ?_
        refine x_iret dX8_countPending_65 rfl rfl ?_
        exact ⟨_, rfl, rfl, by rw [j1, show r = M 0 12 by omega]; rfl⟩
      · have i1 := C.run r (by omega) (by omega)
        refine x_aload_n 0 dX8_countPending_14 rfl rfl ?_
        refine x_getr (k := 3) (d := 9) dX8_countPending_15 fl8_31 k_0 rfl (fun k3 => ?_)
        have k3 : isK 31 40 9 := k3
        show Ok g mX8_countPending (rmd 0) (FQ g (pIP (fun z => z = cpn M t p) M)) 18 [(0, rv g 0), (1, iv t), (2, iv p), (3, iv c), (4, iv r)] [rv g 9] M
        refine x_iload 4 dX8_countPending_18 rfl ?_
        refine x_aald31 dX8_countPending_20 k3 (by omega) (by omega) (by decide) (fun k4 => ?_)
        have ek4 : 9 + (139 + 8 * r) = 8 * r + 148 := by omega
        rw [ek4] at k4 ⊢
        refine x_geti (k := 7) (kI := 7) dX8_countPending_21 fl8_172 k4 rfl rfl (fun ⟨a5, a5'⟩ => ?_)
        refine x_if_eq (tgt := 58) dX8_countPending_24 (by decide) ⟨by omega, by omega⟩ (fun c6 => ?_) (fun c6 => ?_)
        · refine x_iinc (z := r) (lv' := [(4, iv (r + 1)), (0, rv g 0), (1, iv t), (2, iv p), (3, iv c)]) 4 dX8_countPending_58 rfl (Nat.le_of_ble_eq_true rfl) rfl ?_
          refine x_goto (tgt := 5) dX8_countPending_61 (by decide) ?_
          refine x_sub [1, 2, 3, 4, 0] rfl ?_
          exact ih_5 _ _ (by omega) (by rw [cnt_f (by omega) (fun w => by omega), ← j1]) (by omega) (by omega)
        · refine x_aload_n 0 dX8_countPending_27 rfl rfl ?_
          refine x_getr (k := 3) (d := 9) dX8_countPending_28 fl8_31 k_0 rfl (fun k7 => ?_)
          have k7 : isK 31 40 9 := k7
          show Ok g mX8_countPending (rmd 0) (FQ g (pIP (fun z => z = cpn M t p) M)) 31 [(0, rv g 0), (1, iv t), (2, iv p), (3, iv c), (4, iv r)] [rv g 9] M
          refine x_iload 4 dX8_countPending_31 rfl ?_
          refine x_aald31 dX8_countPending_33 k7 (by omega) (by omega) (by decide) (fun k8 => ?_)
          have ek8 : 9 + (139 + 8 * r) = 8 * r + 148 := by omega
          rw [ek8] at k8 ⊢
          refine x_geti (k := 4) (kI := 4) dX8_countPending_34 fl8_163 k8 rfl rfl (fun ⟨a9, a9'⟩ => ?_)
          refine x_iload_n 1 dX8_countPending_37 rfl rfl ?_
          refine x_icmp_ne (tgt := 58) dX8_countPending_38 (by decide) ⟨by omega, by omega⟩ ⟨by omega, by omega⟩ (fun c10 => ?_) (fun c10 => ?_)
          · refine x_iinc (z := r) (lv' := [(4, iv (r + 1)), (0, rv g 0), (1, iv t), (2, iv p), (3, iv c)]) 4 dX8_countPending_58 rfl (Nat.le_of_ble_eq_true rfl) rfl ?_
            refine x_goto (tgt := 5) dX8_countPending_61 (by decide) ?_
            refine x_sub [1, 2, 3, 4, 0] rfl ?_
            exact ih_5 _ _ (by omega) (by rw [cnt_f (by omega) (fun w => by omega), ← j1]) (by omega) (by omega)
          · refine x_aload_n 0 dX8_countPending_41 rfl rfl ?_
            refine x_getr (k := 3) (d := 9) dX8_countPending_42 fl8_31 k_0 rfl (fun k11 => ?_)
            have k11 : isK 31 40 9 := k11
            show Ok g mX8_countPending (rmd 0) (FQ g (pIP (fun z => z = cpn M t p) M)) 45 [(0, rv g 0), (1, iv t), (2, iv p), (3, iv c), (4, iv r)] [rv g 9] M
            refine x_iload 4 dX8_countPending_45 rfl ?_
            refine x_aald31 dX8_countPending_47 k11 (by omega) (by omega) (by decide) (fun k12 => ?_)
            have ek12 : 9 + (139 + 8 * r) = 8 * r + 148 := by omega
            rw [ek12] at k12 ⊢
            refine x_geti (k := 5) (kI := 5) dX8_countPending_48 fl8_166 k12 rfl rfl (fun ⟨a13, a13'⟩ => ?_)
            refine x_iload_n 2 dX8_countPending_51 rfl rfl ?_
            refine x_icmp_ne (tgt := 58) dX8_countPending_52 (by decide) ⟨by omega, by omega⟩ ⟨by omega, by omega⟩ (fun c14 => ?_) (fun c14 => ?_)
            · refine x_iinc (z := r) (lv' := [(4, iv (r + 1)), (0, rv g 0), (1, iv t), (2, iv p), (3, iv c)]) 4 dX8_countPending_58 rfl (Nat.le_of_ble_eq_true rfl) rfl ?_
              refine x_goto (tgt := 5) dX8_countPending_61 (by decide) ?_
              refine x_sub [1, 2, 3, 4, 0] rfl ?_
              exact ih_5 _ _ (by omega) (by rw [cnt_f (by omega) (fun w => by omega), ← j1]) (by omega) (by omega)
            · refine x_iinc (z := c) (lv' := [(3, iv (c + 1)), (0, rv g 0), (1, iv t), (2, iv p), (4, iv r)]) 3 dX8_countPending_55 rfl (Nat.le_of_ble_eq_true rfl) rfl ?_
              refine x_iinc (z := r) (lv' := [(4, iv (r + 1)), (3, iv (c + 1)), (0, rv g 0), (1, iv t), (2, iv p)]) 4 dX8_countPending_58 rfl (Nat.le_of_ble_eq_true rfl) rfl ?_
              refine x_goto (tgt := 5) dX8_countPending_61 (by decide) ?_
              refine x_sub [2, 3, 4, 1, 0] rfl ?_
              exact ih_5 _ _ (by omega) (by rw [cnt_t (by omega) ⟨by omega, by omega, by omega⟩, ← j1]) (by omega) (by omega)
  refine x_iconst (0) dX8_countPending_0 rfl ?_
  refine x_istore_n (lv' := [(3, iv 0), (0, rv g 0), (1, iv t), (2, iv p)]) dX8_countPending_1 rfl (Nat.le_of_ble_eq_true rfl) rfl ?_
  refine x_iconst (0) dX8_countPending_2 rfl ?_
  refine x_istore (lv' := [(4, iv 0), (3, iv 0), (0, rv g 0), (1, iv t), (2, iv p)]) dX8_countPending_3 (Nat.le_of_ble_eq_true rfl) rfl ?_
  refine x_sub [2, 3, 4, 1, 0] rfl ?_
  exact h_5 _ _ _ (by omega) (by exact (cnt_0 _).symm) (by omega) (Nat.lt_succ_self _)

set_option maxHeartbeats 600000 in
set_option maxRecDepth 100000 in
theorem c_X8_lowestPendingProblem (g : GG) (M : Mem) (t : Int) (C : CR M) (ht : rg t) : Ct g yX8_lowestPendingProblem cX8_lowestPendingProblem 3 (some .int) 1 [rv g 0, iv t] M (pIP (fun z => z = cpi M t) M) := by
  refine ct_of (by decide +kernel) (Nat.le_of_ble_eq_true rfl) ?_
  show Ok g mX8_lowestPendingProblem (rmd 1) (FQ g (pIP (fun z => z = cpi M t) M)) 0 [(0, rv g 0), (1, iv t)] [] M
  have c0 := C.1
  have ht1 := ht.1
  have ht2 := ht.2
  have h_2 : ∀ (n_2 : Nat) (p : Int), (0 ≤ p ∧ p ≤ M 0 10) → (∀ q, 0 ≤ q → q < p → ¬ 0 < cpn M t q) → (M 0 10 - p).toNat < n_2 → Ok g mX8_lowestPendingProblem (rmd 1) (FQ g (pIP (fun z => z = cpi M t) M)) 2 [(0, rv g 0), (1, iv t), (2, iv p)] [] M := by
    intro n_2
    induction n_2 with
    | zero => intro p j0 j1 hn_2; exact absurd hn_2 (Nat.not_lt_zero _)
    | succ n_2 ih_2 =>
      intro p j0 j1 hn_2
      refine x_iload_n 2 dX8_lowestPendingProblem_2 rfl rfl ?_
      refine x_aload_n 0 dX8_lowestPendingProblem_3 rfl rfl ?_
      refine x_geti (k := 10) (kI := 10) dX8_lowestPendingProblem_4 fl8_69 k_0 rfl rfl (fun ⟨a1, a1'⟩ => ?_)
      refine x_icmp_ge (tgt := 27) dX8_lowestPendingProblem_7 (by decide) ⟨by omega, by omega⟩ ⟨by omega, by omega⟩ (fun c2 => ?_) (fun c2 => ?_)
      · refine x_iconst (-1) dX8_lowestPendingProblem_27 rfl ?_
        refine x_iret dX8_lowestPendingProblem_28 rfl rfl ?_
        exact ⟨_, rfl, rfl, (lst_eq (by omega) (Or.inl ⟨by omega, fun q q0 q1 => j1 q q0 (by omega)⟩)).symm⟩
      · refine x_aload_n 0 dX8_lowestPendingProblem_10 rfl rfl ?_
        refine x_iload_n 1 dX8_lowestPendingProblem_11 rfl rfl ?_
        refine x_iload_n 2 dX8_lowestPendingProblem_12 rfl rfl ?_
        refine x_callVIP (as := [iv t, iv p]) (rest := []) dX8_lowestPendingProblem_13 vl8_263 k_0 (c_X8_countPending g M t p C ⟨by omega, by omega⟩ ⟨by omega, by omega⟩) rfl rfl (Nat.le_of_ble_eq_true rfl) ⟨Nat.le_of_ble_eq_true rfl, Nat.le_of_ble_eq_true rfl⟩ (fun z3 h4 => ?_)
        have hc := h4
        have hc2 := cnt_range (fun r => M (8 * r + 148) 7 ≠ 0 ∧ M (8 * r + 148) 4 = t ∧ M (8 * r + 148) 5 = p) (n := M 0 12) (by omega)
        change 0 ≤ cpn M t p ∧ cpn M t p ≤ _ at hc2
        rw [← hc] at hc2
        refine x_if_le (tgt := 21) dX8_lowestPendingProblem_16 (by decide) ⟨by omega, by omega⟩ (fun c6 => ?_) (fun c6 => ?_)
        · refine x_iinc (z := p) (lv' := [(2, iv (p + 1)), (0, rv g 0), (1, iv t)]) 2 dX8_lowestPendingProblem_21 rfl (Nat.le_of_ble_eq_true rfl) rfl ?_
          refine x_goto (tgt := 2) dX8_lowestPendingProblem_24 (by decide) ?_
          refine x_sub [1, 2, 0] rfl ?_
          exact ih_2 _ (by omega) (by exact ext_lt j1 (by omega)) (by omega)
        · refine x_iload_n 2 dX8_lowestPendingProblem_19 rfl rfl ?_
          refine x_iret dX8_lowestPendingProblem_20 rfl rfl ?_
          exact ⟨_, rfl, rfl, (lst_eq (by omega) (Or.inr ⟨by omega, by omega, by omega, j1⟩)).symm⟩
  refine x_iconst (0) dX8_lowestPendingProblem_0 rfl ?_
  refine x_istore_n (lv' := [(2, iv 0), (0, rv g 0), (1, iv t)]) dX8_lowestPendingProblem_1 rfl (Nat.le_of_ble_eq_true rfl) rfl ?_
  refine x_sub [1, 2, 0] rfl ?_
  exact h_2 _ _ (by omega) (by intro q _ _; omega) (Nat.lt_succ_self _)

set_option maxHeartbeats 600000 in
set_option maxRecDepth 100000 in
theorem c_X8_lowestPendingTeam (g : GG) (M : Mem)  (C : CR M) (hO : ∀ i, 0 ≤ i → i < M 0 11 → 0 ≤ M 40 i ∧ M 40 i < M 0 11) : Ct g yX8_lowestPendingTeam cX8_lowestPendingTeam 3 (some .int) 2 [rv g 0] M (pIP (fun z => (z = -1 ∧ ∀ i, 0 ≤ i → i < M 0 11 → cpi M (M 40 i) = -1) ∨ ∃ i, 0 ≤ i ∧ i < M 0 11 ∧ z = M 40 i ∧ cpi M z ≠ -1 ∧ ∀ j, i < j → j < M 0 11 → cpi M (M 40 j) = -1) M) := by
  refine ct_of (by decide +kernel) (Nat.le_of_ble_eq_true rfl) ?_
  show Ok g mX8_lowestPendingTeam (rmd 2) (FQ g (pIP (fun z => (z = -1 ∧ ∀ i, 0 ≤ i → i < M 0 11 → cpi M (M 40 i) = -1) ∨ ∃ i, 0 ≤ i ∧ i < M 0 11 ∧ z = M 40 i ∧ cpi M z ≠ -1 ∧ ∀ j, i < j → j < M 0 11 → cpi M (M 40 j) = -1) M)) 0 [(0, rv g 0)] [] M
  have c0 := C.1
  have h_7 : ∀ (n_7 : Nat) (i : Int), (-1 ≤ i ∧ i < M 0 11) → (∀ j, i < j → j < M 0 11 → cpi M (M 40 j) = -1) → (i + 1).toNat < n_7 → Ok g mX8_lowestPendingTeam (rmd 2) (FQ g (pIP (fun z => (z = -1 ∧ ∀ i, 0 ≤ i → i < M 0 11 → cpi M (M 40 i) = -1) ∨ ∃ i, 0 ≤ i ∧ i < M 0 11 ∧ z = M 40 i ∧ cpi M z ≠ -1 ∧ ∀ j, i < j → j < M 0 11 → cpi M (M 40 j) = -1) M)) 7 [(0, rv g 0), (1, iv i)] [] M := by
    intro n_7
    induction n_7 with
    | zero => intro i j0 j1 hn_7; exact absurd hn_7 (Nat.not_lt_zero _)
    | succ n_7 ih_7 =>
      intro i j0 j1 hn_7
      refine x_iload_n 1 dX8_lowestPendingTeam_7 rfl rfl ?_
      refine x_if_lt (tgt := 38) dX8_lowestPendingTeam_8 (by decide) ⟨by omega, by omega⟩ (fun c1 => ?_) (fun c1 => ?_)
      · refine x_iconst (-1) dX8_lowestPendingTeam_38 rfl ?_
        refine x_iret dX8_lowestPendingTeam_39 rfl rfl ?_
        exact ⟨_, rfl, rfl, Or.inl ⟨rfl, fun j x0 x1 => j1 j (by omega) x1⟩⟩
      · have i1 := hO i (by omega) (by omega)
        refine x_aload_n 0 dX8_lowestPendingTeam_11 rfl rfl ?_
        refine x_getr (k := 8) (d := 34) dX8_lowestPendingTeam_12 fl8_63 k_0 rfl (fun k2 => ?_)
        have k2 : isK 1 7 34 := k2
        show Ok g mX8_lowestPendingTeam (rmd 2) (FQ g (pIP (fun z => (z = -1 ∧ ∀ i, 0 ≤ i → i < M 0 11 → cpi M (M 40 i) = -1) ∨ ∃ i, 0 ≤ i ∧ i < M 0 11 ∧ z = M 40 i ∧ cpi M z ≠ -1 ∧ ∀ j, i < j → j < M 0 11 → cpi M (M 40 j) = -1) M)) 15 [(0, rv g 0), (1, iv i)] [rv g 34] M
        refine x_getr (k := 5) (d := 6) dX8_lowestPendingTeam_15 fl8_289 k2 rfl (fun k3 => ?_)
        have k3 : isK 20 8 40 := k3
        show Ok g mX8_lowestPendingTeam (rmd 2) (FQ g (pIP (fun z => (z = -1 ∧ ∀ i, 0 ≤ i → i < M 0 11 → cpi M (M 40 i) = -1) ∨ ∃ i, 0 ≤ i ∧ i < M 0 11 ∧ z = M 40 i ∧ cpi M z ≠ -1 ∧ ∀ j, i < j → j < M 0 11 → cpi M (M 40 j) = -1) M)) 18 [(0, rv g 0), (1, iv i)] [rv g 40] M
        refine x_iload_n 1 dX8_lowestPendingTeam_18 rfl rfl ?_
        refine x_iald dX8_lowestPendingTeam_19 k3 (by omega) (by omega) (by decide) (fun ⟨a4, a4'⟩ => ?_)
        refine x_istore_n (lv' := [(2, iv (M 40 i)), (0, rv g 0), (1, iv i)]) dX8_lowestPendingTeam_20 rfl (Nat.le_of_ble_eq_true rfl) rfl ?_
        refine x_aload_n 1 dX8_lowestPendingTeam_21 rfl rfl ?_
        refine x_iload_n 0 dX8_lowestPendingTeam_22 rfl rfl ?_
        refine x_callVIP (as := [iv (M 40 i)]) (rest := []) dX8_lowestPendingTeam_23 vl8_269 k_0 (c_X8_lowestPendingProblem g M (M 40 i) C ⟨by omega, by omega⟩) rfl rfl (Nat.le_of_ble_eq_true rfl) ⟨Nat.le_of_ble_eq_true rfl, Nat.le_of_ble_eq_true rfl⟩ (fun z5 h6 => ?_)
        have hc := h6
        have hc2 := cpi_rng (M := M) (t := (M 40 i)) (by omega)
        refine x_iconst (-1) dX8_lowestPendingTeam_26 rfl ?_
        refine x_icmp_eq (tgt := 32) dX8_lowestPendingTeam_27 (by decide) ⟨by omega, by omega⟩ ⟨by decide, by decide⟩ (fun c8 => ?_) (fun c8 => ?_)
        · refine x_iinc (z := i) (lv' := [(1, iv (i + (-1))), (2, iv (M 40 i)), (0, rv g 0)]) 2 dX8_lowestPendingTeam_32 rfl (Nat.le_of_ble_eq_true rfl) rfl ?_
          refine x_goto (tgt := 7) dX8_lowestPendingTeam_35 (by decide) ?_
          refine x_sub [2, 0] rfl ?_
          exact ih_7 _ (by omega) (by intro j x0 x1; rcases Int.lt_or_le i j with w | w; exact j1 j w x1; rw [show j = i by omega]; omega) (by omega)
        · refine x_iload_n 0 dX8_lowestPendingTeam_30 rfl rfl ?_
          refine x_iret dX8_lowestPendingTeam_31 rfl rfl ?_
          exact ⟨_, rfl, rfl, Or.inr ⟨i, by omega, by omega, rfl, by omega, j1⟩⟩
  refine x_aload_n 0 dX8_lowestPendingTeam_0 rfl rfl ?_
  refine x_geti (k := 11) (kI := 11) dX8_lowestPendingTeam_1 fl8_73 k_0 rfl rfl (fun ⟨a9, a9'⟩ => ?_)
  refine x_iconst (1) dX8_lowestPendingTeam_4 rfl ?_
  refine x_isub dX8_lowestPendingTeam_5 ?_
  refine x_istore_n (lv' := [(1, iv ((M 0 11) - 1)), (0, rv g 0)]) dX8_lowestPendingTeam_6 rfl (Nat.le_of_ble_eq_true rfl) rfl ?_
  refine x_sub [1, 0] rfl ?_
  exact h_7 _ _ (by omega) (by intro j _ _; omega) (Nat.lt_succ_self _)

set_option maxHeartbeats 600000 in
set_option maxRecDepth 100000 in
theorem c_X8_openRuns (g : GG) (M : Mem) (t p : Int) (C : CR M) (ht : rg t) (hp : rg p) : Ct g yX8_openRuns cX8_openRuns 4 none 0 [rv g 0, iv t, iv p] M (pV (fun M' => (∀ o k, (∀ r, 0 ≤ r → r < M 0 12 → ¬ (o = 8 * r + 148 ∧ k = 7)) → M' o k = M o k) ∧ ∀ r, 0 ≤ r → r < M 0 12 → M' (8 * r + 148) 7 = if M (8 * r + 148) 4 = t ∧ M (8 * r + 148) 5 = p then 0 else M (8 * r + 148) 7)) := by
  refine ct_of (by decide +kernel) (Nat.le_of_ble_eq_true rfl) ?_
  show Ok g mX8_openRuns (rmd 0) (FQ g (pV (fun M' => (∀ o k, (∀ r, 0 ≤ r → r < M 0 12 → ¬ (o = 8 * r + 148 ∧ k = 7)) → M' o k = M o k) ∧ ∀ r, 0 ≤ r → r < M 0 12 → M' (8 * r + 148) 7 = if M (8 * r + 148) 4 = t ∧ M (8 * r + 148) 5 = p then 0 else M (8 * r + 148) 7))) 0 [(0, rv g 0), (1, iv t), (2, iv p)] [] M
  have c0 := C.1
  have ht1 := ht.1
  have ht2 := ht.2
  have hp1 := hp.1
  have hp2 := hp.2
  have h_2 : ∀ (n_2 : Nat) (M1 : Mem) (i : Int), (0 ≤ i ∧ i ≤ M 0 12) → (∀ o k, (∀ r, 0 ≤ r → r < M 0 12 → ¬ (o = 8 * r + 148 ∧ k = 7)) → M1 o k = M o k) → (∀ r, 0 ≤ r → M1 (8 * r + 148) 7 = if r < i ∧ M (8 * r + 148) 4 = t ∧ M (8 * r + 148) 5 = p then 0 else M (8 * r + 148) 7) → (M 0 12 - i).toNat < n_2 → Ok g mX8_openRuns (rmd 0) (FQ g (pV (fun M' => (∀ o k, (∀ r, 0 ≤ r → r < M 0 12 → ¬ (o = 8 * r + 148 ∧ k = 7)) → M' o k = M o k) ∧ ∀ r, 0 ≤ r → r < M 0 12 → M' (8 * r + 148) 7 = if M (8 * r + 148) 4 = t ∧ M (8 * r + 148) 5 = p then 0 else M (8 * r + 148) 7))) 2 [(0, rv g 0), (1, iv t), (2, iv p), (3, iv i)] [] M1 := by
    intro n_2
    induction n_2 with
    | zero => intro M1 i j0 j1 j2 hn_2; exact absurd hn_2 (Nat.not_lt_zero _)
    | succ n_2 ih_2 =>
      intro M1 i j0 j1 j2 hn_2
      refine x_iload_n 3 dX8_openRuns_2 rfl rfl ?_
      refine x_aload_n 0 dX8_openRuns_3 rfl rfl ?_
      refine x_geti (k := 12) (kI := 12) dX8_openRuns_4 fl8_76 k_0 rfl rfl (fun ⟨a1, a1'⟩ => ?_)
      have e2 : M1 0 12 = M 0 12 := (j1 _ _ (fun r _ _ => by omega))
      simp only [e2] at a1 a1' ⊢
      refine x_icmp_ge (tgt := 52) dX8_openRuns_7 (by decide) ⟨by omega, by omega⟩ ⟨by omega, by omega⟩ (fun c3 => ?_) (fun c3 => ?_)
      · refine x_vret dX8_openRuns_52 rfl ?_
        refine ⟨rfl, j1, fun r r0 r1 => ?_⟩
        rw [j2 r r0]
        by_cases e2 : M (8 * r + 148) 4 = t ∧ M (8 * r + 148) 5 = p
        · rw [if_pos e2, if_pos ⟨by omega, e2⟩]
        · rw [if_neg e2, if_neg (fun w => e2 w.2)]
      · refine x_aload_n 0 dX8_openRuns_10 rfl rfl ?_
        refine x_getr (k := 3) (d := 9) dX8_openRuns_11 fl8_31 k_0 rfl (fun k4 => ?_)
        have k4 : isK 31 40 9 := k4
        show Ok g mX8_openRuns (rmd 0) (FQ g (pV (fun M' => (∀ o k, (∀ r, 0 ≤ r → r < M 0 12 → ¬ (o = 8 * r + 148 ∧ k = 7)) → M' o k = M o k) ∧ ∀ r, 0 ≤ r → r < M 0 12 → M' (8 * r + 148) 7 = if M (8 * r + 148) 4 = t ∧ M (8 * r + 148) 5 = p then 0 else M (8 * r + 148) 7))) 14 [(0, rv g 0), (1, iv t), (2, iv p), (3, iv i)] [rv g 9] M1
        refine x_iload_n 3 dX8_openRuns_14 rfl rfl ?_
        refine x_aald31 dX8_openRuns_15 k4 (by omega) (by omega) (by decide) (fun k5 => ?_)
        have ek5 : 9 + (139 + 8 * i) = 8 * i + 148 := by omega
        rw [ek5] at k5 ⊢
        refine x_geti (k := 4) (kI := 4) dX8_openRuns_16 fl8_163 k5 rfl rfl (fun ⟨a6, a6'⟩ => ?_)
        have e7 : M1 (8 * i + 148) 4 = M (8 * i + 148) 4 := (j1 _ _ (fun r _ _ => by omega))
        simp only [e7] at a6 a6' ⊢
        refine x_iload_n 1 dX8_openRuns_19 rfl rfl ?_
        refine x_icmp_ne (tgt := 46) dX8_openRuns_20 (by decide) ⟨by omega, by omega⟩ ⟨by omega, by omega⟩ (fun c8 => ?_) (fun c8 => ?_)
        · refine x_iinc (z := i) (lv' := [(3, iv (i + 1)), (0, rv g 0), (1, iv t), (2, iv p)]) 3 dX8_openRuns_46 rfl (Nat.le_of_ble_eq_true rfl) rfl ?_
          refine x_goto (tgt := 2) dX8_openRuns_49 (by decide) ?_
          refine x_sub [1, 2, 3, 0] rfl ?_
          exact ih_2 _ _ (by omega) (by exact j1) (by intro r r0; rw [j2 r r0]; by_cases e : r = i; rw [if_neg (by omega), if_neg (by rw [e]; omega)]; by_cases e2 : r < i ∧ M (8 * r + 148) 4 = t ∧ M (8 * r + 148) 5 = p; rw [if_pos e2, if_pos ⟨by omega, e2.2⟩]; rw [if_neg e2, if_neg (fun w => e2 ⟨by omega, w.2⟩)]) (by omega)
        · refine x_aload_n 0 dX8_openRuns_23 rfl rfl ?_
          refine x_getr (k := 3) (d := 9) dX8_openRuns_24 fl8_31 k_0 rfl (fun k9 => ?_)
          have k9 : isK 31 40 9 := k9
          show Ok g mX8_openRuns (rmd 0) (FQ g (pV (fun M' => (∀ o k, (∀ r, 0 ≤ r → r < M 0 12 → ¬ (o = 8 * r + 148 ∧ k = 7)) → M' o k = M o k) ∧ ∀ r, 0 ≤ r → r < M 0 12 → M' (8 * r + 148) 7 = if M (8 * r + 148) 4 = t ∧ M (8 * r + 148) 5 = p then 0 else M (8 * r + 148) 7))) 27 [(0, rv g 0), (1, iv t), (2, iv p), (3, iv i)] [rv g 9] M1
          refine x_iload_n 3 dX8_openRuns_27 rfl rfl ?_
          refine x_aald31 dX8_openRuns_28 k9 (by omega) (by omega) (by decide) (fun k10 => ?_)
          have ek10 : 9 + (139 + 8 * i) = 8 * i + 148 := by omega
          rw [ek10] at k10 ⊢
          refine x_geti (k := 5) (kI := 5) dX8_openRuns_29 fl8_166 k10 rfl rfl (fun ⟨a11, a11'⟩ => ?_)
          have e12 : M1 (8 * i + 148) 5 = M (8 * i + 148) 5 := (j1 _ _ (fun r _ _ => by omega))
          simp only [e12] at a11 a11' ⊢
          refine x_iload_n 2 dX8_openRuns_32 rfl rfl ?_
          refine x_icmp_ne (tgt := 46) dX8_openRuns_33 (by decide) ⟨by omega, by omega⟩ ⟨by omega, by omega⟩ (fun c13 => ?_) (fun c13 => ?_)
          · refine x_iinc (z := i) (lv' := [(3, iv (i + 1)), (0, rv g 0), (1, iv t), (2, iv p)]) 3 dX8_openRuns_46 rfl (Nat.le_of_ble_eq_true rfl) rfl ?_
            refine x_goto (tgt := 2) dX8_openRuns_49 (by decide) ?_
            refine x_sub [1, 2, 3, 0] rfl ?_
            exact ih_2 _ _ (by omega) (by exact j1) (by intro r r0; rw [j2 r r0]; by_cases e : r = i; rw [if_neg (by omega), if_neg (by rw [e]; omega)]; by_cases e2 : r < i ∧ M (8 * r + 148) 4 = t ∧ M (8 * r + 148) 5 = p; rw [if_pos e2, if_pos ⟨by omega, e2.2⟩]; rw [if_neg e2, if_neg (fun w => e2 ⟨by omega, w.2⟩)]) (by omega)
          · refine x_aload_n 0 dX8_openRuns_36 rfl rfl ?_
            refine x_getr (k := 3) (d := 9) dX8_openRuns_37 fl8_31 k_0 rfl (fun k14 => ?_)
            have k14 : isK 31 40 9 := k14
            show Ok g mX8_openRuns (rmd 0) (FQ g (pV (fun M' => (∀ o k, (∀ r, 0 ≤ r → r < M 0 12 → ¬ (o = 8 * r + 148 ∧ k = 7)) → M' o k = M o k) ∧ ∀ r, 0 ≤ r → r < M 0 12 → M' (8 * r + 148) 7 = if M (8 * r + 148) 4 = t ∧ M (8 * r + 148) 5 = p then 0 else M (8 * r + 148) 7))) 40 [(0, rv g 0), (1, iv t), (2, iv p), (3, iv i)] [rv g 9] M1
            refine x_iload_n 3 dX8_openRuns_40 rfl rfl ?_
            refine x_aald31 dX8_openRuns_41 k14 (by omega) (by omega) (by decide) (fun k15 => ?_)
            have ek15 : 9 + (139 + 8 * i) = 8 * i + 148 := by omega
            rw [ek15] at k15 ⊢
            refine x_iconst (0) dX8_openRuns_42 rfl ?_
            refine x_puti (k := 7) (kI := 7) dX8_openRuns_43 fw8_172 k15 rfl ⟨by decide, by decide⟩ (iZ_bool (by omega)) (iZ_boolF (by omega)) rfl ?_
            refine x_iinc (z := i) (lv' := [(3, iv (i + 1)), (0, rv g 0), (1, iv t), (2, iv p)]) 3 dX8_openRuns_46 rfl (Nat.le_of_ble_eq_true rfl) rfl ?_
            refine x_goto (tgt := 2) dX8_openRuns_49 (by decide) ?_
            refine x_sub [1, 2, 3, 0] rfl ?_
            exact ih_2 _ _ (by omega) (by intro o k h; rw [up_n (h i (by omega) (by omega))]; exact j1 o k h) (by intro r r0; by_cases e : r = i; rw [e, up_s, if_pos (by omega)]; rw [up_o (by omega), j2 r r0]; by_cases e2 : r < i ∧ M (8 * r + 148) 4 = t ∧ M (8 * r + 148) 5 = p; rw [if_pos e2, if_pos ⟨by omega, e2.2⟩]; rw [if_neg e2, if_neg (fun w => e2 ⟨by omega, w.2⟩)]) (by omega)
  refine x_iconst (0) dX8_openRuns_0 rfl ?_
  refine x_istore_n (lv' := [(3, iv 0), (0, rv g 0), (1, iv t), (2, iv p)]) dX8_openRuns_1 rfl (Nat.le_of_ble_eq_true rfl) rfl ?_
  refine x_sub [1, 2, 3, 0] rfl ?_
  exact h_2 _ _ _ (by omega) (by intro o k _; rfl) (by intro r _; rw [if_neg (by omega)]) (Nat.lt_succ_self _)
