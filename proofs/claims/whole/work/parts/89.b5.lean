theorem kd9 : ∀ a : Nat, a < 497 → 469 ≤ a → (kdN a).1 = 20 ∨ (kdN a).1 = 21 ∨ (kdN a).1 = 22 := by decide +kernel
theorem q8_0 (g : GG) : VI g 0 0 = rf g 1 := rfl
theorem q8_1 (g : GG) : VI g 0 1 = rf g 5 := rfl
theorem q8_2 (g : GG) : VI g 0 2 = rf g 8 := rfl
theorem q8_3 (g : GG) : VI g 0 3 = rf g 9 := rfl
theorem q8_4 (g : GG) : VI g 0 4 = rf g 10 := rfl
theorem q8_5 (g : GG) : VI g 0 5 = rf g 13 := rfl
theorem q8_6 (g : GG) : VI g 0 6 = rf g 17 := rfl
theorem q8_7 (g : GG) : VI g 0 7 = rf g 27 := rfl
theorem q8_8 (g : GG) : VI g 0 8 = rf g 34 := rfl
theorem q8_9 (g : GG) : VI g 0 9 = rf g 41 := rfl
theorem q8_10 (g : GG) : VI g 0 10 = iv 0 := rfl
theorem q8_11 (g : GG) : VI g 0 11 = iv 0 := rfl
theorem q8_12 (g : GG) : VI g 0 12 = iv 0 := rfl
theorem q8_13 (g : GG) : VI g 0 13 = iv 1000 := rfl
theorem q9_0 (g : GG) : VI g 468 0 = iv (0) := rfl
theorem q9_1 (g : GG) : VI g 468 1 = iv (0) := rfl
theorem q9_2 (g : GG) : VI g 468 2 = rf g 469 := rfl
theorem q9_3 (g : GG) : VI g 468 3 = rf g 470 := rfl
theorem q9_4 (g : GG) : VI g 468 4 = rf g 471 := rfl
theorem q9_5 (g : GG) : VI g 468 5 = iv (0) := rfl
theorem q9_6 (g : GG) : VI g 468 6 = iv (0) := rfl
theorem q9_7 (g : GG) : VI g 468 7 = rf g 472 := rfl
theorem q9_8 (g : GG) : VI g 468 8 = rf g 473 := rfl
theorem q9_9 (g : GG) : VI g 468 9 = iv (0) := rfl
theorem q9_10 (g : GG) : VI g 468 10 = rf g 474 := rfl
theorem q9_11 (g : GG) : VI g 468 11 = rf g 475 := rfl
theorem q9_12 (g : GG) : VI g 468 12 = rf g 476 := rfl
theorem q9_13 (g : GG) : VI g 468 13 = rf g 477 := rfl
theorem q9_14 (g : GG) : VI g 468 14 = rf g 478 := rfl
theorem q9_15 (g : GG) : VI g 468 15 = rf g 479 := rfl
theorem q9_16 (g : GG) : VI g 468 16 = rf g 480 := rfl
theorem q9_17 (g : GG) : VI g 468 17 = iv (0) := rfl
theorem q9_18 (g : GG) : VI g 468 18 = iv (0) := rfl
theorem q9_19 (g : GG) : VI g 468 19 = rf g 481 := rfl
theorem q9_20 (g : GG) : VI g 468 20 = rf g 482 := rfl
theorem q9_21 (g : GG) : VI g 468 21 = rf g 483 := rfl
theorem q9_22 (g : GG) : VI g 468 22 = rf g 484 := rfl
theorem q9_23 (g : GG) : VI g 468 23 = rf g 485 := rfl
theorem q9_24 (g : GG) : VI g 468 24 = rf g 486 := rfl
theorem q9_25 (g : GG) : VI g 468 25 = rf g 487 := rfl
theorem q9_26 (g : GG) : VI g 468 26 = rf g 488 := rfl
theorem q9_27 (g : GG) : VI g 468 27 = rf g 489 := rfl
theorem q9_28 (g : GG) : VI g 468 28 = rf g 490 := rfl
theorem q9_29 (g : GG) : VI g 468 29 = rf g 491 := rfl
theorem q9_30 (g : GG) : VI g 468 30 = rf g 492 := rfl
theorem q9_31 (g : GG) : VI g 468 31 = rf g 493 := rfl
theorem q9_32 (g : GG) : VI g 468 32 = rf g 494 := rfl
theorem q9_33 (g : GG) : VI g 468 33 = rf g 495 := rfl
theorem q9_34 (g : GG) : VI g 468 34 = iv (0) := rfl
theorem q9_35 (g : GG) : VI g 468 35 = iv (0) := rfl
theorem q9_36 (g : GG) : VI g 468 36 = iv (-1) := rfl
theorem q9_37 (g : GG) : VI g 468 37 = rf g 496 := rfl
theorem q9_a (g : GG) (a k : Nat) (h0 : 469 ≤ a) (h1 : a < 497) : VI g a k = iv 0 := by
  have hk : (kdN a).1 = 20 ∨ (kdN a).1 = 21 ∨ (kdN a).1 = 22 := kd9 a h1 h0
  refine (VI_f (t := (kdN a).1) (N := (kdN a).2) rfl ⟨by omega, by omega, by omega, by omega⟩ k).trans ?_
  rcases hk with e | e | e <;> rw [e] <;> rfl
theorem q8_a8 (g : GG) (k : Nat) (hk : k < 5) : VI g 8 k = rf g (48 + 20 * k) := by
  refine (VI_f (a := 8) (t := 30) (N := 5) rfl ⟨by decide, by decide, by decide, by decide⟩ k).trans ((vl_ref (d := 40 + 20 * k) (t' := 4) (n' := 4) ?_).trans ?_)
  · show ((1 : Nat), (40 : Int) + 20 * (k : Int), 4, 4) = _
    rw [show (40 : Int) + 20 * (k : Int) = ((40 + 20 * k : Nat) : Int) by omega]
  · rw [show 8 + (40 + 20 * k) = 48 + 20 * k by omega]
theorem q8_a9 (g : GG) (k : Nat) (hk : k < 40) : VI g 9 k = rf g (148 + 8 * k) := by
  refine (VI_f (a := 9) (t := 31) (N := 40) rfl ⟨by decide, by decide, by decide, by decide⟩ k).trans ((vl_ref (d := 139 + 8 * k) (t' := 6) (n' := 10) ?_).trans ?_)
  · show ((1 : Nat), (139 : Int) + 8 * (k : Int), 6, 10) = _
    rw [show (139 : Int) + 8 * (k : Int) = ((139 + 8 * k : Nat) : Int) by omega]
  · rw [show 9 + (139 + 8 * k) = 148 + 8 * k by omega]
theorem z5_1 (g : GG) : Z5 g 1 := Z5.of rfl rfl rfl rfl (fun j hj => ⟨by omega, by omega, by omega, by omega⟩)
theorem z3_5 (g : GG) : Z3 g 5 := Z3.of rfl rfl rfl (fun j hj => ⟨by omega, by omega, by omega, by omega⟩)
theorem z1_27 (g : GG) : Z1 g 27 := Z1.of rfl rfl rfl rfl rfl rfl rfl (fun j hj => ⟨by omega, by omega, by omega, by omega⟩)
theorem z1_34 (g : GG) : Z1 g 34 := Z1.of rfl rfl rfl rfl rfl rfl rfl (fun j hj => ⟨by omega, by omega, by omega, by omega⟩)
theorem z1_41 (g : GG) : Z1 g 41 := Z1.of rfl rfl rfl rfl rfl rfl rfl (fun j hj => ⟨by omega, by omega, by omega, by omega⟩)
set_option maxRecDepth 20000 in
theorem z_X5_init (g : GG) (V : VM) (o : Nat) (h : Z5 g o) (hV : ∀ a k, o ≤ a → V a k = VI g a k) : Ctz g yX5_init cX5_init 1 0 o (o + 1) (o + 4) 3 60 (DF o 0 V) V := by
  refine ctz_of (by decide +kernel) rfl (by decide) ?_
  refine z_aload_n 0 dX5_init_0 rfl rfl ?_
  refine z_obj dX5_init_1 ow5_3 (by decide) (by decide) ?_
  refine z_aload_n 0 dX5_init_4 rfl rfl ?_
  refine z_bipush (20) dX5_init_5 rfl ?_
  refine z_newa dX5_init_7 (at_char g) ac_char h.k1 rfl (by decide) (by decide) (by show _ ≤ 3; omega) (by show _ ≤ 60; omega) ?_
  refine z_no (fun k _ _ => by rw [h.k1]; exact ((DF_of (Or.inl (by omega))).trans ((hV _ _ (by omega)).trans (h.w1 k)))) ?_
  refine z_put (k := 0) (j := 1) dX5_init_9 fp5_9 (by omega) h.k0 rfl rfl ((hV _ _ (by omega)).trans h.f0) (by omega) (fun i h1 h2 => by omega) ?_
  refine z_aload_n 0 dX5_init_12 rfl rfl ?_
  refine z_bipush (20) dX5_init_13 rfl ?_
  refine z_newa dX5_init_15 (at_int g) ac_int h.k2 rfl (by decide) (by decide) (by show _ ≤ 3; omega) (by show _ ≤ 60; omega) ?_
  refine z_no (fun k _ _ => by rw [h.k2]; exact ((DF_of (Or.inl (by omega))).trans ((hV _ _ (by omega)).trans (h.w2 k)))) ?_
  refine z_put (k := 1) (j := 2) dX5_init_17 fp5_15 (by omega) h.k0 rfl rfl ((hV _ _ (by omega)).trans h.f1) (by omega) (fun i h1 h2 => by omega) ?_
  refine z_aload_n 0 dX5_init_20 rfl rfl ?_
  refine z_bipush (20) dX5_init_21 rfl ?_
  refine z_newa dX5_init_23 (at_int g) ac_int h.k3 rfl (by decide) (by decide) (by show _ ≤ 3; omega) (by show _ ≤ 60; omega) ?_
  refine z_no (fun k _ _ => by rw [h.k3]; exact ((DF_of (Or.inl (by omega))).trans ((hV _ _ (by omega)).trans (h.w3 k)))) ?_
  refine z_put (k := 2) (j := 3) dX5_init_25 fp5_19 (by omega) h.k0 rfl rfl ((hV _ _ (by omega)).trans h.f2) (by omega) (fun i h1 h2 => by omega) ?_
  refine z_aload_n 0 dX5_init_28 rfl rfl ?_
  refine z_iconst (0) dX5_init_29 rfl ?_
  refine z_put (k := 3) (j := 4) dX5_init_30 fp5_22 (by omega) h.k0 rfl rfl ((hV _ _ (by omega)).trans h.f3) (by omega) (fun i h1 h2 => by omega) ?_
  refine z_full h.k0 ?_
  exact z_vret dX5_init_33 rfl
set_option maxRecDepth 20000 in
theorem z_X3_init (g : GG) (V : VM) (o : Nat) (h : Z3 g o) (hV : ∀ a k, o ≤ a → V a k = VI g a k) : Ctz g yX3_init cX3_init 1 0 o (o + 1) (o + 3) 2 10 (DF o 0 V) V := by
  refine ctz_of (by decide +kernel) rfl (by decide) ?_
  refine z_aload_n 0 dX3_init_0 rfl rfl ?_
  refine z_obj dX3_init_1 ow3_3 (by decide) (by decide) ?_
  refine z_aload_n 0 dX3_init_4 rfl rfl ?_
  refine z_iconst (4) dX3_init_5 rfl ?_
  refine z_newa dX3_init_6 (at_int g) ac_int h.k1 rfl (by decide) (by decide) (by show _ ≤ 2; omega) (by show _ ≤ 10; omega) ?_
  refine z_no (fun k _ _ => by rw [h.k1]; exact ((DF_of (Or.inl (by omega))).trans ((hV _ _ (by omega)).trans (h.w1 k)))) ?_
  refine z_put (k := 0) (j := 1) dX3_init_8 fp3_9 (by omega) h.k0 rfl rfl ((hV _ _ (by omega)).trans h.f0) (by omega) (fun i h1 h2 => by omega) ?_
  refine z_aload_n 0 dX3_init_11 rfl rfl ?_
  refine z_bipush (6) dX3_init_12 rfl ?_
  refine z_newa dX3_init_14 (at_int g) ac_int h.k2 rfl (by decide) (by decide) (by show _ ≤ 2; omega) (by show _ ≤ 10; omega) ?_
  refine z_no (fun k _ _ => by rw [h.k2]; exact ((DF_of (Or.inl (by omega))).trans ((hV _ _ (by omega)).trans (h.w2 k)))) ?_
  refine z_put (k := 1) (j := 2) dX3_init_16 fp3_15 (by omega) h.k0 rfl rfl ((hV _ _ (by omega)).trans h.f1) (by omega) (fun i h1 h2 => by omega) ?_
  refine z_aload_n 0 dX3_init_19 rfl rfl ?_
  refine z_iconst (0) dX3_init_20 rfl ?_
  refine z_put (k := 2) (j := 3) dX3_init_21 fp3_18 (by omega) h.k0 rfl rfl ((hV _ _ (by omega)).trans h.f2) (by omega) (fun i h1 h2 => by omega) ?_
  refine z_aload_n 0 dX3_init_24 rfl rfl ?_
  refine z_iconst (0) dX3_init_25 rfl ?_
  refine z_put (k := 3) (j := 4) dX3_init_26 fp3_22 (by omega) h.k0 rfl rfl ((hV _ _ (by omega)).trans h.f3) (by omega) (fun i h1 h2 => by omega) ?_
  refine z_full h.k0 ?_
  exact z_vret dX3_init_29 rfl
set_option maxRecDepth 20000 in
theorem z_X2_init (g : GG) (V : VM) (o : Nat) (h : Z2 g o) (hV : ∀ a k, o ≤ a → V a k = VI g a k) : Ctz g yX2_init cX2_init 1 0 o (o + 1) (o + 3) 2 10 (DF o 0 V) V := by
  refine ctz_of (by decide +kernel) rfl (by decide) ?_
  refine z_aload_n 0 dX2_init_0 rfl rfl ?_
  refine z_obj dX2_init_1 ow2_3 (by decide) (by decide) ?_
  refine z_aload_n 0 dX2_init_4 rfl rfl ?_
  refine z_iconst (4) dX2_init_5 rfl ?_
  refine z_newa dX2_init_6 (at_int g) ac_int h.k1 rfl (by decide) (by decide) (by show _ ≤ 2; omega) (by show _ ≤ 10; omega) ?_
  refine z_no (fun k _ _ => by rw [h.k1]; exact ((DF_of (Or.inl (by omega))).trans ((hV _ _ (by omega)).trans (h.w1 k)))) ?_
  refine z_put (k := 0) (j := 1) dX2_init_8 fp2_9 (by omega) h.k0 rfl rfl ((hV _ _ (by omega)).trans h.f0) (by omega) (fun i h1 h2 => by omega) ?_
  refine z_aload_n 0 dX2_init_11 rfl rfl ?_
  refine z_bipush (6) dX2_init_12 rfl ?_
  refine z_newa dX2_init_14 (at_int g) ac_int h.k2 rfl (by decide) (by decide) (by show _ ≤ 2; omega) (by show _ ≤ 10; omega) ?_
  refine z_no (fun k _ _ => by rw [h.k2]; exact ((DF_of (Or.inl (by omega))).trans ((hV _ _ (by omega)).trans (h.w2 k)))) ?_
  refine z_put (k := 1) (j := 2) dX2_init_16 fp2_15 (by omega) h.k0 rfl rfl ((hV _ _ (by omega)).trans h.f1) (by omega) (fun i h1 h2 => by omega) ?_
  refine z_aload_n 0 dX2_init_19 rfl rfl ?_
  refine z_iconst (0) dX2_init_20 rfl ?_
  refine z_put (k := 2) (j := 3) dX2_init_21 fp2_18 (by omega) h.k0 rfl rfl ((hV _ _ (by omega)).trans h.f2) (by omega) (fun i h1 h2 => by omega) ?_
  refine z_aload_n 0 dX2_init_24 rfl rfl ?_
  refine z_iconst (0) dX2_init_25 rfl ?_
  refine z_put (k := 3) (j := 4) dX2_init_26 fp2_22 (by omega) h.k0 rfl rfl ((hV _ _ (by omega)).trans h.f3) (by omega) (fun i h1 h2 => by omega) ?_
  refine z_aload_n 0 dX2_init_29 rfl rfl ?_
  refine z_iconst (0) dX2_init_30 rfl ?_
  refine z_put (k := 4) (j := 5) dX2_init_31 fp2_25 (by omega) h.k0 rfl rfl ((hV _ _ (by omega)).trans h.f4) (by omega) (fun i h1 h2 => by omega) ?_
  refine z_aload_n 0 dX2_init_34 rfl rfl ?_
  refine z_iconst (0) dX2_init_35 rfl ?_
  refine z_put (k := 5) (j := 6) dX2_init_36 fp2_28 (by omega) h.k0 rfl rfl ((hV _ _ (by omega)).trans h.f5) (by omega) (fun i h1 h2 => by omega) ?_
  refine z_aload_n 0 dX2_init_39 rfl rfl ?_
  refine z_bipush (45) dX2_init_40 rfl ?_
  refine z_put (k := 6) (j := 7) dX2_init_42 fp2_31 (by omega) h.k0 rfl rfl ((hV _ _ (by omega)).trans h.f6) (by omega) (fun i h1 h2 => by omega) ?_
  refine z_full h.k0 ?_
  exact z_vret dX2_init_45 rfl
set_option maxRecDepth 20000 in
theorem z_X7_init (g : GG) (V : VM) (o : Nat) (h : Z7 g o) (hV : ∀ a k, o ≤ a → V a k = VI g a k) : Ctz g yX7_init cX7_init 1 0 o (o + 1) (o + 4) 3 1920 (DF o 0 V) V := by
  refine ctz_of (by decide +kernel) rfl (by decide) ?_
  refine z_aload_n 0 dX7_init_0 rfl rfl ?_
  refine z_obj dX7_init_1 ow7_3 (by decide) (by decide) ?_
  refine z_aload_n 0 dX7_init_4 rfl rfl ?_
  refine z_sipush (1440) dX7_init_5 rfl ?_
  refine z_newa dX7_init_8 (at_int g) ac_int h.k1 rfl (by decide) (by decide) (by show _ ≤ 3; omega) (by show _ ≤ 1920; omega) ?_
  refine z_no (fun k _ _ => by rw [h.k1]; exact ((DF_of (Or.inl (by omega))).trans ((hV _ _ (by omega)).trans (h.w1 k)))) ?_
  refine z_put (k := 0) (j := 1) dX7_init_10 fp7_9 (by omega) h.k0 rfl rfl ((hV _ _ (by omega)).trans h.f0) (by omega) (fun i h1 h2 => by omega) ?_
  refine z_aload_n 0 dX7_init_13 rfl rfl ?_
  refine z_sipush (240) dX7_init_14 rfl ?_
  refine z_newa dX7_init_17 (at_int g) ac_int h.k2 rfl (by decide) (by decide) (by show _ ≤ 3; omega) (by show _ ≤ 1920; omega) ?_
  refine z_no (fun k _ _ => by rw [h.k2]; exact ((DF_of (Or.inl (by omega))).trans ((hV _ _ (by omega)).trans (h.w2 k)))) ?_
  refine z_put (k := 1) (j := 2) dX7_init_19 fp7_15 (by omega) h.k0 rfl rfl ((hV _ _ (by omega)).trans h.f1) (by omega) (fun i h1 h2 => by omega) ?_
  refine z_aload_n 0 dX7_init_22 rfl rfl ?_
  refine z_sipush (240) dX7_init_23 rfl ?_
  refine z_newa dX7_init_26 (at_int g) ac_int h.k3 rfl (by decide) (by decide) (by show _ ≤ 3; omega) (by show _ ≤ 1920; omega) ?_
  refine z_no (fun k _ _ => by rw [h.k3]; exact ((DF_of (Or.inl (by omega))).trans ((hV _ _ (by omega)).trans (h.w3 k)))) ?_
  refine z_put (k := 2) (j := 3) dX7_init_28 fp7_18 (by omega) h.k0 rfl rfl ((hV _ _ (by omega)).trans h.f2) (by omega) (fun i h1 h2 => by omega) ?_
  refine z_aload_n 0 dX7_init_31 rfl rfl ?_
  refine z_iconst (0) dX7_init_32 rfl ?_
  refine z_put (k := 3) (j := 4) dX7_init_33 fp7_21 (by omega) h.k0 rfl rfl ((hV _ _ (by omega)).trans h.f3) (by omega) (fun i h1 h2 => by omega) ?_
  refine z_full h.k0 ?_
  exact z_vret dX7_init_36 rfl
set_option maxRecDepth 20000 in
theorem z_X1_init (g : GG) (V : VM) (o : Nat) (h : Z1 g o) (hV : ∀ a k, o ≤ a → V a k = VI g a k) : Ctz g yX1_init cX1_init 1 0 o (o + 1) (o + 7) 6 112 (DF o 0 V) V := by
  refine ctz_of (by decide +kernel) rfl (by decide) ?_
  refine z_aload_n 0 dX1_init_0 rfl rfl ?_
  refine z_obj dX1_init_1 ow1_3 (by decide) (by decide) ?_
  refine z_aload_n 0 dX1_init_4 rfl rfl ?_
  refine z_bipush (40) dX1_init_5 rfl ?_
  refine z_newa dX1_init_7 (at_int g) ac_int h.k1 rfl (by decide) (by decide) (by show _ ≤ 6; omega) (by show _ ≤ 112; omega) ?_
  refine z_no (fun k _ _ => by rw [h.k1]; exact ((DF_of (Or.inl (by omega))).trans ((hV _ _ (by omega)).trans (h.w1 k)))) ?_
  refine z_put (k := 0) (j := 1) dX1_init_9 fp1_9 (by omega) h.k0 rfl rfl ((hV _ _ (by omega)).trans h.f0) (by omega) (fun i h1 h2 => by omega) ?_
  refine z_aload_n 0 dX1_init_12 rfl rfl ?_
  refine z_bipush (40) dX1_init_13 rfl ?_
  refine z_newa dX1_init_15 (at_int g) ac_int h.k2 rfl (by decide) (by decide) (by show _ ≤ 6; omega) (by show _ ≤ 112; omega) ?_
  refine z_no (fun k _ _ => by rw [h.k2]; exact ((DF_of (Or.inl (by omega))).trans ((hV _ _ (by omega)).trans (h.w2 k)))) ?_
  refine z_put (k := 1) (j := 2) dX1_init_17 fp1_15 (by omega) h.k0 rfl rfl ((hV _ _ (by omega)).trans h.f1) (by omega) (fun i h1 h2 => by omega) ?_
  refine z_aload_n 0 dX1_init_20 rfl rfl ?_
  refine z_bipush (8) dX1_init_21 rfl ?_
  refine z_newa dX1_init_23 (at_int g) ac_int h.k3 rfl (by decide) (by decide) (by show _ ≤ 6; omega) (by show _ ≤ 112; omega) ?_
  refine z_no (fun k _ _ => by rw [h.k3]; exact ((DF_of (Or.inl (by omega))).trans ((hV _ _ (by omega)).trans (h.w3 k)))) ?_
  refine z_put (k := 2) (j := 3) dX1_init_25 fp1_18 (by omega) h.k0 rfl rfl ((hV _ _ (by omega)).trans h.f2) (by omega) (fun i h1 h2 => by omega) ?_
  refine z_aload_n 0 dX1_init_28 rfl rfl ?_
  refine z_bipush (8) dX1_init_29 rfl ?_
  refine z_newa dX1_init_31 (at_int g) ac_int h.k4 rfl (by decide) (by decide) (by show _ ≤ 6; omega) (by show _ ≤ 112; omega) ?_
  refine z_no (fun k _ _ => by rw [h.k4]; exact ((DF_of (Or.inl (by omega))).trans ((hV _ _ (by omega)).trans (h.w4 k)))) ?_
  refine z_put (k := 3) (j := 4) dX1_init_33 fp1_21 (by omega) h.k0 rfl rfl ((hV _ _ (by omega)).trans h.f3) (by omega) (fun i h1 h2 => by omega) ?_
  refine z_aload_n 0 dX1_init_36 rfl rfl ?_
  refine z_bipush (8) dX1_init_37 rfl ?_
  refine z_newa dX1_init_39 (at_int g) ac_int h.k5 rfl (by decide) (by decide) (by show _ ≤ 6; omega) (by show _ ≤ 112; omega) ?_
  refine z_no (fun k _ _ => by rw [h.k5]; exact ((DF_of (Or.inl (by omega))).trans ((hV _ _ (by omega)).trans (h.w5 k)))) ?_
  refine z_put (k := 4) (j := 5) dX1_init_41 fp1_24 (by omega) h.k0 rfl rfl ((hV _ _ (by omega)).trans h.f4) (by omega) (fun i h1 h2 => by omega) ?_
  refine z_aload_n 0 dX1_init_44 rfl rfl ?_
  refine z_bipush (8) dX1_init_45 rfl ?_
  refine z_newa dX1_init_47 (at_int g) ac_int h.k6 rfl (by decide) (by decide) (by show _ ≤ 6; omega) (by show _ ≤ 112; omega) ?_
  refine z_no (fun k _ _ => by rw [h.k6]; exact ((DF_of (Or.inl (by omega))).trans ((hV _ _ (by omega)).trans (h.w6 k)))) ?_
  refine z_put (k := 5) (j := 6) dX1_init_49 fp1_27 (by omega) h.k0 rfl rfl ((hV _ _ (by omega)).trans h.f5) (by omega) (fun i h1 h2 => by omega) ?_
  refine z_aload_n 0 dX1_init_52 rfl rfl ?_
  refine z_iconst (0) dX1_init_53 rfl ?_
  refine z_put (k := 6) (j := 7) dX1_init_54 fp1_30 (by omega) h.k0 rfl rfl ((hV _ _ (by omega)).trans h.f6) (by omega) (fun i h1 h2 => by omega) ?_
  refine z_full h.k0 ?_
  exact z_vret dX1_init_57 rfl
set_option maxRecDepth 20000 in
theorem z_X0_init (g : GG) (V : VM) (o : Nat) (h : Z0 g o) (hV : ∀ a k, o ≤ a → V a k = VI g a k) : Ctz g yX0_init cX0_init 2 0 o (o + 1) (o + 10) 9 216 (DF o 0 V) V := by
  refine ctz_of (by decide +kernel) rfl (by decide) ?_
  refine z_aload_n 0 dX0_init_0 rfl rfl ?_
  refine z_obj dX0_init_1 ow0_3 (by decide) (by decide) ?_
  refine z_aload_n 0 dX0_init_4 rfl rfl ?_
  refine z_bipush (40) dX0_init_5 rfl ?_
  refine z_newa dX0_init_7 (at_char g) ac_char h.k1 rfl (by decide) (by decide) (by show _ ≤ 9; omega) (by show _ ≤ 216; omega) ?_
  refine z_sw (by omega) ?_
  refine z_put (k := 0) (j := 1) dX0_init_9 fp0_9 (by omega) h.k0 rfl rfl ((DF_of (Or.inl (by omega))).trans ((hV _ _ (by omega)).trans h.f0)) (by omega) (fun i h1 h2 => by omega) ?_
  refine z_aload_n 0 dX0_init_12 rfl rfl ?_
  refine z_iconst (4) dX0_init_13 rfl ?_
  refine z_bipush (40) dX0_init_14 rfl ?_
  refine z_mnew dX0_init_16 ck0_15 ac_int h.k2 h.k3 (fun k hk => ((DF_of (Or.inl (by omega))).trans ((DF_of (Or.inl (by omega))).trans ((hV _ _ (by omega)).trans (h.w2 k hk))))) (fun j k h1 h2 hk => ((DF_of (Or.inl (by omega))).trans ((DF_of (Or.inl (by omega))).trans ((hV _ _ (by omega)).trans (h.w3 j k h1 h2))))) (by show _ ≤ 9; omega) (by show _ ≤ 216; omega) ?_
  refine z_put (k := 1) (j := 2) dX0_init_20 fp0_17 (by omega) h.k0 rfl rfl ((DF_of (Or.inl (by omega))).trans ((hV _ _ (by omega)).trans h.f1)) (by omega) (fun i h1 h2 => by omega) ?_
  refine z_aload_n 0 dX0_init_23 rfl rfl ?_
  refine z_iconst (4) dX0_init_24 rfl ?_
  refine z_newa dX0_init_25 (at_int g) ac_int h.k7 rfl (by decide) (by decide) (by show _ ≤ 9; omega) (by show _ ≤ 216; omega) ?_
  refine z_no (fun k _ _ => by rw [h.k7]; exact ((DF_of (Or.inl (by omega))).trans ((DF_of (Or.inl (by omega))).trans ((hV _ _ (by omega)).trans (h.w7 k))))) ?_
  refine z_put (k := 2) (j := 3) dX0_init_27 fp0_20 (by omega) h.k0 rfl rfl ((DF_of (Or.inl (by omega))).trans ((hV _ _ (by omega)).trans h.f2)) (by omega) (fun i h1 h2 => by omega) ?_
  refine z_aload_n 0 dX0_init_30 rfl rfl ?_
  refine z_iconst (4) dX0_init_31 rfl ?_
  refine z_newa dX0_init_32 (at_int g) ac_int h.k8 rfl (by decide) (by decide) (by show _ ≤ 9; omega) (by show _ ≤ 216; omega) ?_
  refine z_no (fun k _ _ => by rw [h.k8]; exact ((DF_of (Or.inl (by omega))).trans ((DF_of (Or.inl (by omega))).trans ((hV _ _ (by omega)).trans (h.w8 k))))) ?_
  refine z_put (k := 3) (j := 4) dX0_init_34 fp0_24 (by omega) h.k0 rfl rfl ((DF_of (Or.inl (by omega))).trans ((hV _ _ (by omega)).trans h.f3)) (by omega) (fun i h1 h2 => by omega) ?_
  refine z_aload_n 0 dX0_init_37 rfl rfl ?_
  refine z_iconst (4) dX0_init_38 rfl ?_
  refine z_newa dX0_init_39 (at_int g) ac_int h.k9 rfl (by decide) (by decide) (by show _ ≤ 9; omega) (by show _ ≤ 216; omega) ?_
  refine z_no (fun k _ _ => by rw [h.k9]; exact ((DF_of (Or.inl (by omega))).trans ((DF_of (Or.inl (by omega))).trans ((hV _ _ (by omega)).trans (h.w9 k))))) ?_
  refine z_put (k := 4) (j := 5) dX0_init_41 fp0_27 (by omega) h.k0 rfl rfl ((DF_of (Or.inl (by omega))).trans ((hV _ _ (by omega)).trans h.f4)) (by omega) (fun i h1 h2 => by omega) ?_
  refine z_aload_n 0 dX0_init_44 rfl rfl ?_
  refine z_iconst (0) dX0_init_45 rfl ?_
  refine z_put (k := 5) (j := 6) dX0_init_46 fp0_30 (by omega) h.k0 rfl rfl ((DF_of (Or.inl (by omega))).trans ((hV _ _ (by omega)).trans h.f5)) (by omega) (fun i h1 h2 => by omega) ?_
  refine z_full h.k0 ?_
  refine z_iconst (0) dX0_init_49 rfl ?_
  refine z_istore_n (lv' := [(1, iv ((0 : Nat) : Int)), (0, rf g o)]) dX0_init_50 rfl (Nat.le_of_ble_eq_true rfl) rfl ?_
  have loop51 : ∀ (m i : Nat), i ≤ 40 → 40 < i + m → Okz g (cX0_init, RX0, 2, none) (rmz 0 9 216) (FZ g (o + 10) V 9 216) 51 [(1, iv (i : Int)), (0, rf g o)] [] (o + 10) (DF (o + 1) i V) (((((0 + 1) + 5) + 1) + 1) + 1) (((((0 + 40) + 164) + 4) + 4) + 4) := by
    intro m
    induction m with
    | zero => intro i h1 h2; omega
    | succ m ih =>
      intro i hi hm
      refine z_iload_n 0 dX0_init_51 rfl rfl ?_
      refine z_bipush (40) dX0_init_52 rfl ?_
      refine z_icmp_ge (tgt := 71) dX0_init_54 (by decide) ⟨by omega, by omega⟩ ⟨by omega, by omega⟩ (fun hc => ?_) (fun hc => ?_)
      · have e9 : i = 40 := by omega
        subst e9
        refine z_full h.k1 ?_
        exact z_vret dX0_init_71 rfl
      · skip
        refine z_aload_n 1 dX0_init_57 rfl rfl ?_
        refine z_get dX0_init_58 fl0_9 (by omega) h.k0 ((DF_of (Or.inl (by omega))).trans ((hV _ _ (by omega)).trans h.f0)) ?_
        refine z_iload_n 0 dX0_init_61 rfl rfl ?_
        refine z_bipush (45) dX0_init_62 rfl ?_
        refine z_cast dX0_init_64 (by omega) h.k1 (by omega) rfl (by decide) (by omega) (by omega) ((hV _ _ (by omega)).trans (h.w1 i)) ?_
        refine z_iinc1 (lv' := [(1, iv ((i + 1 : Nat) : Int)), (0, rf g o)]) 0 dX0_init_65 rfl (Nat.le_of_ble_eq_true rfl) rfl ?_
        refine z_goto (tgt := 51) dX0_init_68 (by decide) ?_
        exact z_k (by omega) (by omega) (by omega) (ih (i + 1) (by omega) (by omega))
  exact z_k (by omega) (by omega) (by omega) (loop51 41 0 (by omega) (by omega))
set_option maxRecDepth 20000 in
theorem z_X4_init (g : GG) (V : VM) (o : Nat) (h : Z4 g o) (hV : ∀ a k, o ≤ a → V a k = VI g a k) : Ctz g yX4_init cX4_init 2 1 o (o + 1) (o + 20) 19 90 (DF o 0 V) V := by
  refine ctz_of (by decide +kernel) rfl (by decide) ?_
  refine z_aload_n 0 dX4_init_0 rfl rfl ?_
  refine z_obj dX4_init_1 ow4_3 (by decide) (by decide) ?_
  refine z_aload_n 0 dX4_init_4 rfl rfl ?_
  refine z_bipush (6) dX4_init_5 rfl ?_
  refine z_anew dX4_init_7 (rt_32 g) ck4_9 h.k1 rfl (by decide) (by show _ ≤ 19; omega) (by show _ ≤ 90; omega) ?_
  refine z_sw (by omega) ?_
  refine z_put (k := 0) (j := 1) dX4_init_10 fp4_11 (by omega) h.k0 rfl rfl ((DF_of (Or.inl (by omega))).trans ((hV _ _ (by omega)).trans h.f0)) (by omega) (fun i h1 h2 => by omega) ?_
  refine z_aload_n 0 dX4_init_13 rfl rfl ?_
  refine z_iconst (0) dX4_init_14 rfl ?_
  refine z_put (k := 1) (j := 2) dX4_init_15 fp4_17 (by omega) h.k0 rfl rfl ((DF_of (Or.inl (by omega))).trans ((hV _ _ (by omega)).trans h.f1)) (by omega) (fun i h1 h2 => by omega) ?_
  refine z_aload_n 0 dX4_init_18 rfl rfl ?_
  refine z_iconst (1) dX4_init_19 rfl ?_
  refine z_put (k := 2) (j := 3) dX4_init_20 fp4_21 (by omega) h.k0 rfl rfl ((DF_of (Or.inl (by omega))).trans ((hV _ _ (by omega)).trans h.f2)) (by omega) (fun i h1 h2 => by omega) ?_
  refine z_aload_n 0 dX4_init_23 rfl rfl ?_
  refine z_iconst (0) dX4_init_24 rfl ?_
  refine z_put (k := 3) (j := 4) dX4_init_25 fp4_24 (by omega) h.k0 rfl rfl ((DF_of (Or.inl (by omega))).trans ((hV _ _ (by omega)).trans h.f3)) (by omega) (fun i h1 h2 => by omega) ?_
  refine z_full h.k0 ?_
  refine z_iconst (0) dX4_init_28 rfl ?_
  refine z_istore_n (lv' := [(1, iv ((0 : Nat) : Int)), (0, rf g o)]) dX4_init_29 rfl (Nat.le_of_ble_eq_true rfl) rfl ?_
  have loop30 : ∀ (m i : Nat), i ≤ 6 → 6 < i + m → Okz g (cX4_init, RX4, 2, none) (rmz 1 19 90) (FZ g (o + 20) V 19 90) 30 [(1, iv (i : Int)), (0, rf g o)] [] ((o + 2) + 3 * i) (DF (o + 1) i V) ((0 + 1) + 3 * i) ((0 + 6) + 14 * i) := by
    intro m
    induction m with
    | zero => intro i h1 h2; omega
    | succ m ih =>
      intro i hi hm
      refine z_iload_n 0 dX4_init_30 rfl rfl ?_
      refine z_bipush (6) dX4_init_31 rfl ?_
      refine z_icmp_ge (tgt := 55) dX4_init_33 (by decide) ⟨by omega, by omega⟩ ⟨by omega, by omega⟩ (fun hc => ?_) (fun hc => ?_)
      · have e9 : i = 6 := by omega
        subst e9
        refine z_full h.k1 ?_
        exact z_vret dX4_init_55 rfl
      · skip
        refine z_aload_n 1 dX4_init_36 rfl rfl ?_
        refine z_get dX4_init_37 fl4_11 (by omega) h.k0 ((DF_of (Or.inl (by omega))).trans ((hV _ _ (by omega)).trans h.f0)) ?_
        refine z_iload_n 0 dX4_init_40 rfl rfl ?_
        refine z_new dX4_init_41 nwX4_9 (h.z i (by omega)).k0 (by show _ ≤ 19; omega) (by show _ ≤ 90; omega) ?_
        refine z_dup dX4_init_44 rfl ?_
        refine z_initN dX4_init_45 ilX4_27 (z_X3_init g (DF (o + 1) i V) ((o + 2) + 3 * i) (h.z i (by omega)) (fun a k ha => ((DF_of (Or.inl (by omega))).trans (hV a k (by omega))))) (Nat.le_of_ble_eq_true rfl) ⟨Nat.le_of_ble_eq_true rfl, Nat.le_of_ble_eq_true rfl⟩ (by show _ ≤ 19; omega) (by show _ ≤ 90; omega) ?_
        refine z_aast dX4_init_48 (rt_32 g) rfl (by omega) h.k1 (by omega) (by omega) (h.z i (by omega)).k0 (by omega) rfl (by decide) ((hV _ _ (by omega)).trans (h.w1 i (by omega))) ?_
        refine z_iinc1 (lv' := [(1, iv ((i + 1 : Nat) : Int)), (0, rf g o)]) 0 dX4_init_49 rfl (Nat.le_of_ble_eq_true rfl) rfl ?_
        refine z_goto (tgt := 30) dX4_init_52 (by decide) ?_
        exact z_k (by omega) (by omega) (by omega) (ih (i + 1) (by omega) (by omega))
  exact z_k (by omega) (by omega) (by omega) (loop30 7 0 (by omega) (by omega))
set_option maxRecDepth 20000 in
theorem z_X6_init (g : GG) (V : VM) (o : Nat) (h : Z6 g o) (hV : ∀ a k, o ≤ a → V a k = VI g a k) : Ctz g yX6_init cX6_init 2 1 o (o + 1) (o + 8) 7 82 (DF o 0 V) V := by
  refine ctz_of (by decide +kernel) rfl (by decide) ?_
  refine z_aload_n 0 dX6_init_0 rfl rfl ?_
  refine z_obj dX6_init_1 ow6_3 (by decide) (by decide) ?_
  refine z_aload_n 0 dX6_init_4 rfl rfl ?_
  refine z_new dX6_init_5 nwX6_9 h.z.k0 (by show _ ≤ 7; omega) (by show _ ≤ 82; omega) ?_
  refine z_dup dX6_init_8 rfl ?_
  refine z_initN dX6_init_9 ilX6_11 (z_X5_init g (DF o 0 V) (o + 1) h.z (fun a k ha => ((DF_of (Or.inl (by omega))).trans (hV a k (by omega))))) (Nat.le_of_ble_eq_true rfl) ⟨Nat.le_of_ble_eq_true rfl, Nat.le_of_ble_eq_true rfl⟩ (by show _ ≤ 7; omega) (by show _ ≤ 82; omega) ?_
  refine z_put (k := 0) (j := 1) dX6_init_12 fp6_12 (by omega) h.k0 rfl rfl ((hV _ _ (by omega)).trans h.f0) (by omega) (fun i h1 h2 => by omega) ?_
  refine z_aload_n 0 dX6_init_15 rfl rfl ?_
  refine z_bipush (6) dX6_init_16 rfl ?_
  refine z_newa dX6_init_18 (at_char g) ac_char h.k5 rfl (by decide) (by decide) (by show _ ≤ 7; omega) (by show _ ≤ 82; omega) ?_
  refine z_no (fun k _ _ => by rw [h.k5]; exact ((DF_of (Or.inl (by omega))).trans ((hV _ _ (by omega)).trans (h.w5 k)))) ?_
  refine z_put (k := 1) (j := 2) dX6_init_20 fp6_18 (by omega) h.k0 rfl rfl ((hV _ _ (by omega)).trans h.f1) (by omega) (fun i h1 h2 => by omega) ?_
  refine z_aload_n 0 dX6_init_23 rfl rfl ?_
  refine z_bipush (6) dX6_init_24 rfl ?_
  refine z_newa dX6_init_26 (at_int g) ac_int h.k6 rfl (by decide) (by decide) (by show _ ≤ 7; omega) (by show _ ≤ 82; omega) ?_
  refine z_no (fun k _ _ => by rw [h.k6]; exact ((DF_of (Or.inl (by omega))).trans ((hV _ _ (by omega)).trans (h.w6 k)))) ?_
  refine z_put (k := 2) (j := 3) dX6_init_28 fp6_22 (by omega) h.k0 rfl rfl ((hV _ _ (by omega)).trans h.f2) (by omega) (fun i h1 h2 => by omega) ?_
  refine z_aload_n 0 dX6_init_31 rfl rfl ?_
  refine z_bipush (6) dX6_init_32 rfl ?_
  refine z_newa dX6_init_34 (at_int g) ac_int h.k7 rfl (by decide) (by decide) (by show _ ≤ 7; omega) (by show _ ≤ 82; omega) ?_
  refine z_sw (by omega) ?_
  refine z_put (k := 3) (j := 4) dX6_init_36 fp6_26 (by omega) h.k0 rfl rfl ((DF_of (Or.inl (by omega))).trans ((hV _ _ (by omega)).trans h.f3)) (by omega) (fun i h1 h2 => by omega) ?_
  refine z_aload_n 0 dX6_init_39 rfl rfl ?_
  refine z_iconst (0) dX6_init_40 rfl ?_
  refine z_put (k := 4) (j := 5) dX6_init_41 fp6_29 (by omega) h.k0 rfl rfl ((DF_of (Or.inl (by omega))).trans ((hV _ _ (by omega)).trans h.f4)) (by omega) (fun i h1 h2 => by omega) ?_
  refine z_aload_n 0 dX6_init_44 rfl rfl ?_
  refine z_iconst (0) dX6_init_45 rfl ?_
  refine z_put (k := 5) (j := 6) dX6_init_46 fp6_33 (by omega) h.k0 rfl rfl ((DF_of (Or.inl (by omega))).trans ((hV _ _ (by omega)).trans h.f5)) (by omega) (fun i h1 h2 => by omega) ?_
  refine z_aload_n 0 dX6_init_49 rfl rfl ?_
  refine z_iconst (0) dX6_init_50 rfl ?_
  refine z_put (k := 6) (j := 7) dX6_init_51 fp6_36 (by omega) h.k0 rfl rfl ((DF_of (Or.inl (by omega))).trans ((hV _ _ (by omega)).trans h.f6)) (by omega) (fun i h1 h2 => by omega) ?_
  refine z_aload_n 0 dX6_init_54 rfl rfl ?_
  refine z_iconst (0) dX6_init_55 rfl ?_
  refine z_put (k := 7) (j := 8) dX6_init_56 fp6_39 (by omega) h.k0 rfl rfl ((DF_of (Or.inl (by omega))).trans ((hV _ _ (by omega)).trans h.f7)) (by omega) (fun i h1 h2 => by omega) ?_
  refine z_aload_n 0 dX6_init_59 rfl rfl ?_
  refine z_bipush (97) dX6_init_60 rfl ?_
  refine z_put (k := 8) (j := 9) dX6_init_62 fp6_43 (by omega) h.k0 rfl rfl ((DF_of (Or.inl (by omega))).trans ((hV _ _ (by omega)).trans h.f8)) (by omega) (fun i h1 h2 => by omega) ?_
  refine z_aload_n 0 dX6_init_65 rfl rfl ?_
  refine z_iconst (-1) dX6_init_66 rfl ?_
  refine z_put (k := 9) (j := 10) dX6_init_67 fp6_47 (by omega) h.k0 rfl rfl ((DF_of (Or.inl (by omega))).trans ((hV _ _ (by omega)).trans h.f9)) (by omega) (fun i h1 h2 => by omega) ?_
  refine z_full h.k0 ?_
  refine z_iconst (0) dX6_init_70 rfl ?_
  refine z_istore_n (lv' := [(1, iv ((0 : Nat) : Int)), (0, rf g o)]) dX6_init_71 rfl (Nat.le_of_ble_eq_true rfl) rfl ?_
  have loop72 : ∀ (m i : Nat), i ≤ 6 → 6 < i + m → Okz g (cX6_init, RX6, 2, none) (rmz 1 7 82) (FZ g (o + 8) V 7 82) 72 [(1, iv (i : Int)), (0, rf g o)] [] (o + 8) (DF (o + 7) i V) (((((0 + 1) + 3) + 1) + 1) + 1) (((((0 + 4) + 60) + 6) + 6) + 6) := by
    intro m
    induction m with
    | zero => intro i h1 h2; omega
    | succ m ih =>
      intro i hi hm
      refine z_iload_n 0 dX6_init_72 rfl rfl ?_
      refine z_bipush (6) dX6_init_73 rfl ?_
      refine z_icmp_ge (tgt := 91) dX6_init_75 (by decide) ⟨by omega, by omega⟩ ⟨by omega, by omega⟩ (fun hc => ?_) (fun hc => ?_)
      · have e9 : i = 6 := by omega
        subst e9
        refine z_full h.k7 ?_
        exact z_vret dX6_init_91 rfl
      · skip
        refine z_aload_n 1 dX6_init_78 rfl rfl ?_
        refine z_get dX6_init_79 fl6_26 (by omega) h.k0 ((DF_of (Or.inl (by omega))).trans ((hV _ _ (by omega)).trans h.f3)) ?_
        refine z_iload_n 0 dX6_init_82 rfl rfl ?_
        refine z_iconst (-1) dX6_init_83 rfl ?_
        refine z_iast dX6_init_84 (by omega) h.k7 (by omega) rfl (by decide) ((hV _ _ (by omega)).trans (h.w7 i)) ?_
        refine z_iinc1 (lv' := [(1, iv ((i + 1 : Nat) : Int)), (0, rf g o)]) 0 dX6_init_85 rfl (Nat.le_of_ble_eq_true rfl) rfl ?_
        refine z_goto (tgt := 72) dX6_init_88 (by decide) ?_
        exact z_k (by omega) (by omega) (by omega) (ih (i + 1) (by omega) (by omega))
  exact z_k (by omega) (by omega) (by omega) (loop72 7 0 (by omega) (by omega))
set_option maxRecDepth 20000 in
theorem z_X8_init (g : GG) (V : VM) (hV : ∀ a k, 0 ≤ a → V a k = VI g a k) : Ctz g yX8_init cX8_init 2 2 0 1 468 467 6793 (DF 0 0 V) V := by
  refine ctz_of (by decide +kernel) rfl (by decide) ?_
  refine z_aload_n 0 dX8_init_0 rfl rfl ?_
  refine z_obj dX8_init_1 ow8_3 (by decide) (by decide) ?_
  refine z_aload_n 0 dX8_init_4 rfl rfl ?_
  refine z_new dX8_init_5 nwX8_9 (z5_1 g).k0 (by show _ ≤ 467; omega) (by show _ ≤ 6793; omega) ?_
  refine z_dup dX8_init_8 rfl ?_
  refine z_initN dX8_init_9 ilX8_11 (z_X5_init g (DF 0 0 V) 1 (z5_1 g) (fun a k ha => ((DF_of (Or.inl (by omega))).trans (hV a k (by omega))))) (Nat.le_of_ble_eq_true rfl) ⟨Nat.le_of_ble_eq_true rfl, Nat.le_of_ble_eq_true rfl⟩ (by show _ ≤ 467; omega) (by show _ ≤ 6793; omega) ?_
  refine z_put (k := 0) (j := 1) dX8_init_12 fp8_12 (by omega) (rfl : kdN 0 = (8, 14)) rfl rfl ((hV _ _ (by omega)).trans (q8_0 g)) (by omega) (fun i h1 h2 => by omega) ?_
  refine z_aload_n 0 dX8_init_15 rfl rfl ?_
  refine z_new dX8_init_16 nwX8_16 (z3_5 g).k0 (by show _ ≤ 467; omega) (by show _ ≤ 6793; omega) ?_
  refine z_dup dX8_init_19 rfl ?_
  refine z_initN dX8_init_20 ilX8_18 (z_X3_init g (DF 0 1 V) 5 (z3_5 g) (fun a k ha => ((DF_of (Or.inl (by omega))).trans (hV a k (by omega))))) (Nat.le_of_ble_eq_true rfl) ⟨Nat.le_of_ble_eq_true rfl, Nat.le_of_ble_eq_true rfl⟩ (by show _ ≤ 467; omega) (by show _ ≤ 6793; omega) ?_
  refine z_put (k := 1) (j := 2) dX8_init_23 fp8_19 (by omega) (rfl : kdN 0 = (8, 14)) rfl rfl ((hV _ _ (by omega)).trans (q8_1 g)) (by omega) (fun i h1 h2 => by omega) ?_
  refine z_aload_n 0 dX8_init_26 rfl rfl ?_
  refine z_iconst (5) dX8_init_27 rfl ?_
  refine z_anew dX8_init_28 (rt_30 g) ck8_23 (rfl : kdN 8 = (30, 5)) rfl (by decide) (by show _ ≤ 467; omega) (by show _ ≤ 6793; omega) ?_
  refine z_sw (by omega) ?_
  refine z_put (k := 2) (j := 3) dX8_init_31 fp8_25 (by omega) (rfl : kdN 0 = (8, 14)) rfl rfl ((DF_of (Or.inl (by omega))).trans ((hV _ _ (by omega)).trans (q8_2 g))) (by omega) (fun i h1 h2 => by omega) ?_
  refine z_aload_n 0 dX8_init_34 rfl rfl ?_
  refine z_bipush (40) dX8_init_35 rfl ?_
  refine z_anew dX8_init_37 (rt_31 g) ck8_29 (rfl : kdN 9 = (31, 40)) rfl (by decide) (by show _ ≤ 467; omega) (by show _ ≤ 6793; omega) ?_
  refine z_sw (by omega) ?_
  refine z_put (k := 3) (j := 4) dX8_init_40 fp8_31 (by omega) (rfl : kdN 0 = (8, 14)) rfl rfl ((DF_of (Or.inl (by omega))).trans ((DF_of (Or.inl (by omega))).trans ((hV _ _ (by omega)).trans (q8_3 g)))) (by omega) (fun i h1 h2 => by omega) ?_
  refine z_aload_n 0 dX8_init_43 rfl rfl ?_
  refine z_new dX8_init_44 nwX8_35 (z2_10 g).k0 (by show _ ≤ 467; omega) (by show _ ≤ 6793; omega) ?_
  refine z_dup dX8_init_47 rfl ?_
  refine z_initN dX8_init_48 ilX8_37 (z_X2_init g (DF 0 4 (DF 9 0 (DF 8 0 V))) 10 (z2_10 g) (fun a k ha => ((DF_of (Or.inl (by omega))).trans ((DF_of (Or.inl (by omega))).trans ((DF_of (Or.inl (by omega))).trans (hV a k (by omega))))))) (Nat.le_of_ble_eq_true rfl) ⟨Nat.le_of_ble_eq_true rfl, Nat.le_of_ble_eq_true rfl⟩ (by show _ ≤ 467; omega) (by show _ ≤ 6793; omega) ?_
  refine z_put (k := 4) (j := 5) dX8_init_51 fp8_38 (by omega) (rfl : kdN 0 = (8, 14)) rfl rfl ((DF_of (Or.inl (by omega))).trans ((DF_of (Or.inl (by omega))).trans ((hV _ _ (by omega)).trans (q8_4 g)))) (by omega) (fun i h1 h2 => by omega) ?_
  refine z_aload_n 0 dX8_init_54 rfl rfl ?_
  refine z_new dX8_init_55 nwX8_42 (z7_13 g).k0 (by show _ ≤ 467; omega) (by show _ ≤ 6793; omega) ?_
  refine z_dup dX8_init_58 rfl ?_
  refine z_initN dX8_init_59 ilX8_44 (z_X7_init g (DF 0 5 (DF 9 0 (DF 8 0 V))) 13 (z7_13 g) (fun a k ha => ((DF_of (Or.inl (by omega))).trans ((DF_of (Or.inl (by omega))).trans ((DF_of (Or.inl (by omega))).trans (hV a k (by omega))))))) (Nat.le_of_ble_eq_true rfl) ⟨Nat.le_of_ble_eq_true rfl, Nat.le_of_ble_eq_true rfl⟩ (by show _ ≤ 467; omega) (by show _ ≤ 6793; omega) ?_
  refine z_put (k := 5) (j := 6) dX8_init_62 fp8_45 (by omega) (rfl : kdN 0 = (8, 14)) rfl rfl ((DF_of (Or.inl (by omega))).trans ((DF_of (Or.inl (by omega))).trans ((hV _ _ (by omega)).trans (q8_5 g)))) (by omega) (fun i h1 h2 => by omega) ?_
  refine z_aload_n 0 dX8_init_65 rfl rfl ?_
  refine z_new dX8_init_66 nwX8_49 (z0_17 g).k0 (by show _ ≤ 467; omega) (by show _ ≤ 6793; omega) ?_
  refine z_dup dX8_init_69 rfl ?_
  refine z_init dX8_init_70 ilX8_51 (z_X0_init g (DF 0 6 (DF 9 0 (DF 8 0 V))) 17 (z0_17 g) (fun a k ha => ((DF_of (Or.inl (by omega))).trans ((DF_of (Or.inl (by omega))).trans ((DF_of (Or.inl (by omega))).trans (hV a k (by omega))))))) (Nat.le_of_ble_eq_true rfl) ⟨Nat.le_of_ble_eq_true rfl, Nat.le_of_ble_eq_true rfl⟩ (by show _ ≤ 467; omega) (by show _ ≤ 6793; omega) ?_
  refine z_put (k := 6) (j := 7) dX8_init_73 fp8_52 (by omega) (rfl : kdN 0 = (8, 14)) rfl rfl ((DF_of (Or.inl (by omega))).trans ((DF_of (Or.inl (by omega))).trans ((hV _ _ (by omega)).trans (q8_6 g)))) (by omega) (fun i h1 h2 => by omega) ?_
  refine z_aload_n 0 dX8_init_76 rfl rfl ?_
  refine z_new dX8_init_77 nwX8_56 (z1_27 g).k0 (by show _ ≤ 467; omega) (by show _ ≤ 6793; omega) ?_
  refine z_dup dX8_init_80 rfl ?_
  refine z_initN dX8_init_81 ilX8_58 (z_X1_init g (DF 0 7 (DF 9 0 (DF 8 0 V))) 27 (z1_27 g) (fun a k ha => ((DF_of (Or.inl (by omega))).trans ((DF_of (Or.inl (by omega))).trans ((DF_of (Or.inl (by omega))).trans (hV a k (by omega))))))) (Nat.le_of_ble_eq_true rfl) ⟨Nat.le_of_ble_eq_true rfl, Nat.le_of_ble_eq_true rfl⟩ (by show _ ≤ 467; omega) (by show _ ≤ 6793; omega) ?_
  refine z_put (k := 7) (j := 8) dX8_init_84 fp8_59 (by omega) (rfl : kdN 0 = (8, 14)) rfl rfl ((DF_of (Or.inl (by omega))).trans ((DF_of (Or.inl (by omega))).trans ((hV _ _ (by omega)).trans (q8_7 g)))) (by omega) (fun i h1 h2 => by omega) ?_
  refine z_aload_n 0 dX8_init_87 rfl rfl ?_
  refine z_new dX8_init_88 nwX8_56 (z1_34 g).k0 (by show _ ≤ 467; omega) (by show _ ≤ 6793; omega) ?_
  refine z_dup dX8_init_91 rfl ?_
  refine z_initN dX8_init_92 ilX8_58 (z_X1_init g (DF 0 8 (DF 9 0 (DF 8 0 V))) 34 (z1_34 g) (fun a k ha => ((DF_of (Or.inl (by omega))).trans ((DF_of (Or.inl (by omega))).trans ((DF_of (Or.inl (by omega))).trans (hV a k (by omega))))))) (Nat.le_of_ble_eq_true rfl) ⟨Nat.le_of_ble_eq_true rfl, Nat.le_of_ble_eq_true rfl⟩ (by show _ ≤ 467; omega) (by show _ ≤ 6793; omega) ?_
  refine z_put (k := 8) (j := 9) dX8_init_95 fp8_63 (by omega) (rfl : kdN 0 = (8, 14)) rfl rfl ((DF_of (Or.inl (by omega))).trans ((DF_of (Or.inl (by omega))).trans ((hV _ _ (by omega)).trans (q8_8 g)))) (by omega) (fun i h1 h2 => by omega) ?_
  refine z_aload_n 0 dX8_init_98 rfl rfl ?_
  refine z_new dX8_init_99 nwX8_56 (z1_41 g).k0 (by show _ ≤ 467; omega) (by show _ ≤ 6793; omega) ?_
  refine z_dup dX8_init_102 rfl ?_
  refine z_initN dX8_init_103 ilX8_58 (z_X1_init g (DF 0 9 (DF 9 0 (DF 8 0 V))) 41 (z1_41 g) (fun a k ha => ((DF_of (Or.inl (by omega))).trans ((DF_of (Or.inl (by omega))).trans ((DF_of (Or.inl (by omega))).trans (hV a k (by omega))))))) (Nat.le_of_ble_eq_true rfl) ⟨Nat.le_of_ble_eq_true rfl, Nat.le_of_ble_eq_true rfl⟩ (by show _ ≤ 467; omega) (by show _ ≤ 6793; omega) ?_
  refine z_put (k := 9) (j := 10) dX8_init_106 fp8_66 (by omega) (rfl : kdN 0 = (8, 14)) rfl rfl ((DF_of (Or.inl (by omega))).trans ((DF_of (Or.inl (by omega))).trans ((hV _ _ (by omega)).trans (q8_9 g)))) (by omega) (fun i h1 h2 => by omega) ?_
  refine z_aload_n 0 dX8_init_109 rfl rfl ?_
  refine z_iconst (0) dX8_init_110 rfl ?_
  refine z_put (k := 10) (j := 11) dX8_init_111 fp8_69 (by omega) (rfl : kdN 0 = (8, 14)) rfl rfl ((DF_of (Or.inl (by omega))).trans ((DF_of (Or.inl (by omega))).trans ((hV _ _ (by omega)).trans (q8_10 g)))) (by omega) (fun i h1 h2 => by omega) ?_
  refine z_aload_n 0 dX8_init_114 rfl rfl ?_
  refine z_iconst (0) dX8_init_115 rfl ?_
  refine z_put (k := 11) (j := 12) dX8_init_116 fp8_73 (by omega) (rfl : kdN 0 = (8, 14)) rfl rfl ((DF_of (Or.inl (by omega))).trans ((DF_of (Or.inl (by omega))).trans ((hV _ _ (by omega)).trans (q8_11 g)))) (by omega) (fun i h1 h2 => by omega) ?_
  refine z_aload_n 0 dX8_init_119 rfl rfl ?_
  refine z_iconst (0) dX8_init_120 rfl ?_
  refine z_put (k := 12) (j := 13) dX8_init_121 fp8_76 (by omega) (rfl : kdN 0 = (8, 14)) rfl rfl ((DF_of (Or.inl (by omega))).trans ((DF_of (Or.inl (by omega))).trans ((hV _ _ (by omega)).trans (q8_12 g)))) (by omega) (fun i h1 h2 => by omega) ?_
  refine z_aload_n 0 dX8_init_124 rfl rfl ?_
  refine z_sipush (1000) dX8_init_125 rfl ?_
  refine z_put (k := 13) (j := 14) dX8_init_128 fp8_79 (by omega) (rfl : kdN 0 = (8, 14)) rfl rfl ((DF_of (Or.inl (by omega))).trans ((DF_of (Or.inl (by omega))).trans ((hV _ _ (by omega)).trans (q8_13 g)))) (by omega) (fun i h1 h2 => by omega) ?_
  refine z_full (rfl : kdN 0 = (8, 14)) ?_
  refine z_iconst (0) dX8_init_131 rfl ?_
  refine z_istore_n (lv' := [(1, iv ((0 : Nat) : Int)), (0, rf g 0)]) dX8_init_132 rfl (Nat.le_of_ble_eq_true rfl) rfl ?_
  refine z_sw (by omega) ?_
  have loop133 : ∀ (m i : Nat), i ≤ 5 → 5 < i + m → Okz g (cX8_init, RX8, 2, none) (rmz 2 467 6793) (FZ g 468 V 467 6793) 133 [(1, iv (i : Int)), (0, rf g 0)] [] (48 + 20 * i) (DF 8 i (DF 9 0 V)) (((((((((((((((((((0 + 1) + 3) + 1) + 2) + 1) + 1) + 1) + 2) + 1) + 3) + 1) + 9) + 1) + 6) + 1) + 6) + 1) + 6) + 20 * i) (((((((((((((((((((0 + 4) + 60) + 4) + 10) + 5) + 40) + 7) + 10) + 4) + 1920) + 6) + 216) + 7) + 112) + 7) + 112) + 7) + 112) + 94 * i) := by
    intro m
    induction m with
    | zero => intro i h1 h2; omega
    | succ m ih =>
      intro i hi hm
      refine z_iload_n 0 dX8_init_133 rfl rfl ?_
      refine z_iconst (5) dX8_init_134 rfl ?_
      refine z_icmp_ge (tgt := 157) dX8_init_135 (by decide) ⟨by omega, by omega⟩ ⟨by omega, by omega⟩ (fun hc => ?_) (fun hc => ?_)
      · have e9 : i = 5 := by omega
        subst e9
        refine z_full (rfl : kdN 8 = (30, 5)) ?_
        refine z_iconst (0) dX8_init_157 rfl ?_
        refine z_istore_n (lv' := [(1, iv ((0 : Nat) : Int)), (0, rf g 0)]) dX8_init_158 rfl (Nat.le_of_ble_eq_true rfl) rfl ?_
        have loop159 : ∀ (m i : Nat), i ≤ 40 → 40 < i + m → Okz g (cX8_init, RX8, 2, none) (rmz 2 467 6793) (FZ g 468 V 467 6793) 159 [(1, iv (i : Int)), (0, rf g 0)] [] ((48 + 20 * 5) + 8 * i) (DF 9 i V) ((((((((((((((((((((0 + 1) + 3) + 1) + 2) + 1) + 1) + 1) + 2) + 1) + 3) + 1) + 9) + 1) + 6) + 1) + 6) + 1) + 6) + 20 * 5) + 8 * i) ((((((((((((((((((((0 + 4) + 60) + 4) + 10) + 5) + 40) + 7) + 10) + 4) + 1920) + 6) + 216) + 7) + 112) + 7) + 112) + 7) + 112) + 94 * 5) + 92 * i) := by
          intro m
          induction m with
          | zero => intro i h1 h2; omega
          | succ m ih =>
            intro i hi hm
            refine z_iload_n 0 dX8_init_159 rfl rfl ?_
            refine z_bipush (40) dX8_init_160 rfl ?_
            refine z_icmp_ge (tgt := 184) dX8_init_162 (by decide) ⟨by omega, by omega⟩ ⟨by omega, by omega⟩ (fun hc => ?_) (fun hc => ?_)
            · have e9 : i = 40 := by omega
              subst e9
              refine z_full (rfl : kdN 9 = (31, 40)) ?_
              exact z_vret dX8_init_184 rfl
            · skip
              refine z_aload_n 1 dX8_init_165 rfl rfl ?_
              refine z_get dX8_init_166 fl8_31 (by omega) (rfl : kdN 0 = (8, 14)) ((DF_of (Or.inl (by omega))).trans ((hV _ _ (by omega)).trans (q8_3 g))) ?_
              refine z_iload_n 0 dX8_init_169 rfl rfl ?_
              refine z_new dX8_init_170 nwX8_29 (Z6.of (g := g) (r := i) (by omega)).k0 (by show _ ≤ 467; omega) (by show _ ≤ 6793; omega) ?_
              refine z_dup dX8_init_173 rfl ?_
              refine z_init dX8_init_174 ilX8_83 (z_X6_init g (DF 9 i V) ((48 + 20 * 5) + 8 * i) (Z6.of (g := g) (r := i) (by omega)) (fun a k ha => ((DF_of (Or.inl (by omega))).trans (hV a k (by omega))))) (Nat.le_of_ble_eq_true rfl) ⟨Nat.le_of_ble_eq_true rfl, Nat.le_of_ble_eq_true rfl⟩ (by show _ ≤ 467; omega) (by show _ ≤ 6793; omega) ?_
              refine z_aast dX8_init_177 (rt_31 g) rfl (by omega) (rfl : kdN 9 = (31, 40)) (by omega) (by omega) (Z6.of (g := g) (r := i) (by omega)).k0 (by omega) rfl (by decide) ((hV _ _ (by omega)).trans (q8_a9 g i (by omega))) ?_
              refine z_iinc1 (lv' := [(1, iv ((i + 1 : Nat) : Int)), (0, rf g 0)]) 0 dX8_init_178 rfl (Nat.le_of_ble_eq_true rfl) rfl ?_
              refine z_goto (tgt := 159) dX8_init_181 (by decide) ?_
              exact z_k (by omega) (by omega) (by omega) (ih (i + 1) (by omega) (by omega))
        exact z_k (by omega) (by omega) (by omega) (loop159 41 0 (by omega) (by omega))
      · skip
        refine z_aload_n 1 dX8_init_138 rfl rfl ?_
        refine z_get dX8_init_139 fl8_25 (by omega) (rfl : kdN 0 = (8, 14)) ((DF_of (Or.inl (by omega))).trans ((DF_of (Or.inl (by omega))).trans ((hV _ _ (by omega)).trans (q8_2 g)))) ?_
        refine z_iload_n 0 dX8_init_142 rfl rfl ?_
        refine z_new dX8_init_143 nwX8_23 (Z4.of (g := g) (p := i) (by omega)).k0 (by show _ ≤ 467; omega) (by show _ ≤ 6793; omega) ?_
        refine z_dup dX8_init_146 rfl ?_
        refine z_init dX8_init_147 ilX8_82 (z_X4_init g (DF 8 i (DF 9 0 V)) (48 + 20 * i) (Z4.of (g := g) (p := i) (by omega)) (fun a k ha => ((DF_of (Or.inl (by omega))).trans ((DF_of (Or.inl (by omega))).trans (hV a k (by omega)))))) (Nat.le_of_ble_eq_true rfl) ⟨Nat.le_of_ble_eq_true rfl, Nat.le_of_ble_eq_true rfl⟩ (by show _ ≤ 467; omega) (by show _ ≤ 6793; omega) ?_
        refine z_aast dX8_init_150 (rt_30 g) rfl (by omega) (rfl : kdN 8 = (30, 5)) (by omega) (by omega) (Z4.of (g := g) (p := i) (by omega)).k0 (by omega) rfl (by decide) ((DF_of (Or.inl (by omega))).trans ((hV _ _ (by omega)).trans (q8_a8 g i (by omega)))) ?_
        refine z_iinc1 (lv' := [(1, iv ((i + 1 : Nat) : Int)), (0, rf g 0)]) 0 dX8_init_151 rfl (Nat.le_of_ble_eq_true rfl) rfl ?_
        refine z_goto (tgt := 133) dX8_init_154 (by decide) ?_
        exact z_k (by omega) (by omega) (by omega) (ih (i + 1) (by omega) (by omega))
  exact z_k (by omega) (by omega) (by omega) (loop133 6 0 (by omega) (by omega))
set_option maxRecDepth 20000 in
theorem z_X9_init (g : GG) (V : VM) (hV : ∀ a k, 468 ≤ a → V a k = VI g a k) : Ctz g yX9_init cX9_init 1 0 468 469 497 28 5293 (DF 468 0 V) V := by
  refine ctz_of (by decide +kernel) rfl (by decide) ?_
  refine z_aload_n 0 dX9_init_0 rfl rfl ?_
  refine z_obj dX9_init_1 ow9_1 (by decide) (by decide) ?_
  refine z_skip (j := 2) (by omega) (fun k _ hk => by
    rcases (show k = 0 ∨ k = 1 by omega) with rfl | rfl
    · exact (hV _ _ (by omega)).trans (q9_0 g)
    · exact (hV _ _ (by omega)).trans (q9_1 g)) ?_
  refine z_aload_n 0 dX9_init_4 rfl rfl ?_
  refine z_bipush (20) dX9_init_5 rfl ?_
  refine z_newa dX9_init_7 (at_char g) ac_char (rfl : kdN 469 = (21, 20)) rfl (by decide) (by decide) (by show _ ≤ 28; omega) (by show _ ≤ 5293; omega) ?_
  refine z_no (fun k _ _ => by rw [(rfl : kdN 469 = (21, 20))]; exact ((DF_of (Or.inl (by omega))).trans ((hV _ _ (by omega)).trans (q9_a g 469 k (by omega) (by omega))))) ?_
  refine z_put (k := 2) (j := 3) dX9_init_9 fp9_7 (by omega) (rfl : kdN 468 = (9, 38)) rfl rfl ((hV _ _ (by omega)).trans (q9_2 g)) (by omega) (fun i h1 h2 => by omega) ?_
  refine z_aload_n 0 dX9_init_12 rfl rfl ?_
  refine z_bipush (20) dX9_init_13 rfl ?_
  refine z_newa dX9_init_15 (at_int g) ac_int (rfl : kdN 470 = (20, 20)) rfl (by decide) (by decide) (by show _ ≤ 28; omega) (by show _ ≤ 5293; omega) ?_
  refine z_no (fun k _ _ => by rw [(rfl : kdN 470 = (20, 20))]; exact ((DF_of (Or.inl (by omega))).trans ((hV _ _ (by omega)).trans (q9_a g 470 k (by omega) (by omega))))) ?_
  refine z_put (k := 3) (j := 4) dX9_init_17 fp9_13 (by omega) (rfl : kdN 468 = (9, 38)) rfl rfl ((hV _ _ (by omega)).trans (q9_3 g)) (by omega) (fun i h1 h2 => by omega) ?_
  refine z_aload_n 0 dX9_init_20 rfl rfl ?_
  refine z_bipush (20) dX9_init_21 rfl ?_
  refine z_newa dX9_init_23 (at_int g) ac_int (rfl : kdN 471 = (20, 20)) rfl (by decide) (by decide) (by show _ ≤ 28; omega) (by show _ ≤ 5293; omega) ?_
  refine z_no (fun k _ _ => by rw [(rfl : kdN 471 = (20, 20))]; exact ((DF_of (Or.inl (by omega))).trans ((hV _ _ (by omega)).trans (q9_a g 471 k (by omega) (by omega))))) ?_
  refine z_put (k := 4) (j := 7) dX9_init_25 fp9_17 (by omega) (rfl : kdN 468 = (9, 38)) rfl rfl ((hV _ _ (by omega)).trans (q9_4 g)) (by omega) (fun i h1 h2 => by
    rcases (show i = 5 ∨ i = 6 by omega) with rfl | rfl
    · exact ((hV _ _ (by omega)).trans (q9_5 g))
    · exact ((hV _ _ (by omega)).trans (q9_6 g))) ?_
  refine z_aload_n 0 dX9_init_28 rfl rfl ?_
  refine z_iconst (4) dX9_init_29 rfl ?_
  refine z_newa dX9_init_30 (at_int g) ac_int (rfl : kdN 472 = (20, 4)) rfl (by decide) (by decide) (by show _ ≤ 28; omega) (by show _ ≤ 5293; omega) ?_
  refine z_no (fun k _ _ => by rw [(rfl : kdN 472 = (20, 4))]; exact ((DF_of (Or.inl (by omega))).trans ((hV _ _ (by omega)).trans (q9_a g 472 k (by omega) (by omega))))) ?_
  refine z_put (k := 7) (j := 8) dX9_init_32 fp9_20 (by omega) (rfl : kdN 468 = (9, 38)) rfl rfl ((hV _ _ (by omega)).trans (q9_7 g)) (by omega) (fun i h1 h2 => by omega) ?_
  refine z_aload_n 0 dX9_init_35 rfl rfl ?_
  refine z_bipush (6) dX9_init_36 rfl ?_
  refine z_newa dX9_init_38 (at_int g) ac_int (rfl : kdN 473 = (20, 6)) rfl (by decide) (by decide) (by show _ ≤ 28; omega) (by show _ ≤ 5293; omega) ?_
  refine z_no (fun k _ _ => by rw [(rfl : kdN 473 = (20, 6))]; exact ((DF_of (Or.inl (by omega))).trans ((hV _ _ (by omega)).trans (q9_a g 473 k (by omega) (by omega))))) ?_
  refine z_put (k := 8) (j := 10) dX9_init_40 fp9_23 (by omega) (rfl : kdN 468 = (9, 38)) rfl rfl ((hV _ _ (by omega)).trans (q9_8 g)) (by omega) (fun i h1 h2 => by
    rcases (show i = 9 by omega) with rfl
    · exact ((hV _ _ (by omega)).trans (q9_9 g))) ?_
  refine z_aload_n 0 dX9_init_43 rfl rfl ?_
  refine z_iconst (5) dX9_init_44 rfl ?_
  refine z_newa dX9_init_45 (at_int g) ac_int (rfl : kdN 474 = (20, 5)) rfl (by decide) (by decide) (by show _ ≤ 28; omega) (by show _ ≤ 5293; omega) ?_
  refine z_no (fun k _ _ => by rw [(rfl : kdN 474 = (20, 5))]; exact ((DF_of (Or.inl (by omega))).trans ((hV _ _ (by omega)).trans (q9_a g 474 k (by omega) (by omega))))) ?_
  refine z_put (k := 10) (j := 11) dX9_init_47 fp9_26 (by omega) (rfl : kdN 468 = (9, 38)) rfl rfl ((hV _ _ (by omega)).trans (q9_10 g)) (by omega) (fun i h1 h2 => by omega) ?_
  refine z_aload_n 0 dX9_init_50 rfl rfl ?_
  refine z_iconst (5) dX9_init_51 rfl ?_
  refine z_newa dX9_init_52 (at_int g) ac_int (rfl : kdN 475 = (20, 5)) rfl (by decide) (by decide) (by show _ ≤ 28; omega) (by show _ ≤ 5293; omega) ?_
  refine z_no (fun k _ _ => by rw [(rfl : kdN 475 = (20, 5))]; exact ((DF_of (Or.inl (by omega))).trans ((hV _ _ (by omega)).trans (q9_a g 475 k (by omega) (by omega))))) ?_
  refine z_put (k := 11) (j := 12) dX9_init_54 fp9_29 (by omega) (rfl : kdN 468 = (9, 38)) rfl rfl ((hV _ _ (by omega)).trans (q9_11 g)) (by omega) (fun i h1 h2 => by omega) ?_
  refine z_aload_n 0 dX9_init_57 rfl rfl ?_
  refine z_iconst (5) dX9_init_58 rfl ?_
  refine z_newa dX9_init_59 (at_int g) ac_int (rfl : kdN 476 = (20, 5)) rfl (by decide) (by decide) (by show _ ≤ 28; omega) (by show _ ≤ 5293; omega) ?_
  refine z_no (fun k _ _ => by rw [(rfl : kdN 476 = (20, 5))]; exact ((DF_of (Or.inl (by omega))).trans ((hV _ _ (by omega)).trans (q9_a g 476 k (by omega) (by omega))))) ?_
  refine z_put (k := 12) (j := 13) dX9_init_61 fp9_32 (by omega) (rfl : kdN 468 = (9, 38)) rfl rfl ((hV _ _ (by omega)).trans (q9_12 g)) (by omega) (fun i h1 h2 => by omega) ?_
  refine z_aload_n 0 dX9_init_64 rfl rfl ?_
  refine z_bipush (120) dX9_init_65 rfl ?_
  refine z_newa dX9_init_67 (at_int g) ac_int (rfl : kdN 477 = (20, 120)) rfl (by decide) (by decide) (by show _ ≤ 28; omega) (by show _ ≤ 5293; omega) ?_
  refine z_no (fun k _ _ => by rw [(rfl : kdN 477 = (20, 120))]; exact ((DF_of (Or.inl (by omega))).trans ((hV _ _ (by omega)).trans (q9_a g 477 k (by omega) (by omega))))) ?_
  refine z_put (k := 13) (j := 14) dX9_init_69 fp9_35 (by omega) (rfl : kdN 468 = (9, 38)) rfl rfl ((hV _ _ (by omega)).trans (q9_13 g)) (by omega) (fun i h1 h2 => by omega) ?_
  refine z_aload_n 0 dX9_init_72 rfl rfl ?_
  refine z_bipush (30) dX9_init_73 rfl ?_
  refine z_newa dX9_init_75 (at_int g) ac_int (rfl : kdN 478 = (20, 30)) rfl (by decide) (by decide) (by show _ ≤ 28; omega) (by show _ ≤ 5293; omega) ?_
  refine z_no (fun k _ _ => by rw [(rfl : kdN 478 = (20, 30))]; exact ((DF_of (Or.inl (by omega))).trans ((hV _ _ (by omega)).trans (q9_a g 478 k (by omega) (by omega))))) ?_
  refine z_put (k := 14) (j := 15) dX9_init_77 fp9_38 (by omega) (rfl : kdN 468 = (9, 38)) rfl rfl ((hV _ _ (by omega)).trans (q9_14 g)) (by omega) (fun i h1 h2 => by omega) ?_
  refine z_aload_n 0 dX9_init_80 rfl rfl ?_
  refine z_sipush (180) dX9_init_81 rfl ?_
  refine z_newa dX9_init_84 (at_int g) ac_int (rfl : kdN 479 = (20, 180)) rfl (by decide) (by decide) (by show _ ≤ 28; omega) (by show _ ≤ 5293; omega) ?_
  refine z_no (fun k _ _ => by rw [(rfl : kdN 479 = (20, 180))]; exact ((DF_of (Or.inl (by omega))).trans ((hV _ _ (by omega)).trans (q9_a g 479 k (by omega) (by omega))))) ?_
  refine z_put (k := 15) (j := 16) dX9_init_86 fp9_41 (by omega) (rfl : kdN 468 = (9, 38)) rfl rfl ((hV _ _ (by omega)).trans (q9_15 g)) (by omega) (fun i h1 h2 => by omega) ?_
  refine z_aload_n 0 dX9_init_89 rfl rfl ?_
  refine z_bipush (30) dX9_init_90 rfl ?_
  refine z_newa dX9_init_92 (at_int g) ac_int (rfl : kdN 480 = (20, 30)) rfl (by decide) (by decide) (by show _ ≤ 28; omega) (by show _ ≤ 5293; omega) ?_
  refine z_no (fun k _ _ => by rw [(rfl : kdN 480 = (20, 30))]; exact ((DF_of (Or.inl (by omega))).trans ((hV _ _ (by omega)).trans (q9_a g 480 k (by omega) (by omega))))) ?_
  refine z_put (k := 16) (j := 19) dX9_init_94 fp9_44 (by omega) (rfl : kdN 468 = (9, 38)) rfl rfl ((hV _ _ (by omega)).trans (q9_16 g)) (by omega) (fun i h1 h2 => by
    rcases (show i = 17 ∨ i = 18 by omega) with rfl | rfl
    · exact ((hV _ _ (by omega)).trans (q9_17 g))
    · exact ((hV _ _ (by omega)).trans (q9_18 g))) ?_
  refine z_aload_n 0 dX9_init_97 rfl rfl ?_
  refine z_bipush (40) dX9_init_98 rfl ?_
  refine z_newa dX9_init_100 (at_int g) ac_int (rfl : kdN 481 = (20, 40)) rfl (by decide) (by decide) (by show _ ≤ 28; omega) (by show _ ≤ 5293; omega) ?_
  refine z_no (fun k _ _ => by rw [(rfl : kdN 481 = (20, 40))]; exact ((DF_of (Or.inl (by omega))).trans ((hV _ _ (by omega)).trans (q9_a g 481 k (by omega) (by omega))))) ?_
  refine z_put (k := 19) (j := 20) dX9_init_102 fp9_47 (by omega) (rfl : kdN 468 = (9, 38)) rfl rfl ((hV _ _ (by omega)).trans (q9_19 g)) (by omega) (fun i h1 h2 => by omega) ?_
  refine z_aload_n 0 dX9_init_105 rfl rfl ?_
  refine z_bipush (40) dX9_init_106 rfl ?_
  refine z_newa dX9_init_108 (at_int g) ac_int (rfl : kdN 482 = (20, 40)) rfl (by decide) (by decide) (by show _ ≤ 28; omega) (by show _ ≤ 5293; omega) ?_
  refine z_no (fun k _ _ => by rw [(rfl : kdN 482 = (20, 40))]; exact ((DF_of (Or.inl (by omega))).trans ((hV _ _ (by omega)).trans (q9_a g 482 k (by omega) (by omega))))) ?_
  refine z_put (k := 20) (j := 21) dX9_init_110 fp9_50 (by omega) (rfl : kdN 468 = (9, 38)) rfl rfl ((hV _ _ (by omega)).trans (q9_20 g)) (by omega) (fun i h1 h2 => by omega) ?_
  refine z_aload_n 0 dX9_init_113 rfl rfl ?_
  refine z_bipush (40) dX9_init_114 rfl ?_
  refine z_newa dX9_init_116 (at_int g) ac_int (rfl : kdN 483 = (20, 40)) rfl (by decide) (by decide) (by show _ ≤ 28; omega) (by show _ ≤ 5293; omega) ?_
  refine z_no (fun k _ _ => by rw [(rfl : kdN 483 = (20, 40))]; exact ((DF_of (Or.inl (by omega))).trans ((hV _ _ (by omega)).trans (q9_a g 483 k (by omega) (by omega))))) ?_
  refine z_put (k := 21) (j := 22) dX9_init_118 fp9_53 (by omega) (rfl : kdN 468 = (9, 38)) rfl rfl ((hV _ _ (by omega)).trans (q9_21 g)) (by omega) (fun i h1 h2 => by omega) ?_
  refine z_aload_n 0 dX9_init_121 rfl rfl ?_
  refine z_bipush (40) dX9_init_122 rfl ?_
  refine z_newa dX9_init_124 (at_int g) ac_int (rfl : kdN 484 = (20, 40)) rfl (by decide) (by decide) (by show _ ≤ 28; omega) (by show _ ≤ 5293; omega) ?_
  refine z_no (fun k _ _ => by rw [(rfl : kdN 484 = (20, 40))]; exact ((DF_of (Or.inl (by omega))).trans ((hV _ _ (by omega)).trans (q9_a g 484 k (by omega) (by omega))))) ?_
  refine z_put (k := 22) (j := 23) dX9_init_126 fp9_56 (by omega) (rfl : kdN 468 = (9, 38)) rfl rfl ((hV _ _ (by omega)).trans (q9_22 g)) (by omega) (fun i h1 h2 => by omega) ?_
  refine z_aload_n 0 dX9_init_129 rfl rfl ?_
  refine z_sipush (800) dX9_init_130 rfl ?_
  refine z_newa dX9_init_133 (at_char g) ac_char (rfl : kdN 485 = (21, 800)) rfl (by decide) (by decide) (by show _ ≤ 28; omega) (by show _ ≤ 5293; omega) ?_
  refine z_no (fun k _ _ => by rw [(rfl : kdN 485 = (21, 800))]; exact ((DF_of (Or.inl (by omega))).trans ((hV _ _ (by omega)).trans (q9_a g 485 k (by omega) (by omega))))) ?_
  refine z_put (k := 23) (j := 24) dX9_init_135 fp9_59 (by omega) (rfl : kdN 468 = (9, 38)) rfl rfl ((hV _ _ (by omega)).trans (q9_23 g)) (by omega) (fun i h1 h2 => by omega) ?_
  refine z_aload_n 0 dX9_init_138 rfl rfl ?_
  refine z_sipush (800) dX9_init_139 rfl ?_
  refine z_newa dX9_init_142 (at_int g) ac_int (rfl : kdN 486 = (20, 800)) rfl (by decide) (by decide) (by show _ ≤ 28; omega) (by show _ ≤ 5293; omega) ?_
  refine z_no (fun k _ _ => by rw [(rfl : kdN 486 = (20, 800))]; exact ((DF_of (Or.inl (by omega))).trans ((hV _ _ (by omega)).trans (q9_a g 486 k (by omega) (by omega))))) ?_
  refine z_put (k := 24) (j := 25) dX9_init_144 fp9_62 (by omega) (rfl : kdN 468 = (9, 38)) rfl rfl ((hV _ _ (by omega)).trans (q9_24 g)) (by omega) (fun i h1 h2 => by omega) ?_
  refine z_aload_n 0 dX9_init_147 rfl rfl ?_
  refine z_sipush (800) dX9_init_148 rfl ?_
  refine z_newa dX9_init_151 (at_int g) ac_int (rfl : kdN 487 = (20, 800)) rfl (by decide) (by decide) (by show _ ≤ 28; omega) (by show _ ≤ 5293; omega) ?_
  refine z_no (fun k _ _ => by rw [(rfl : kdN 487 = (20, 800))]; exact ((DF_of (Or.inl (by omega))).trans ((hV _ _ (by omega)).trans (q9_a g 487 k (by omega) (by omega))))) ?_
  refine z_put (k := 25) (j := 26) dX9_init_153 fp9_65 (by omega) (rfl : kdN 468 = (9, 38)) rfl rfl ((hV _ _ (by omega)).trans (q9_25 g)) (by omega) (fun i h1 h2 => by omega) ?_
  refine z_aload_n 0 dX9_init_156 rfl rfl ?_
  refine z_sipush (240) dX9_init_157 rfl ?_
  refine z_newa dX9_init_160 (at_char g) ac_char (rfl : kdN 488 = (21, 240)) rfl (by decide) (by decide) (by show _ ≤ 28; omega) (by show _ ≤ 5293; omega) ?_
  refine z_no (fun k _ _ => by rw [(rfl : kdN 488 = (21, 240))]; exact ((DF_of (Or.inl (by omega))).trans ((hV _ _ (by omega)).trans (q9_a g 488 k (by omega) (by omega))))) ?_
  refine z_put (k := 26) (j := 27) dX9_init_162 fp9_68 (by omega) (rfl : kdN 468 = (9, 38)) rfl rfl ((hV _ _ (by omega)).trans (q9_26 g)) (by omega) (fun i h1 h2 => by omega) ?_
  refine z_aload_n 0 dX9_init_165 rfl rfl ?_
  refine z_sipush (240) dX9_init_166 rfl ?_
  refine z_newa dX9_init_169 (at_int g) ac_int (rfl : kdN 489 = (20, 240)) rfl (by decide) (by decide) (by show _ ≤ 28; omega) (by show _ ≤ 5293; omega) ?_
  refine z_no (fun k _ _ => by rw [(rfl : kdN 489 = (20, 240))]; exact ((DF_of (Or.inl (by omega))).trans ((hV _ _ (by omega)).trans (q9_a g 489 k (by omega) (by omega))))) ?_
  refine z_put (k := 27) (j := 28) dX9_init_171 fp9_71 (by omega) (rfl : kdN 468 = (9, 38)) rfl rfl ((hV _ _ (by omega)).trans (q9_27 g)) (by omega) (fun i h1 h2 => by omega) ?_
  refine z_aload_n 0 dX9_init_174 rfl rfl ?_
  refine z_sipush (1440) dX9_init_175 rfl ?_
  refine z_newa dX9_init_178 (at_int g) ac_int (rfl : kdN 490 = (20, 1440)) rfl (by decide) (by decide) (by show _ ≤ 28; omega) (by show _ ≤ 5293; omega) ?_
  refine z_no (fun k _ _ => by rw [(rfl : kdN 490 = (20, 1440))]; exact ((DF_of (Or.inl (by omega))).trans ((hV _ _ (by omega)).trans (q9_a g 490 k (by omega) (by omega))))) ?_
  refine z_put (k := 28) (j := 29) dX9_init_180 fp9_74 (by omega) (rfl : kdN 468 = (9, 38)) rfl rfl ((hV _ _ (by omega)).trans (q9_28 g)) (by omega) (fun i h1 h2 => by omega) ?_
  refine z_aload_n 0 dX9_init_183 rfl rfl ?_
  refine z_sipush (240) dX9_init_184 rfl ?_
  refine z_newa dX9_init_187 (at_int g) ac_int (rfl : kdN 491 = (20, 240)) rfl (by decide) (by decide) (by show _ ≤ 28; omega) (by show _ ≤ 5293; omega) ?_
  refine z_no (fun k _ _ => by rw [(rfl : kdN 491 = (20, 240))]; exact ((DF_of (Or.inl (by omega))).trans ((hV _ _ (by omega)).trans (q9_a g 491 k (by omega) (by omega))))) ?_
  refine z_put (k := 29) (j := 30) dX9_init_189 fp9_77 (by omega) (rfl : kdN 468 = (9, 38)) rfl rfl ((hV _ _ (by omega)).trans (q9_29 g)) (by omega) (fun i h1 h2 => by omega) ?_
  refine z_aload_n 0 dX9_init_192 rfl rfl ?_
  refine z_iconst (4) dX9_init_193 rfl ?_
  refine z_newa dX9_init_194 (at_int g) ac_int (rfl : kdN 492 = (20, 4)) rfl (by decide) (by decide) (by show _ ≤ 28; omega) (by show _ ≤ 5293; omega) ?_
  refine z_no (fun k _ _ => by rw [(rfl : kdN 492 = (20, 4))]; exact ((DF_of (Or.inl (by omega))).trans ((hV _ _ (by omega)).trans (q9_a g 492 k (by omega) (by omega))))) ?_
  refine z_put (k := 30) (j := 31) dX9_init_196 fp9_80 (by omega) (rfl : kdN 468 = (9, 38)) rfl rfl ((hV _ _ (by omega)).trans (q9_30 g)) (by omega) (fun i h1 h2 => by omega) ?_
  refine z_aload_n 0 dX9_init_199 rfl rfl ?_
  refine z_bipush (40) dX9_init_200 rfl ?_
  refine z_newa dX9_init_202 (at_char g) ac_char (rfl : kdN 493 = (21, 40)) rfl (by decide) (by decide) (by show _ ≤ 28; omega) (by show _ ≤ 5293; omega) ?_
  refine z_no (fun k _ _ => by rw [(rfl : kdN 493 = (21, 40))]; exact ((DF_of (Or.inl (by omega))).trans ((hV _ _ (by omega)).trans (q9_a g 493 k (by omega) (by omega))))) ?_
  refine z_put (k := 31) (j := 32) dX9_init_204 fp9_83 (by omega) (rfl : kdN 468 = (9, 38)) rfl rfl ((hV _ _ (by omega)).trans (q9_31 g)) (by omega) (fun i h1 h2 => by omega) ?_
  refine z_aload_n 0 dX9_init_207 rfl rfl ?_
  refine z_bipush (40) dX9_init_208 rfl ?_
  refine z_newa dX9_init_210 (at_int g) ac_int (rfl : kdN 494 = (20, 40)) rfl (by decide) (by decide) (by show _ ≤ 28; omega) (by show _ ≤ 5293; omega) ?_
  refine z_no (fun k _ _ => by rw [(rfl : kdN 494 = (20, 40))]; exact ((DF_of (Or.inl (by omega))).trans ((hV _ _ (by omega)).trans (q9_a g 494 k (by omega) (by omega))))) ?_
  refine z_put (k := 32) (j := 33) dX9_init_212 fp9_86 (by omega) (rfl : kdN 468 = (9, 38)) rfl rfl ((hV _ _ (by omega)).trans (q9_32 g)) (by omega) (fun i h1 h2 => by omega) ?_
  refine z_aload_n 0 dX9_init_215 rfl rfl ?_
  refine z_iconst (4) dX9_init_216 rfl ?_
  refine z_newa dX9_init_217 (at_int g) ac_int (rfl : kdN 495 = (20, 4)) rfl (by decide) (by decide) (by show _ ≤ 28; omega) (by show _ ≤ 5293; omega) ?_
  refine z_no (fun k _ _ => by rw [(rfl : kdN 495 = (20, 4))]; exact ((DF_of (Or.inl (by omega))).trans ((hV _ _ (by omega)).trans (q9_a g 495 k (by omega) (by omega))))) ?_
  refine z_put (k := 33) (j := 36) dX9_init_219 fp9_89 (by omega) (rfl : kdN 468 = (9, 38)) rfl rfl ((hV _ _ (by omega)).trans (q9_33 g)) (by omega) (fun i h1 h2 => by
    rcases (show i = 34 ∨ i = 35 by omega) with rfl | rfl
    · exact ((hV _ _ (by omega)).trans (q9_34 g))
    · exact ((hV _ _ (by omega)).trans (q9_35 g))) ?_
  refine z_aload_n 0 dX9_init_222 rfl rfl ?_
  refine z_iconst (-1) dX9_init_223 rfl ?_
  refine z_put (k := 36) (j := 37) dX9_init_224 fp9_92 (by omega) (rfl : kdN 468 = (9, 38)) rfl rfl ((hV _ _ (by omega)).trans (q9_36 g)) (by omega) (fun i h1 h2 => by omega) ?_
  refine z_aload_n 0 dX9_init_227 rfl rfl ?_
  refine z_bipush (40) dX9_init_228 rfl ?_
  refine z_newa dX9_init_230 (at_bool g) ac_boolean (rfl : kdN 496 = (22, 40)) rfl (by decide) (by decide) (by show _ ≤ 28; omega) (by show _ ≤ 5293; omega) ?_
  refine z_no (fun k _ _ => by rw [(rfl : kdN 496 = (22, 40))]; exact ((DF_of (Or.inl (by omega))).trans ((hV _ _ (by omega)).trans (q9_a g 496 k (by omega) (by omega))))) ?_
  refine z_put (k := 37) (j := 38) dX9_init_232 fp9_96 (by omega) (rfl : kdN 468 = (9, 38)) rfl rfl ((hV _ _ (by omega)).trans (q9_37 g)) (by omega) (fun i h1 h2 => by omega) ?_
  refine z_full (rfl : kdN 468 = (9, 38)) ?_
  exact z_vret dX9_init_235 rfl
