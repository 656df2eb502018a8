theorem dcmp_0 {x : UInt64} (h : vf_n64 x) : Op.cmpValue (FP.dcmp x x) .l = 0 := Jvm.RoadKit.dcmpV_self h .l
/-- the k-th int of the j-th call -/
def ax (xs : Nat → Int32) (j k : Nat) : Int := (xs (4 * j + k)).toInt
theorem ax_rg (xs : Nat → Int32) (j k : Nat) : rg (ax xs j k) := rg_of _
def bz (z : Int) : Int := if z = 0 then 0 else 1
theorem bz_01 (z : Int) : bz z = 0 ∨ bz z = 1 := by
  unfold bz
  split
  · exact Or.inl rfl
  · exact Or.inr rfl
def cz (z : Int) : Int := ((iZ z).toUInt32 % 65536).toInt32.toInt
theorem cz_rg (z : Int) : 0 ≤ cz z ∧ cz z < 65536 := by
  unfold cz
  have h : ((iZ z).toUInt32 % 65536).toNat < 65536 := by
    rw [UInt32.toNat_mod]
    exact Nat.mod_lt _ (by decide)
  generalize (iZ z).toUInt32 % 65536 = y at h
  have e : y.toInt32.toInt = (y.toNat : Int) := by
    show y.toBitVec.toInt = _
    rw [BitVec.toInt_eq_toNat_of_lt (by show 2 * y.toNat < 2 ^ 32; omega)]
    rfl
  omega
abbrev lv0 (g : GG) (b j : Nat) : List (Nat × Value) := [(0, .ref b), (1, rv g 0), (2, rv g 468), (3, rv g 497), (4, rv g 498), (5, iv (4 * (j : Int)))]
section LX
variable {g : GG} {b L : Nat} {xs : Nat → Int32} {pc j : Nat} {lv : List (Nat × Value)} {st rest : List Value} {M : Mem} {kc ks : Nat}
theorem l_arg {i : Int} {m0 m5 : Nat} (k : Nat) (h0 : decode code pc = .ok (.aload_n 0, 1)) (h1 : decode code (pc + 1) = .ok (.iload 5, 2)) (h3 : decode code (pc + 3) = .ok (.iconst i, 1)) (h4 : decode code (pc + 4) = .ok (.iadd, 1)) (h5 : decode code (pc + 5) = .ok (.iaload, 1))
    (hi : Int32.ofInt i = iZ (k : Int)) (e0 : lv[m0]? = some (0, .ref b)) (e5 : lv[m5]? = some (5, iv (4 * (j : Int)))) (hk : k < 4) (hj : 4 * j + 4 ≤ L) (hL : L ≤ 2048) (kk : Okl g b L xs (pc + 6) lv (iv (ax xs j k) :: st) M kc ks) : Okl g b L xs pc lv st M kc ks := by
  refine l_aload_n m0 h0 rfl e0 ?_
  refine l_iload m5 h1 e5 ?_
  refine l_iconst (k : Int) h3 hi ?_
  refine l_iadd h4 ?_
  exact l_sld (j := 4 * j + k) h5 (by omega) (by omega) hL kk
theorem l_bool {z o1 o2 : Int} {t1 t2 : Nat} (h0 : decode code pc = .ok (.ifCond .eq o1, 3)) (h1 : decode code (pc + 3) = .ok (.iconst 1, 1)) (h2 : decode code (pc + 4) = .ok (.goto o2, 3)) (h3 : decode code t1 = .ok (.iconst 0, 1)) (e1 : (pc : Int) + o1 = (t1 : Int)) (e2 : ((pc + 4 : Nat) : Int) + o2 = (t2 : Int)) (e3 : t1 + 1 = t2) (hz : rg z)
    (kk : Okl g b L xs t2 lv (iv (bz z) :: st) M kc ks) : Okl g b L xs pc lv (iv z :: st) M kc ks := by
  refine l_if_eq h0 e1 hz (fun e => ?_) (fun e => ?_)
  · refine l_iconst 0 h3 rfl ?_
    rw [e3]
    rw [show bz z = 0 by unfold bz; rw [if_pos e]] at kk
    exact kk
  · refine l_iconst 1 h1 rfl ?_
    refine l_goto h2 e2 ?_
    rw [show bz z = 1 by unfold bz; rw [if_neg e]] at kk
    exact kk
/-- what is thrown is the same, and what is returned -/
theorem l_fin {kw zr oG : Int} (d0 : decode code pc = .ok (.istore 7, 2)) (d2 : decode code (pc + 2) = .ok (.aload_n 2, 1)) (d3 : decode code (pc + 3) = .ok (.invokevirtual 128, 3)) (d6 : decode code (pc + 6) = .ok (.iload 6, 2)) (d8 : decode code (pc + 8) = .ok (.if_icmp .eq 5, 3))
    (d13 : decode code (pc + 13) = .ok (.iload 6, 2)) (d15 : decode code (pc + 15) = .ok (.ifCond .ne 15, 3)) (d18 : decode code (pc + 18) = .ok (.aload_n 3, 1)) (d19 : decode code (pc + 19) = .ok (.iconst 0, 1)) (d20 : decode code (pc + 20) = .ok (.laload, 1)) (d21 : decode code (pc + 21) = .ok (.iload 7, 2)) (d23 : decode code (pc + 23) = .ok (.i2l, 1)) (d24 : decode code (pc + 24) = .ok (.lcmp, 1)) (d25 : decode code (pc + 25) = .ok (.ifCond .eq 5, 3)) (d30 : decode code (pc + 30) = .ok (.goto oG, 3))
    (eG : ((pc + 30 : Nat) : Int) + oG = (2243 : Nat)) (hroom : kc ≤ 603072 ∧ ks ≤ 7215210) (h1 : M 468 0 = kw) (h2 : kw = 0 → M 497 0 = wr zr) (kk : Okl g b L xs 2243 (lv0 g b j) [] M kc ks) : Okl g b L xs pc ((6, iv kw) :: lv0 g b j) [iv zr] M kc ks := by
  have fin : Okl g b L xs (pc + 30) ((7, iv zr) :: (6, iv kw) :: lv0 g b j) [] M kc ks := by
    refine l_goto d30 eG ?_
    exact l_sub [2, 3, 4, 5, 6, 7] rfl kk
  refine l_istore (lv' := (7, iv zr) :: (6, iv kw) :: lv0 g b j) d0 (by decide) rfl ?_
  refine l_aload_n 4 d2 rfl rfl ?_
  refine l_callV (as := []) (rest := []) d3 vlL_128 k_468 (c_X9_thrown g M) rfl rfl (Nat.le_of_ble_eq_true rfl) ⟨Nat.le_of_ble_eq_true rfl, Nat.le_of_ble_eq_true rfl⟩ hroom (fun v M' hv => ?_)
  obtain ⟨z, rfl, rfl, hz⟩ := hv
  rw [h1] at hz
  subst hz
  refine l_iload 1 d6 rfl ?_
  refine l_icmp_eqT (tgt := pc + 13) d8 (by omega) ?_
  refine l_iload 1 d13 rfl ?_
  refine l_rg (o := 468) (k := 0) (by omega) (fun hr => ?_)
  rw [h1] at hr
  refine l_if_ne (tgt := pc + 30) d15 (by omega) hr (fun hk => fin) (fun hk => ?_)
  refine l_aload_n 5 d18 rfl rfl ?_
  refine l_iconst 0 d19 rfl ?_
  refine l_laload d20 ?_
  rw [h2 hk]
  refine l_iload 0 d21 rfl ?_
  refine l_i2l d23 ?_
  refine l_lcmpT d24 ?_
  exact l_if_eq0 (tgt := pc + 30) d25 (by omega) fin
end LX
