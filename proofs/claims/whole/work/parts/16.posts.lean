/-- an int comes back, the memory is M1 then -/
def pIP (P : Int → Prop) (M1 : Mem) : Option Value → Mem → Prop := fun v M' => ∃ z, v = some (iv z) ∧ M' = M1 ∧ P z
def pLP (P : Int64 → Prop) (M1 : Mem) : Option Value → Mem → Prop := fun v M' => ∃ x, v = some (.long x) ∧ M' = M1 ∧ P x
def pRP (g : GG) (P : Int → Prop) (M1 : Mem) : Option Value → Mem → Prop := fun v M' => ∃ o, v = some (rv g o) ∧ M' = M1 ∧ P o
section XD
variable {g : GG} {μ : MI} {R : Room} {F : List Frame → Array Value → State → State → Prop} {pc : Nat} {lv : List (Nat × Value)} {st rest : List Value} {M M1 : Mem}
theorem x_callVIP {t n idx : Nat} {o : Int} {y : MethodName} {cc : ByteArray} {nL d na : Nat} {ret : Option FieldType} {as : List Value} {P : Int → Prop}
    (hd : decode μ.1 pc = .ok (.invokevirtual idx, 3)) (hw : VL μ.2.1 idx t y cc nL ret na) (hk : isK t n o) (hC : Ct g y cc nL ret d (rv g o :: as) M (pIP P M1)) (hst : st = as.reverse ++ rv g o :: rest) (hn : as.length = na) (hcat : (rest.map fun v => v.category).sum ≤ 8)
    (hR : d + 2 ≤ R.frames ∧ 8 + (nL + 11) + 40 * (d + 1) ≤ R.locals) (kk : ∀ (z : Int), P z → Ok g μ R F (pc + 3) lv (iv z :: rest) M1) : Ok g μ R F pc lv st M :=
  x_callV hd hw hk hC hst hn hcat hR (fun v M' ⟨z, hv, hm, h⟩ => by subst hv; subst hm; exact kk z h)
theorem x_callVLP {t n idx : Nat} {o : Int} {y : MethodName} {cc : ByteArray} {nL d na : Nat} {ret : Option FieldType} {as : List Value} {P : Int64 → Prop}
    (hd : decode μ.1 pc = .ok (.invokevirtual idx, 3)) (hw : VL μ.2.1 idx t y cc nL ret na) (hk : isK t n o) (hC : Ct g y cc nL ret d (rv g o :: as) M (pLP P M1)) (hst : st = as.reverse ++ rv g o :: rest) (hn : as.length = na) (hcat : (rest.map fun v => v.category).sum ≤ 8)
    (hR : d + 2 ≤ R.frames ∧ 8 + (nL + 11) + 40 * (d + 1) ≤ R.locals) (kk : ∀ (z : Int64), P z → Ok g μ R F (pc + 3) lv (.long z :: rest) M1) : Ok g μ R F pc lv st M :=
  x_callV hd hw hk hC hst hn hcat hR (fun v M' ⟨z, hv, hm, h⟩ => by subst hv; subst hm; exact kk z h)
theorem x_callVRP {t n idx : Nat} {o : Int} {y : MethodName} {cc : ByteArray} {nL d na : Nat} {ret : Option FieldType} {as : List Value} {P : Int → Prop}
    (hd : decode μ.1 pc = .ok (.invokevirtual idx, 3)) (hw : VL μ.2.1 idx t y cc nL ret na) (hk : isK t n o) (hC : Ct g y cc nL ret d (rv g o :: as) M (pRP g P M1)) (hst : st = as.reverse ++ rv g o :: rest) (hn : as.length = na) (hcat : (rest.map fun v => v.category).sum ≤ 8)
    (hR : d + 2 ≤ R.frames ∧ 8 + (nL + 11) + 40 * (d + 1) ≤ R.locals) (kk : ∀ (z : Int), P z → Ok g μ R F (pc + 3) lv (rv g z :: rest) M1) : Ok g μ R F pc lv st M :=
  x_callV hd hw hk hC hst hn hcat hR (fun v M' ⟨z, hv, hm, h⟩ => by subst hv; subst hm; exact kk z h)
theorem x_callSIP {idx : Nat} {y : MethodName} {cc : ByteArray} {nL d na : Nat} {ret : Option FieldType} {as : List Value} {P : Int → Prop}
    (hd : decode μ.1 pc = .ok (.invokestatic idx, 3)) (hw : SL μ.2.1 idx y cc nL ret na) (hC : Ct g y cc nL ret d as M (pIP P M1)) (hst : st = as.reverse ++ rest) (hn : as.length = na) (hcat : (rest.map fun v => v.category).sum ≤ 8)
    (hR : d + 2 ≤ R.frames ∧ 8 + (nL + 11) + 40 * (d + 1) ≤ R.locals) (kk : ∀ (z : Int), P z → Ok g μ R F (pc + 3) lv (iv z :: rest) M1) : Ok g μ R F pc lv st M :=
  x_callS hd hw hC hst hn hcat hR (fun v M' ⟨z, hv, hm, h⟩ => by subst hv; subst hm; exact kk z h)
theorem x_callNIP {idx : Nat} {y : MethodName} {cc : ByteArray} {nL d na : Nat} {ret : Option FieldType} {as : List Value} {host : String} {P : Int → Prop}
    (hd : decode μ.1 pc = .ok (.invokestatic idx, 3)) (hw : NL μ.2.1 idx y cc nL ret na host) (hC : Ct g y cc nL ret d as M (pIP P M1)) (hst : st = as.reverse ++ rest) (hn : as.length = na) (hcat : (rest.map fun v => v.category).sum ≤ 8)
    (hR : d + 2 ≤ R.frames ∧ 8 + (nL + 11) + 40 * (d + 1) ≤ R.locals) (kk : ∀ (z : Int), P z → Ok g μ R F (pc + 3) lv (iv z :: rest) M1) : Ok g μ R F pc lv st M :=
  x_callN hd hw hC hst hn hcat hR (fun v M' ⟨z, hv, hm, h⟩ => by subst hv; subst hm; exact kk z h)
end XD
theorem k_0 : isK 8 14 0 := ⟨by decide, by decide, by decide +kernel⟩
theorem k_468 : isK 9 38 468 := ⟨by decide, by decide, by decide +kernel⟩
theorem ext_lt {P : Int → Prop} {t : Int} (h : ∀ q, 0 ≤ q → q < t → P q) (ht : P t) : ∀ q, 0 ≤ q → q < t + 1 → P q := fun q h0 h1 => by
  rcases Int.lt_or_eq_of_le (show q ≤ t by omega) with e | e
  · exact h q h0 e
  · rw [e]; exact ht
