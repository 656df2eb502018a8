def pI (P : Int → Mem → Prop) : Option Value → Mem → Prop := fun v M => ∃ z, v = some (iv z) ∧ P z M
def pV (P : Mem → Prop) : Option Value → Mem → Prop := fun v M => v = none ∧ P M
def pL (P : Int64 → Mem → Prop) : Option Value → Mem → Prop := fun v M => ∃ x, v = some (.long x) ∧ P x M
def pR (g : GG) (P : Int → Mem → Prop) : Option Value → Mem → Prop := fun v M => ∃ o, v = some (rv g o) ∧ P o M
/-- the words of a call of y, of the class kcl[t], by the class own -/
def VL (own : String) (idx t : Nat) (y : MethodName) (cc : ByteArray) (nL : Nat) (ret : Option FieldType) (n : Nat) : Prop :=
  (∃ (T : u_T) (N : Nat), kcl[t]? = some (y.cls, T, N)) ∧ Cond.methodLink own idx y ∈ wsL_law ∧ Cond.instanceMethod y ∈ wsL_law ∧ Cond.selects y.cls y y ∈ wsL_law ∧ Cond.initialized y.cls ∈ wsL_law ∧ Cond.code y cc nL ret ∈ wsL_law ∧ (y.cls ≠ "java/lang/invoke/MethodHandle" ∧ y.cls ≠ "java/lang/invoke/VarHandle") ∧ (parseMethodDescriptor y.desc).map (fun d => d.parameters.length) = some n
def SL (own : String) (idx : Nat) (y : MethodName) (cc : ByteArray) (nL : Nat) (ret : Option FieldType) (n : Nat) : Prop :=
  Cond.methodLink own idx y ∈ wsL_law ∧ Cond.static y ∈ wsL_law ∧ Cond.initialized y.cls ∈ wsL_law ∧ Cond.code y cc nL ret ∈ wsL_law ∧ (y.cls ≠ "java/lang/invoke/MethodHandle" ∧ y.cls ≠ "java/lang/invoke/VarHandle") ∧ (parseMethodDescriptor y.desc).map (fun d => d.parameters.length) = some n
theorem wsL_good : wsL_law.all goodWord = true := by decide +kernel
theorem wsL_in {y : MethodName} {cc : ByteArray} {nL : Nat} {ret : Option FieldType} (h : Cond.code y cc nL ret ∈ wsL_law) : GoodIn wsL_law (Cond.code y cc nL ret :: wsL_law) := fun w hw => by
  have h1 : w ∈ wsL_law := (List.mem_cons.mp hw).elim (fun e => e ▸ h) id
  exact ⟨h1, good_of_word (List.all_eq_true.mp wsL_good w h1)⟩
section XC
variable {g : GG} {μ : MI} {R : Room} {F : List Frame → Array Value → State → State → Prop} {pc : Nat} {lv : List (Nat × Value)} {st rest : List Value} {M : Mem}
theorem va_S.call {g : GG} {H0 H H1 : Heap} {locs L : List Loc} (hS : va_S (gA g) H0 H locs) (hz : H.size ≤ H1.size) (hk : ∀ q : Nat, q < H.size → ¬ gA g q → H1[q]? = H[q]?) (hL : ∀ q ∈ L, gA g q.base) : va_S (gA g) H0 H1 (locs ++ L) :=
  ⟨Nat.le_trans hS.1 hz, fun q h1 h2 => by rw [hk q (Nat.lt_of_lt_of_le h1 hS.1) h2]; exact hS.2.1 q h1 h2, fun q hq => by
    rcases List.mem_append.mp hq with h | h
    · exact hS.2.2 q h
    · exact hL q h⟩
theorem x_callV {t n idx : Nat} {o : Int} {y : MethodName} {cc : ByteArray} {nL d na : Nat} {ret : Option FieldType} {as : List Value} {post : Option Value → Mem → Prop}
    (hd : decode μ.1 pc = .ok (.invokevirtual idx, 3)) (hw : VL μ.2.1 idx t y cc nL ret na) (hk : isK t n o) (hC : Ct g y cc nL ret d (rv g o :: as) M post) (hst : st = as.reverse ++ rv g o :: rest) (hn : as.length = na) (hcat : (rest.map fun v => v.category).sum ≤ 8)
    (hR : d + 2 ≤ R.frames ∧ 8 + (nL + 11) + 40 * (d + 1) ≤ R.locals) (kk : ∀ (v : Option Value) (M' : Mem), post v M' → Ok g μ R F (pc + 3) lv (v.toList ++ rest) M') : Ok g μ R F pc lv st M := by
  intro p e s m args below meth c H locs ls hCx hP hS hl
  obtain ⟨hx, hb, hr, hml, hown, hts, hlk, hK, hZ, hex⟩ := id hCx
  obtain ⟨⟨T, N, hkc⟩, w1, w2, w3, w4, w5, w6, w7⟩ := hw
  have ht : t < 10 := (List.getElem?_eq_some_iff.mp hkc).1
  intro T0 hT X
  have cw : CallW R s args μ.2.1 y.cls idx y cc nL ret (Cond.code y cc nL ret :: wsL_law) (rmd d) 0 0 na :=
    ⟨callB_of na hts (wsL_in w5) rfl rfl rfl (hts _ w4) (hts _ w1) ⟨w6.1, w6.2, w7⟩ ⟨hR.1, hR.2⟩, hts _ w2, hts _ w3⟩
  have hp : PreV s H y.cls (g.2.1 + o.toNat) (Pcx g (rv g o :: as) M) as := by
    refine ⟨Pcx.blind, ?_, fun U hU hW => ⟨rfl, by rw [hU]; exact hP, KK.moved hW.alike hK, by rw [hU]; exact ZZ.moved hW.alike (hZ.kept hS.2.1), NN.warm hW hex.2⟩⟩
    obtain ⟨cell, q1, q2, q3, q4⟩ := x_obj hk ht hP
    exact ⟨cell, q1, by rw [q3]; rfl, by rw [q2]; exact (hK.1.1 t _ hkc).2.1⟩
  obtain ⟨v, st₀, tt, T', L, h0, X', hL, e1, e2, ⟨⟨v', M', hv, hpost, hHP⟩, hF⟩, stp⟩ := va_runV (As := as) (rest := rest) (g := F0 m pc ls st) ⟨hx, hb, hml, hown, hts⟩ hC cw hp rfl hn hl.1 hst (by simpa [F0, JFrame.monitorRoom] using hcat) hd ⟨Nat.zero_le _, Nat.zero_le _⟩ T0 hT X
  cases hv
  obtain ⟨f1, f2⟩ := hF
  rw [h0] at f1 f2
  have hS1 : va_S (gA g) s.heap T'.heap (locs ++ L) := hS.call (by rw [e1]; exact f1) (fun q h1 h2 => by rw [e1]; exact f2 q h1 h2) hL
  obtain ⟨t2, a1, b1⟩ := kk v M' hpost p e s m args below meth c T'.heap (locs ++ L) ls hCx (by rw [e1]; exact hHP) hS1 hl T' rfl X'
  exact ⟨t2, stp t2 a1, b1⟩
theorem x_callS {idx : Nat} {y : MethodName} {cc : ByteArray} {nL d na : Nat} {ret : Option FieldType} {as : List Value} {post : Option Value → Mem → Prop}
    (hd : decode μ.1 pc = .ok (.invokestatic idx, 3)) (hw : SL μ.2.1 idx y cc nL ret na) (hC : Ct g y cc nL ret d as M post) (hst : st = as.reverse ++ rest) (hn : as.length = na) (hcat : (rest.map fun v => v.category).sum ≤ 8)
    (hR : d + 2 ≤ R.frames ∧ 8 + (nL + 11) + 40 * (d + 1) ≤ R.locals) (kk : ∀ (v : Option Value) (M' : Mem), post v M' → Ok g μ R F (pc + 3) lv (v.toList ++ rest) M') : Ok g μ R F pc lv st M := by
  intro p e s m args below meth c H locs ls hCx hP hS hl
  obtain ⟨hx, hb, hr, hml, hown, hts, hlk, hK, hZ, hex⟩ := id hCx
  obtain ⟨w1, w2, w4, w5, w6, w7⟩ := hw
  intro T0 hT X
  have cw : CallB R s args μ.2.1 idx y cc nL ret (Cond.code y cc nL ret :: wsL_law) (rmd d) 0 0 na ∧ (Cond.static y).before args s = true :=
    ⟨callB_of na hts (wsL_in w5) rfl rfl rfl (hts _ w4) (hts _ w1) ⟨w6.1, w6.2, w7⟩ ⟨hR.1, hR.2⟩, hts _ w2⟩
  have hp : PreS s H (Pcx g as M) as := ⟨Pcx.blind, fun U hU hW => ⟨rfl, by rw [hU]; exact hP, KK.moved hW.alike hK, by rw [hU]; exact ZZ.moved hW.alike (hZ.kept hS.2.1), NN.warm hW hex.2⟩⟩
  obtain ⟨v, st₀, tt, T', L, h0, X', hL, e1, e2, ⟨⟨v', M', hv, hpost, hHP⟩, hF⟩, stp⟩ := va_runS (As := as) (rest := rest) (g := F0 m pc ls st) ⟨hx, hb, hml, hown, hts⟩ hC cw hp rfl hn hl.1 hst (by simpa [F0, JFrame.monitorRoom] using hcat) hd ⟨Nat.zero_le _, Nat.zero_le _⟩ T0 hT X
  cases hv
  obtain ⟨f1, f2⟩ := hF
  rw [h0] at f1 f2
  have hS1 : va_S (gA g) s.heap T'.heap (locs ++ L) := hS.call (by rw [e1]; exact f1) (fun q h1 h2 => by rw [e1]; exact f2 q h1 h2) hL
  obtain ⟨t2, a1, b1⟩ := kk v M' hpost p e s m args below meth c T'.heap (locs ++ L) ls hCx (by rw [e1]; exact hHP) hS1 hl T' rfl X'
  exact ⟨t2, stp t2 a1, b1⟩
/-- a private static method of another class of the nest -/
def NL (own : String) (idx : Nat) (y : MethodName) (cc : ByteArray) (nL : Nat) (ret : Option FieldType) (n : Nat) (host : String) : Prop :=
  (∀ s : State, NN s → va_Nw (.methodLinkNest own idx y host) s) ∧ Cond.static y ∈ wsL_law ∧ Cond.initialized y.cls ∈ wsL_law ∧ Cond.code y cc nL ret ∈ wsL_law ∧ (y.cls ≠ "java/lang/invoke/MethodHandle" ∧ y.cls ≠ "java/lang/invoke/VarHandle") ∧ (parseMethodDescriptor y.desc).map (fun d => d.parameters.length) = some n
theorem x_callN {idx : Nat} {y : MethodName} {cc : ByteArray} {nL d na : Nat} {ret : Option FieldType} {as : List Value} {host : String} {post : Option Value → Mem → Prop}
    (hd : decode μ.1 pc = .ok (.invokestatic idx, 3)) (hw : NL μ.2.1 idx y cc nL ret na host) (hC : Ct g y cc nL ret d as M post) (hst : st = as.reverse ++ rest) (hn : as.length = na) (hcat : (rest.map fun v => v.category).sum ≤ 8)
    (hR : d + 2 ≤ R.frames ∧ 8 + (nL + 11) + 40 * (d + 1) ≤ R.locals) (kk : ∀ (v : Option Value) (M' : Mem), post v M' → Ok g μ R F (pc + 3) lv (v.toList ++ rest) M') : Ok g μ R F pc lv st M := by
  intro p e s m args below meth c H locs ls hCx hP hS hl
  obtain ⟨hx, hb, hr, hml, hown, hts, hlk, hK, hZ, hex⟩ := id hCx
  obtain ⟨w1, w2, w4, w5, w6, w7⟩ := hw
  intro T0 hT X
  have cw := va_cnB (R := R) (own := μ.2.1) (index := idx) (y := y) (host := host) (rm := rmd d) (ws := Cond.code y cc nL ret :: wsL_law) na hts (wsL_in w5) rfl rfl rfl (w1 s hex.2) (hts _ w4) ⟨w6.1, w6.2, w7⟩ ⟨hR.1, hR.2⟩
  have hp : PreS s H (Pcx g as M) as := ⟨Pcx.blind, fun U hU hW => ⟨rfl, by rw [hU]; exact hP, KK.moved hW.alike hK, by rw [hU]; exact ZZ.moved hW.alike (hZ.kept hS.2.1), NN.warm hW hex.2⟩⟩
  obtain ⟨v, st₀, tt, T', L, h0, X', hL, e1, e2, ⟨⟨v', M', hv, hpost, hHP⟩, hF⟩, stp⟩ := va_runSN (As := as) (rest := rest) (g := F0 m pc ls st) ⟨hx, hb, hml, hown, hts⟩ hC ⟨cw, hts _ w2, trivial⟩ hp rfl hn hl.1 hst (by simpa [F0, JFrame.monitorRoom] using hcat) hd ⟨Nat.zero_le _, Nat.zero_le _⟩ T0 hT X
  cases hv
  obtain ⟨f1, f2⟩ := hF
  rw [h0] at f1 f2
  have hS1 : va_S (gA g) s.heap T'.heap (locs ++ L) := hS.call (by rw [e1]; exact f1) (fun q h1 h2 => by rw [e1]; exact f2 q h1 h2) hL
  obtain ⟨t2, a1, b1⟩ := kk v M' hpost p e s m args below meth c T'.heap (locs ++ L) ls hCx (by rw [e1]; exact hHP) hS1 hl T' rfl X'
  exact ⟨t2, stp t2 a1, b1⟩
theorem x_iret {post : Option Value → Mem → Prop} {z : Int} {ty : FieldType} (hd : decode μ.1 pc = .ok (.ireturn, 1)) (hr : μ.2.2.2 = some ty) (hn : narrow ty (iv z) = iv z) (hq : post (some (iv z)) M) : Ok g μ R (FQ g post) pc lv [iv z] M := by
  intro p e s m args below meth c H locs ls hC hP hS hl
  exact W.zret hC.1 hC.2.1 (hC.2.2.1.trans hr) hn (fun t ht hW => ⟨⟨_, M, rfl, hq, by rw [ht]; exact hP⟩, hS.F ht⟩) hS.2.2 hd hC.2.2.2.2.2.2.1
theorem x_vret {post : Option Value → Mem → Prop} (hd : decode μ.1 pc = .ok (.return_, 1)) (hr : μ.2.2.2 = none) (hq : post none M) : Ok g μ R (FQ g post) pc lv [] M := by
  intro p e s m args below meth c H locs ls hC hP hS hl
  exact W.vret hC.1 hC.2.1 (hC.2.2.1.trans hr) (fun t ht hW => ⟨⟨_, M, rfl, hq, by rw [ht]; exact hP⟩, hS.F ht⟩) hS.2.2 hd hC.2.2.2.2.2.2.1
theorem x_lret {post : Option Value → Mem → Prop} {x : Int64} (hd : decode μ.1 pc = .ok (.lreturn, 1)) (hr : μ.2.2.2 = some .long) (hq : post (some (.long x)) M) : Ok g μ R (FQ g post) pc lv [.long x] M := by
  intro p e s m args below meth c H locs ls hC hP hS hl
  exact W.lret hC.1 hC.2.1 (hC.2.2.1.trans hr) (fun t ht hW => ⟨⟨_, M, rfl, hq, by rw [ht]; exact hP⟩, hS.F ht⟩) hS.2.2 hd hC.2.2.2.2.2.2.1
theorem x_aret {post : Option Value → Mem → Prop} {o : Int} {C : String} (hd : decode μ.1 pc = .ok (.areturn, 1)) (hr : μ.2.2.2 = some (.object C)) (hq : post (some (rv g o)) M) : Ok g μ R (FQ g post) pc lv [rv g o] M := by
  intro p e s m args below meth c H locs ls hC hP hS hl
  exact W.aret hC.1 hC.2.1 (hC.2.2.1.trans hr) (Or.inl ⟨_, rfl⟩) (Or.inr ⟨_, rfl⟩) (fun t ht hW => ⟨⟨_, M, rfl, hq, by rw [ht]; exact hP⟩, hS.F ht⟩) hS.2.2 hd hC.2.2.2.2.2.2.1
theorem x_callVI {t n idx : Nat} {o : Int} {y : MethodName} {cc : ByteArray} {nL d na : Nat} {ret : Option FieldType} {as : List Value} {P : Int → Mem → Prop}
    (hd : decode μ.1 pc = .ok (.invokevirtual idx, 3)) (hw : VL μ.2.1 idx t y cc nL ret na) (hk : isK t n o) (hC : Ct g y cc nL ret d (rv g o :: as) M (pI P)) (hst : st = as.reverse ++ rv g o :: rest) (hn : as.length = na) (hcat : (rest.map fun v => v.category).sum ≤ 8)
    (hR : d + 2 ≤ R.frames ∧ 8 + (nL + 11) + 40 * (d + 1) ≤ R.locals) (kk : ∀ (z : Int) (M' : Mem), P z M' → Ok g μ R F (pc + 3) lv (iv z :: rest) M') : Ok g μ R F pc lv st M :=
  x_callV hd hw hk hC hst hn hcat hR (fun v M' ⟨z, hv, h⟩ => by subst hv; exact kk z M' h)
theorem x_callVV {t n idx : Nat} {o : Int} {y : MethodName} {cc : ByteArray} {nL d na : Nat} {ret : Option FieldType} {as : List Value} {P : Mem → Prop}
    (hd : decode μ.1 pc = .ok (.invokevirtual idx, 3)) (hw : VL μ.2.1 idx t y cc nL ret na) (hk : isK t n o) (hC : Ct g y cc nL ret d (rv g o :: as) M (pV P)) (hst : st = as.reverse ++ rv g o :: rest) (hn : as.length = na) (hcat : (rest.map fun v => v.category).sum ≤ 8)
    (hR : d + 2 ≤ R.frames ∧ 8 + (nL + 11) + 40 * (d + 1) ≤ R.locals) (kk : ∀ (M' : Mem), P M' → Ok g μ R F (pc + 3) lv rest M') : Ok g μ R F pc lv st M :=
  x_callV hd hw hk hC hst hn hcat hR (fun v M' ⟨hv, h⟩ => by subst hv; exact kk M' h)
theorem x_callVL {t n idx : Nat} {o : Int} {y : MethodName} {cc : ByteArray} {nL d na : Nat} {ret : Option FieldType} {as : List Value} {P : Int64 → Mem → Prop}
    (hd : decode μ.1 pc = .ok (.invokevirtual idx, 3)) (hw : VL μ.2.1 idx t y cc nL ret na) (hk : isK t n o) (hC : Ct g y cc nL ret d (rv g o :: as) M (pL P)) (hst : st = as.reverse ++ rv g o :: rest) (hn : as.length = na) (hcat : (rest.map fun v => v.category).sum ≤ 8)
    (hR : d + 2 ≤ R.frames ∧ 8 + (nL + 11) + 40 * (d + 1) ≤ R.locals) (kk : ∀ (x : Int64) (M' : Mem), P x M' → Ok g μ R F (pc + 3) lv (.long x :: rest) M') : Ok g μ R F pc lv st M :=
  x_callV hd hw hk hC hst hn hcat hR (fun v M' ⟨z, hv, h⟩ => by subst hv; exact kk z M' h)
theorem x_callVR {t n idx : Nat} {o : Int} {y : MethodName} {cc : ByteArray} {nL d na : Nat} {ret : Option FieldType} {as : List Value} {P : Int → Mem → Prop}
    (hd : decode μ.1 pc = .ok (.invokevirtual idx, 3)) (hw : VL μ.2.1 idx t y cc nL ret na) (hk : isK t n o) (hC : Ct g y cc nL ret d (rv g o :: as) M (pR g P)) (hst : st = as.reverse ++ rv g o :: rest) (hn : as.length = na) (hcat : (rest.map fun v => v.category).sum ≤ 8)
    (hR : d + 2 ≤ R.frames ∧ 8 + (nL + 11) + 40 * (d + 1) ≤ R.locals) (kk : ∀ (z : Int) (M' : Mem), P z M' → Ok g μ R F (pc + 3) lv (rv g z :: rest) M') : Ok g μ R F pc lv st M :=
  x_callV hd hw hk hC hst hn hcat hR (fun v M' ⟨z, hv, h⟩ => by subst hv; exact kk z M' h)
theorem x_callSI {idx : Nat} {y : MethodName} {cc : ByteArray} {nL d na : Nat} {ret : Option FieldType} {as : List Value} {P : Int → Mem → Prop}
    (hd : decode μ.1 pc = .ok (.invokestatic idx, 3)) (hw : SL μ.2.1 idx y cc nL ret na) (hC : Ct g y cc nL ret d as M (pI P)) (hst : st = as.reverse ++ rest) (hn : as.length = na) (hcat : (rest.map fun v => v.category).sum ≤ 8)
    (hR : d + 2 ≤ R.frames ∧ 8 + (nL + 11) + 40 * (d + 1) ≤ R.locals) (kk : ∀ (z : Int) (M' : Mem), P z M' → Ok g μ R F (pc + 3) lv (iv z :: rest) M') : Ok g μ R F pc lv st M :=
  x_callS hd hw hC hst hn hcat hR (fun v M' ⟨z, hv, h⟩ => by subst hv; exact kk z M' h)
end XC
