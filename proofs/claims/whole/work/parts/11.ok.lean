/-- a method: bytes, class, locals, what it returns -/
abbrev MI : Type := ByteArray × String × Nat × Option FieldType
def KK (g : GG) (U : State) : Prop := va_K g.2.2.1 kcl [] U ∧ ArrOfT U (g.2.2.2 20) .int ∧ ArrOfT U (g.2.2.2 21) .char ∧ ArrOfT U (g.2.2.2 22) .boolean ∧ ArrOfT U (g.2.2.2 23) .long ∧ ArrOfT U (g.2.2.2 24) .double ∧ ArrOfT U (g.2.2.2 30) (.object "Judgefold$Problem") ∧ ArrOfT U (g.2.2.2 31) (.object "Judgefold$Run") ∧ ArrOfT U (g.2.2.2 32) (.object "Judgefold$Numbers") ∧ ArrOfT U (g.2.2.2 33) (.array .int)
theorem KK.moved {g : GG} {u U : State} (hvm : u.vm.Alike U.vm) (h : KK g u) : KK g U := ⟨va_K.moved hvm h.1, arrOfT_moved hvm h.2.1, arrOfT_moved hvm h.2.2.1, arrOfT_moved hvm h.2.2.2.1, arrOfT_moved hvm h.2.2.2.2.1, arrOfT_moved hvm h.2.2.2.2.2.1, arrOfT_moved hvm h.2.2.2.2.2.2.1, arrOfT_moved hvm h.2.2.2.2.2.2.2.1, arrOfT_moved hvm h.2.2.2.2.2.2.2.2.1, arrOfT_moved hvm h.2.2.2.2.2.2.2.2.2⟩
abbrev gA (g : GG) : Nat → Prop := fun q => g.2.1 ≤ q
/-- the two statics that a throw reads -/
def ZZ (g : GG) (U : State) (H : Heap) : Prop := vx_Zq Bundle.tN "UNASSIGNED_STACK" Bundle.steD (gA g) U H ∧ vx_Zq Bundle.tN "SUPPRESSED_SENTINEL" Bundle.listD (gA g) U H
theorem ZZ.moved {g : GG} {u U : State} {H : Heap} (hvm : u.vm.Alike U.vm) (h : ZZ g u H) : ZZ g U H := ⟨vx_Zq.moved hvm h.1, vx_Zq.moved hvm h.2⟩
theorem ZZ.kept {g : GG} {U : State} {H H1 : Heap} (h : ZZ g U H) (hq : ∀ a : Nat, a < H.size → ¬ gA g a → H1[a]? = H[a]?) : ZZ g U H1 := ⟨h.1.kept hq, h.2.kept hq⟩
/-- private methods of the class that a class inside it calls -/
def NW : List Cond := [.declares (Bundle.init0 "java/lang/RuntimeException"), .declares (Bundle.init0 "java/lang/Exception"), .declares (Bundle.init0 Bundle.tN), .castable "java/lang/IllegalArgumentException" "java/lang/IllegalArgumentException", .castable "java/lang/IllegalStateException" "java/lang/IllegalStateException", .castable "java/lang/IndexOutOfBoundsException" "java/lang/IndexOutOfBoundsException", .castable "java/util/NoSuchElementException" "java/util/NoSuchElementException", .castable "java/lang/UnsupportedOperationException" "java/lang/UnsupportedOperationException", .castable "java/lang/ArithmeticException" "java/lang/ArithmeticException"]
theorem NW.same {u U : State} (h : u.vm = U.vm) (k : ∀ w ∈ NW, va_Nw w u) : ∀ w ∈ NW, va_Nw w U := fun w hw => va_Nw.same (by
  simp only [NW, List.mem_cons, List.not_mem_nil, or_false] at hw
  rcases hw with rfl | rfl | rfl | rfl | rfl | rfl | rfl | rfl | rfl <;> rfl) h (k w hw)
theorem NW.warm {s U : State} (hW : s.WarmedH U.vm) (k : ∀ w ∈ NW, va_Nw w s) : ∀ w ∈ NW, va_Nw w U := fun w hw => by
  have h := k w hw
  simp only [NW, List.mem_cons, List.not_mem_nil, or_false] at hw
  rcases hw with rfl | rfl | rfl | rfl | rfl | rfl | rfl | rfl | rfl
  · exact va_Nw.warmD hW h
  · exact va_Nw.warmD hW h
  · exact va_Nw.warmD hW h
  all_goals exact va_Nw.warmC hW h
def NN (U : State) : Prop := va_Nw (.methodLinkNest RX0 39 yX8_spotOf RX8) U ∧ va_Nw (.methodLinkNest RX1 56 yX8_spotOf RX8) U ∧ va_Nw (.methodLinkNest RX4 28 yX8_isWithin RX8) U ∧ ∀ w ∈ NW, va_Nw w U
theorem NN.same {u U : State} (h : u.vm = U.vm) (k : NN u) : NN U := ⟨va_Nw.same rfl h k.1, va_Nw.same rfl h k.2.1, va_Nw.same rfl h k.2.2.1, NW.same h k.2.2.2⟩
theorem NN.warm {s U : State} (hW : s.WarmedH U.vm) (k : NN s) : NN U := ⟨va_Nw.warmM hW k.1, va_Nw.warmM hW k.2.1, va_Nw.warmM hW k.2.2.1, NW.warm hW k.2.2.2⟩
def Cx (g : GG) (μ : MI) (p : Program) (s : State) (m : MethodId) (args : Array Value) (meth : Method) (c : Code) : Prop :=
  p.tables.exec = Jvm.exec ∧ c.code = μ.1 ∧ meth.sig.returnType = μ.2.2.2 ∧ c.maxLocals = μ.2.2.1 ∧ s.vm.findClass μ.2.1 = some m.cls ∧ (∀ w ∈ wsL_law, w.before args s = true) ∧ meth.locks = false ∧ KK g s ∧ ZZ g s s.heap ∧ (∀ x ∈ c.exceptionTable.toList, False) ∧ NN s
/-- from this point of the method the memory M, the locals lv, the stack st come to F -/
def Ok (g : GG) (μ : MI) (R : Room) (F : List Frame → Array Value → State → State → Prop) (pc : Nat) (lv : List (Nat × Value)) (st : List Value) (M : Mem) : Prop :=
  ∀ (p : Program) (e : Env) (s : State) (m : MethodId) (args : Array Value) (below : List Frame) (meth : Method) (c : Code) (H : Heap) (locs : List Loc) (ls : Array Slot),
    Cx g μ p s m args meth c → HP g M H → va_S (gA g) s.heap H locs → lv_has ls μ.2.2.1 lv →
    W p g.1 e R s m args below meth c H locs 0 0 (F below args s) (F0 m pc ls st)
def Pcx (g : GG) (as : List Value) (M : Mem) : Array Value → State → Prop := fun a U => a = as.toArray ∧ HP g M U.heap ∧ KK g U ∧ ZZ g U U.heap ∧ NN U
def Qcx (g : GG) (post : Option Value → Mem → Prop) : Array Value → State → Outcome → State → Prop := fun _ st o t => (∃ (v : Option Value) (M' : Mem), o = .returned v ∧ post v M' ∧ HP g M' t.heap) ∧ va_F (gA g) st t
theorem Pcx.blind {g : GG} {as : List Value} {M : Mem} : FrameBlind (Pcx g as M) := by
  intro a U fr mk h
  obtain ⟨h1, h2, h3, h4, h5⟩ := h
  exact ⟨h1, h2, KK.moved (u := U) (U := U.calling fr mk a) (Vm.Alike.refl U.vm) h3, ZZ.moved (u := U) (U := U.calling fr mk a) (Vm.Alike.refl U.vm) h4, NN.same (u := U) (U := U.calling fr mk a) rfl h5⟩
def rmd (d : Nat) : Room := { frames := d + 1, cells := 0, slots := 0, locals := 40 * (d + 1) }
/-- a contract -/
def Ct (g : GG) (y : MethodName) (cc : ByteArray) (nL : Nat) (ret : Option FieldType) (d : Nat) (as : List Value) (M : Mem) (post : Option Value → Mem → Prop) : Prop :=
  Met g.1 y (Cond.code y cc nL ret :: wsL_law) (rmd d) (Pcx g as M) (Qcx g post) 0 0 (gA g)
abbrev FQ (g : GG) (post : Option Value → Mem → Prop) : List Frame → Array Value → State → State → Prop := fun below args s => MQ below (Qcx g post) args s 0 0 (gA g)
theorem ct_of {g : GG} {y : MethodName} {cc : ByteArray} {nL : Nat} {ret : Option FieldType} {d : Nat} {as : List Value} {M : Mem} {post : Option Value → Mem → Prop} (hy : plainName y.cls = true) (ha : (lg_sl as).length ≤ nL)
    (body : Ok g (cc, y.cls, nL, ret) (rmd d) (FQ g post) 0 (lv_args 0 as) [] M) : Ct g y cc nL ret d as M post := by
  refine Met.ofW (cc := cc) (maxL := nL) (ret := ret) hy rfl ?_
  intro p e s m args below meth c s₁ B hml hv
  obtain ⟨rfl, hP, hK, hZ, hN⟩ := hv
  have hts := atoms_spec (ws := Cond.code y cc nL ret :: wsL_law) B.pre
  have ht : ∀ x ∈ c.exceptionTable.toList, False := by
    obtain ⟨meth9, c9, h1, h2, -, -, -, -, h7, -⟩ := Cond.code_spec B.named (hts _ List.mem_cons_self)
    cases Option.some.inj (h1.symm.trans B.method)
    cases Option.some.inj (h2.symm.trans (Stand.of_body B).code)
    intro x hx
    rw [Array.isEmpty_iff.mp h7] at hx
    cases hx
  have hl := lv_entry as (n := nL) ha
  rw [lg_entry_eq]
  exact body p e s m _ below meth c s.heap [] _ ⟨B.exec, B.bytes, B.returns, hml, findClass_of_methodNamed B.named, fun w h => hts w (List.mem_cons_of_mem _ h), B.notSynchronized, hK, hZ, ht, hN⟩ hP va_S.rf hl
theorem x_sub {g : GG} {μ : MI} {R : Room} {F : List Frame → Array Value → State → State → Prop} {pc : Nat} {lv lv' : List (Nat × Value)} {st : List Value} {M : Mem} (ks : List Nat) (hs : lv_pick lv ks = lv') (k : Ok g μ R F pc lv' st M) : Ok g μ R F pc lv st M :=
  fun p e s m args below meth c H locs ls hC hP hS hl => k p e s m args below meth c H locs ls hC hP hS (lv_sub hl ks hs)
