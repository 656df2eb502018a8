/-! the law's own methods: a call of the class, what is thrown caught -/
def NCL : List (String × String) := [("java/lang/IllegalStateException", "java/lang/IllegalArgumentException"), ("java/lang/IllegalStateException", "java/lang/IndexOutOfBoundsException"), ("java/lang/IllegalArgumentException", "java/lang/IndexOutOfBoundsException"), ("java/util/NoSuchElementException", "java/lang/IndexOutOfBoundsException"), ("java/util/NoSuchElementException", "java/lang/IllegalArgumentException"), ("java/lang/UnsupportedOperationException", "java/lang/IllegalArgumentException")]
def NCs (U : State) : Prop := ∀ w ∈ NCL, va_Nc w.1 w.2 U
theorem NCs.moved {u U : State} (hvm : u.vm.Alike U.vm) (h : NCs u) : NCs U := fun w hw => va_Nc.moved hvm (h w hw)
def Pcw (g : GG) (as : List Value) (M : Mem) : Array Value → State → Prop := fun a U => Pcx g as M a U ∧ NCs U
theorem Pcw.blind {g : GG} {as : List Value} {M : Mem} : FrameBlind (Pcw g as M) := fun a U fr mk h => ⟨Pcx.blind a U fr mk h.1, NCs.moved (u := U) (U := U.calling fr mk a) (Vm.Alike.refl U.vm) h.2⟩
def rmw (d : Nat) : Room := { frames := d + 7, cells := 1, slots := 6, locals := 40 * (d + 1) + 200 }
/-- a contract of a method of the law's -/
def Cw (g : GG) (y : MethodName) (cc : ByteArray) (nL : Nat) (hh : List (Nat × Nat × Nat × Nat)) (d : Nat) (as : List Value) (M : Mem) (post : Option Value → Mem → Prop) : Prop :=
  Met g.1 y (Cond.codeWith y cc nL (some .int) hh :: wsL_law) (rmw d) (Pcw g as M) (Qcx g post) 1 6 (gA g)
def Cy (g : GG) (cc : ByteArray) (nL : Nat) (hh : List (Nat × Nat × Nat × Nat)) (p : Program) (s : State) (m : MethodId) (args : Array Value) (meth : Method) (c : Code) : Prop :=
  p.tables.exec = Jvm.exec ∧ c.code = cc ∧ meth.sig.returnType = some .int ∧ c.maxLocals = nL ∧ s.vm.findClass RL = some m.cls ∧ (∀ w ∈ wsL_law, w.before args s = true) ∧ meth.locks = false ∧ KK g s ∧ ZZ g s s.heap ∧ c.exceptionTable.toList = tableOf hh ∧ NN s ∧ NCs s
def Okw (g : GG) (cc : ByteArray) (nL : Nat) (hh : List (Nat × Nat × Nat × Nat)) (R : Room) (Q : List Frame → Array Value → State → State → Prop) (kc ks pc : Nat) (lv : List (Nat × Value)) (st : List Value) (M : Mem) : Prop :=
  ∀ (p : Program) (e : Env) (s : State) (m : MethodId) (args : Array Value) (below : List Frame) (meth : Method) (c : Code) (H : Heap) (locs : List Loc) (ls : Array Slot),
    Cy g cc nL hh p s m args meth c → HP g M H → va_S (gA g) s.heap H locs → lv_has ls nL lv →
    W p g.1 e R s m args below meth c H locs kc ks (Q below args s) (F0 m pc ls st)
/-- q, of the class E, is thrown at pc -/
def EXC (g : GG) (cc : ByteArray) (nL : Nat) (hh : List (Nat × Nat × Nat × Nat)) (R : Room) (Q : List Frame → Array Value → State → State → Prop) (pc : Nat) (lv : List (Nat × Value)) (rest : List Value) (E : String) (M : Mem) : Prop :=
  ∀ (p : Program) (e : Env) (s : State) (m : MethodId) (args : Array Value) (below : List Frame) (meth : Method) (c : Code) (H : Heap) (locs : List Loc) (ls : Array Slot) (q : Nat) (ce : Cell),
    Cy g cc nL hh p s m args meth c → HP g M H → va_S (gA g) s.heap H locs → lv_has ls nL lv → H[q]? = some ce → ce.vm = .none → s.vm.findClass E = some ce.cls →
    vx_W p g.1 e R s m args below meth c H locs 1 6 (Q below args s) (F0 m pc ls rest) q
abbrev FQw (g : GG) (post : Option Value → Mem → Prop) : List Frame → Array Value → State → State → Prop := fun below args s => MQ below (Qcx g post) args s 1 6 (gA g)
theorem cw_of {g : GG} {y : MethodName} {cc : ByteArray} {nL : Nat} {hh : List (Nat × Nat × Nat × Nat)} {d : Nat} {as : List Value} {M : Mem} {post : Option Value → Mem → Prop} (hy : plainName y.cls = true) (hc : y.cls = RL) (ha : (lg_sl as).length ≤ nL)
    (body : Okw g cc nL hh (rmw d) (FQw g post) 0 0 0 (lv_args 0 as) [] M) : Cw g y cc nL hh d as M post := by
  unfold Cw Met
  refine MetFree.of_bodyS (code := cc) (maxLocals := nL) (ret := some .int) hy ?_ ?_
  · intro args s m h hn
    obtain ⟨m9, meth, c, hn9, h1, h2, h3, h4, -, h5, h6, -⟩ := Cond.codeWith_spec (atoms_spec (ws := Cond.codeWith y cc nL (some .int) hh :: wsL_law) h _ List.mem_cons_self)
    cases hn.symm.trans hn9
    exact ⟨meth, c, h1, h2, h3, h4, h5, h6⟩
  · intro p e s m args below meth c s₁ B hml hP _
    have hh0 : s₁.heap = s.heap := by rw [B.state]; rfl
    obtain ⟨⟨rfl, hP, hK, hZ, hN⟩, hNc⟩ := hP
    have hts := atoms_spec (ws := Cond.codeWith y cc nL (some .int) hh :: wsL_law) B.pre
    have hl := lv_entry as (n := nL) ha
    have hown : s.vm.findClass RL = some m.cls := by rw [← hc]; exact findClass_of_methodNamed B.named
    have K : W p g.1 e (rmw d) s m as.toArray below meth c s.heap [] 0 0 (FQw g post below as.toArray s) (entryFrame m as.toArray nL) := by
      rw [lg_entry_eq]
      exact body p e s m _ below meth c s.heap [] _ ⟨B.exec, B.bytes, B.returns, hml, hown, fun w h => hts w (List.mem_cons_of_mem _ h), B.notSynchronized, hK, hZ, vx_table (x := y) B (hts _ List.mem_cons_self), hN, hNc⟩ hP va_S.rf hl
    obtain ⟨t, a1, o, b1, b2, b3⟩ := K s₁ hh0 (Stand.of_body B)
    exact ⟨t, o, a1, b1, b2, b3⟩
section XW
variable {g : GG} {cc : ByteArray} {nL : Nat} {hh : List (Nat × Nat × Nat × Nat)} {R : Room} {Q : List Frame → Array Value → State → State → Prop} {kc ks pc : Nat} {lv : List (Nat × Value)} {st rest : List Value} {M : Mem}
theorem y_iconst {n : Int} (z : Int) (hd : decode cc pc = .ok (.iconst n, 1)) (hz : Int32.ofInt n = iZ z) (k : Okw g cc nL hh R Q kc ks (pc + 1) lv (iv z :: st) M) : Okw g cc nL hh R Q kc ks pc lv st M := by
  intro p e s m args below meth c H locs ls hC hP hS hl
  exact lv_iconst hC.1 hC.2.1 hd hz (k p e s m args below meth c H locs ls hC hP hS hl)
theorem y_iload_n {i : Nat} {q : Fin 4} {z : Int} (j : Nat) (hd : decode cc pc = .ok (.iload_n q, 1)) (hi : (q : Nat) = i) (hv : lv[j]? = some (i, iv z)) (k : Okw g cc nL hh R Q kc ks (pc + 1) lv (iv z :: st) M) : Okw g cc nL hh R Q kc ks pc lv st M := by
  intro p e s m args below meth c H locs ls hC hP hS hl
  exact lv_iload_n hC.1 hC.2.1 hd hi (lv_at hl j hv) (k p e s m args below meth c H locs ls hC hP hS hl)
theorem y_aload {i : Nat} {a : Nat} (j : Nat) (hd : decode cc pc = .ok (.aload i, 2)) (hv : lv[j]? = some (i, .ref a)) (k : Okw g cc nL hh R Q kc ks (pc + 2) lv (.ref a :: st) M) : Okw g cc nL hh R Q kc ks pc lv st M := by
  intro p e s m args below meth c H locs ls hC hP hS hl
  exact lv_aload hC.1 hC.2.1 hd (lv_at hl j hv) (k p e s m args below meth c H locs ls hC hP hS hl)
theorem y_aload_n {i : Nat} {q : Fin 4} {a : Nat} (j : Nat) (hd : decode cc pc = .ok (.aload_n q, 1)) (hi : (q : Nat) = i) (hv : lv[j]? = some (i, .ref a)) (k : Okw g cc nL hh R Q kc ks (pc + 1) lv (.ref a :: st) M) : Okw g cc nL hh R Q kc ks pc lv st M := by
  intro p e s m args below meth c H locs ls hC hP hS hl
  exact lv_aload_n hC.1 hC.2.1 hd hi (lv_at hl j hv) (k p e s m args below meth c H locs ls hC hP hS hl)
theorem y_astore {i : Nat} {a : Nat} {lv' : List (Nat × Value)} (hd : decode cc pc = .ok (.astore i, 2)) (hn : i < nL) (hv : (i, .ref a) :: lv.filter (fun q => !(q.1 == i) && !(q.1 + 1 == i && q.2.category == 2)) = lv') (k : Okw g cc nL hh R Q kc ks (pc + 2) lv' st M) : Okw g cc nL hh R Q kc ks pc lv (.ref a :: st) M := by
  intro p e s m args below meth c H locs ls hC hP hS hl
  exact lv_astore hC.1 hC.2.1 hd hl hn hv (fun ls hl => k p e s m args below meth c H locs ls hC hP hS hl)
theorem y_astore_n {i : Nat} {q : Fin 4} {a : Nat} {lv' : List (Nat × Value)} (hd : decode cc pc = .ok (.astore_n q, 1)) (hi : (q : Nat) = i) (hn : i < nL) (hv : (i, .ref a) :: lv.filter (fun q => !(q.1 == i) && !(q.1 + 1 == i && q.2.category == 2)) = lv') (k : Okw g cc nL hh R Q kc ks (pc + 1) lv' st M) : Okw g cc nL hh R Q kc ks pc lv (.ref a :: st) M := by
  intro p e s m args below meth c H locs ls hC hP hS hl
  exact lv_astore_n hC.1 hC.2.1 hd hi hl hn hv (fun ls hl => k p e s m args below meth c H locs ls hC hP hS hl)
theorem y_goto {off : Int} {tgt : Nat} (hd : decode cc pc = .ok (.goto off, 3)) (ht : (pc : Int) + off = (tgt : Int)) (k : Okw g cc nL hh R Q kc ks tgt lv st M) : Okw g cc nL hh R Q kc ks pc lv st M := by
  intro p e s m args below meth c H locs ls hC hP hS hl
  exact lv_goto hC.1 hC.2.1 hd ht (k p e s m args below meth c H locs ls hC hP hS hl)
theorem y_i2l {a : Int} (hd : decode cc pc = .ok (.i2l, 1)) (k : Okw g cc nL hh R Q kc ks (pc + 1) lv (.long (Int64.ofInt (wr a)) :: st) M) : Okw g cc nL hh R Q kc ks pc lv (iv a :: st) M := by
  intro p e s m args below meth c H locs ls hC hP hS hl
  refine lv_i2l hC.1 hC.2.1 hd ?_ (k p e s m args below meth c H locs ls hC hP hS hl)
  unfold wr
  rw [Int64.ofInt_int32ToInt]
theorem y_f2d {x : UInt32} (hd : decode cc pc = .ok (.f2d, 1)) (hn : vf_n64 (FP.f2d x)) (k : Okw g cc nL hh R Q kc ks (pc + 1) lv (.double (FP.f2d x) :: st) M) : Okw g cc nL hh R Q kc ks pc lv (.float x :: st) M := by
  intro p e s m args below meth c H locs ls hC hP hS hl
  exact lv_f2d hC.1 hC.2.1 hd hn (k p e s m args below meth c H locs ls hC hP hS hl)
theorem k_497 : isK 23 1 497 := ⟨by decide, by decide, by decide +kernel⟩
theorem k_498 : isK 24 1 498 := ⟨by decide, by decide, by decide +kernel⟩
theorem y_lastore {z : Int} (hd : decode cc pc = .ok (.lastore, 1)) (k : Okw g cc nL hh R Q kc ks (pc + 1) lv st (up M 497 0 z)) : Okw g cc nL hh R Q kc ks pc lv (.long (Int64.ofInt z) :: iv 0 :: rv g 497 :: st) M := by
  intro p e s m args below meth c H locs ls hC hP hS hl
  obtain ⟨hx, hb, hr, hml, hown, hts, hlk, hK, hZ, hex⟩ := id hC
  have hc := x_arr k_497 (by decide) hP
  refine W.last hx hb hc (hK.2.2.2.2.1 1 _) (fun q => by cases q) (by rw [arrV_size]; exact iZ_in (z := 0) (n := 1) (by omega) (by omega) (by omega)) rfl rfl hd (fun H1 e1 e2 e3 => ?_)
  refine k p e s m args below meth c H1 _ ls hC (hP.other k_497.1 (fun h => absurd h (by omega)) e3 ?_) (hS.put e2 e3 (Nat.le_add_right _ _)) hl
  rw [k_497.2.2]
  unfold OB
  rw [if_neg (by decide), e1, iZ_cl (z := 0) (by omega) (by omega), arrV_store]
  congr 2
  funext j
  by_cases hj : j = 0
  · subst hj
    show Value.long (Int64.ofInt z) = vl g 497 23 0 (up M 497 0 z 497 0)
    rw [up_s]
    rfl
  · have hne : ((j : Nat) : Int) ≠ 0 := by omega
    show updV _ (0 : Int).toNat _ j = _
    simp [updV, hj, up_k hne]
theorem y_dastore {x : UInt64} (hd : decode cc pc = .ok (.dastore, 1)) (k : Okw g cc nL hh R Q kc ks (pc + 1) lv st (up M 498 0 (x.toNat : Int))) : Okw g cc nL hh R Q kc ks pc lv (.double x :: iv 0 :: rv g 498 :: st) M := by
  intro p e s m args below meth c H locs ls hC hP hS hl
  obtain ⟨hx, hb, hr, hml, hown, hts, hlk, hK, hZ, hex⟩ := id hC
  have hc := x_arr k_498 (by decide) hP
  refine W.dast hx hb hc (hK.2.2.2.2.2.1 1 _) (fun q => by cases q) (by rw [arrV_size]; exact iZ_in (z := 0) (n := 1) (by omega) (by omega) (by omega)) rfl rfl hd (fun H1 e1 e2 e3 => ?_)
  refine k p e s m args below meth c H1 _ ls hC (hP.other k_498.1 (fun h => absurd h (by omega)) e3 ?_) (hS.put e2 e3 (Nat.le_add_right _ _)) hl
  rw [k_498.2.2]
  unfold OB
  rw [if_neg (by decide), e1, iZ_cl (z := 0) (by omega) (by omega), arrV_store]
  congr 2
  funext j
  by_cases hj : j = 0
  · subst hj
    show Value.double x = vl g 498 24 0 (up M 498 0 (x.toNat : Int) 498 0)
    rw [up_s]
    show Value.double x = Value.double (UInt64.ofNat ((x.toNat : Int)).toNat)
    rw [Int.toNat_natCast, UInt64.ofNat_toNat]
  · have hne : ((j : Nat) : Int) ≠ 0 := by omega
    show updV _ (0 : Int).toNat _ j = _
    simp [updV, hj, up_k hne]
theorem y_iret {post : Option Value → Mem → Prop} {z : Int} (hd : decode cc pc = .ok (.ireturn, 1)) (hq : post (some (iv z)) M) : Okw g cc nL hh R (FQw g post) 1 6 pc lv [iv z] M := by
  intro p e s m args below meth c H locs ls hC hP hS hl
  exact W.zret hC.1 hC.2.1 hC.2.2.1 rfl (fun t ht hW => ⟨⟨_, M, rfl, hq, by rw [ht]; exact hP⟩, hS.F ht⟩) hS.2.2 hd hC.2.2.2.2.2.2.1
/-- a call of the class: it returns or throws -/
theorem y_call {t n idx : Nat} {o : Int} {y : MethodName} {ccy : ByteArray} {nLy d na : Nat} {ret : Option FieldType} {as : List Value} {post : Option Value → Mem → Prop} {XT : String → Mem → Prop}
    (hd : decode cc pc = .ok (.invokevirtual idx, 3)) (hw : VL RL idx t y ccy nLy ret na) (hk : isK t n o) (hC : Ctx g y ccy nLy ret d (rv g o :: as) M post XT) (hst : st = as.reverse ++ rv g o :: rest) (hn : as.length = na) (hcat : (rest.map fun v => v.category).sum ≤ 8)
    (hR : d + 7 ≤ R.frames ∧ 8 + (nLy + 11) + (40 * (d + 1) + 100) ≤ R.locals ∧ 1 ≤ R.cells ∧ 6 ≤ R.slots) (kk : ∀ (v : Option Value) (M' : Mem), post v M' → Okw g cc nL hh R Q 1 6 (pc + 3) lv (v.toList ++ rest) M')
    (kx : ∀ (E : String) (M' : Mem), XT E M' → EXC g cc nL hh R Q pc lv rest E M') : Okw g cc nL hh R Q 0 0 pc lv st M := by
  intro p e s m args below meth c H locs ls hCx hP hS hl
  obtain ⟨hx, hb, hr, hml, hown, hts, hlk, hK, hZ, htb, hN, hNc⟩ := id hCx
  obtain ⟨⟨T, N, hkc⟩, w1, w2, w3, w4, w5, w6, w7⟩ := hw
  have ht : t < 10 := (List.getElem?_eq_some_iff.mp hkc).1
  intro T0 hT X
  have cw : CallW R s args RL y.cls idx y ccy nLy ret (Cond.code y ccy nLy ret :: wsL_law) (rmX d) 1 6 na :=
    ⟨callB_of na hts (wsL_in w5) rfl rfl rfl (hts _ w4) (hts _ w1) ⟨w6.1, w6.2, w7⟩ ⟨hR.1, hR.2.1⟩, hts _ w2, hts _ w3⟩
  have hp : PreV s H y.cls (g.2.1 + o.toNat) (Pcx g (rv g o :: as) M) as := by
    refine ⟨Pcx.blind, ?_, fun U hU hW => ⟨rfl, by rw [hU]; exact hP, KK.moved hW.alike hK, by rw [hU]; exact ZZ.moved hW.alike (hZ.kept hS.2.1), NN.warm hW hN⟩⟩
    obtain ⟨cell, q1, q2, q3, q4⟩ := x_obj hk ht hP
    exact ⟨cell, q1, by rw [q3]; rfl, by rw [q2]; exact (hK.1.1 t _ hkc).2.1⟩
  rcases vx_runV (As := as) (rest := rest) (g := F0 m pc ls st) ⟨hx, hb, hml, hown, hts⟩ hC cw hp rfl hn hl.1 hst (by simpa [F0, JFrame.monitorRoom] using hcat) hd ⟨by rw [Nat.zero_add]; exact hR.2.2.1, by rw [Nat.zero_add]; exact hR.2.2.2⟩ T0 hT X with ⟨v, st₀, tt, T', L, h0, X', hL, e1, e2, ⟨⟨v', M', hv, hpost, hHP⟩, hF⟩, stp⟩ | ⟨q, st₀, tt, T', L, E, ce, h0, X', hL, e1, e2, ⟨M', -, ⟨hx2, hHP⟩, hF⟩, hce, hcv, hcl, stp⟩
  · cases hv
    obtain ⟨f1, f2⟩ := hF
    rw [h0] at f1 f2
    have hS1 : va_S (gA g) s.heap T'.heap (locs ++ L) := hS.call (by rw [e1]; exact f1) (fun q h1 h2 => by rw [e1]; exact f2 q h1 h2) hL
    obtain ⟨t2, a1, b1⟩ := kk v M' hpost p e s m args below meth c T'.heap (locs ++ L) ls hCx (by rw [e1]; exact hHP) hS1 hl T' rfl X'
    exact ⟨t2, stp t2 a1, b1⟩
  · obtain ⟨f1, f2⟩ := hF
    rw [h0] at f1 f2
    have hS1 : va_S (gA g) s.heap T'.heap (locs ++ L) := hS.call (by rw [e1]; exact f1) (fun q h1 h2 => by rw [e1]; exact f2 q h1 h2) hL
    obtain ⟨t2, a1, b1⟩ := kx E M' hx2 p e s m args below meth c T'.heap (locs ++ L) ls q ce hCx (by rw [e1]; exact hHP) hS1 hl (by rw [e1]; exact hce) hcv hcl T' rfl X'
    exact ⟨t2, stp.trans a1, b1⟩
/-- it is caught by a row of the table -/
theorem y_catch {E : String} {a b h ct : Nat} (pre suf : List (Nat × Nat × Nat × Nat)) (hhe : hh = pre ++ (a, b, h, ct) :: suf) (hcov : a ≤ pc ∧ pc < b) (h0 : ct ≠ 0) (hlink : Cond.classLink RL ct E ∈ wsL_law) (hcast : Cond.castable E E ∈ NW)
    (hpass : ∀ z ∈ pre, z.2.2.2 ≠ 0 ∧ ∃ nm : String, Cond.classLink RL z.2.2.2 nm ∈ wsL_law ∧ (E, nm) ∈ NCL) (kk : ∀ q : Nat, Okw g cc nL hh R Q 1 6 h lv [.ref q] M) : EXC g cc nL hh R Q pc lv rest E M := by
  intro p e s m args below meth c H locs ls q ce hCx hP hS hl hq hv hcl
  obtain ⟨hx, hb, hr, hml, hown, hts, hlk, hK, hZ, htb, hN, hNc⟩ := id hCx
  refine vx_catch (own := RL) (name := E) hown (tableOf pre) ⟨a, b, h, ct⟩ (tableOf suf) (by rw [htb, hhe]; simp [tableOf]) (fun z hz => ?_) (by simp [covers, hcov.1, hcov.2]) h0 (hts _ hlink) (va_Nw.use (NW.tabs _ hcast) (hN.2.2.2 _ hcast)) hq hv hcl (kk q p e s m args below meth c H locs ls hCx hP hS hl)
  obtain ⟨w, hw, rfl⟩ := List.mem_map.mp hz
  obtain ⟨h1, nm, h2, h3⟩ := hpass w hw
  exact Or.inr ⟨h1, nm, hts _ h2, hNc _ h3⟩
end XW
