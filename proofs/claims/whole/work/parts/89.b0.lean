/-! the objects as they are made: n of them so far, with values V -/
abbrev VM : Type := Nat → Nat → Value
abbrev rf (g : GG) (o : Nat) : Value := .ref (g.2.1 + o)
def HV (g : GG) (n : Nat) (V : VM) (H : Heap) : Prop := H.size = g.2.1 + n ∧ ∀ o : Nat, o < n → OB g (o : Int) (kdN o) (V o) H
def dvl (t k : Nat) : Value := if (sk t k).1 = 0 then iv 0 else if (sk t k).1 = 1 then .null else if (sk t k).1 = 2 then .long 0 else .double 0
/-- the memory behind the constructors -/
def M0i : Mem := fun o k => if o = 18 then 45 else if 148 ≤ o ∧ o < 468 ∧ o % 8 = 3 then -1 else if (kd o).1 = 4 ∧ k = 2 then 1 else if (kd o).1 = 6 ∧ k = 8 then 97 else if (kd o).1 = 6 ∧ k = 9 then -1 else if (kd o).1 = 2 ∧ k = 6 then 45 else if o = 0 ∧ k = 13 then 1000 else if o = 468 ∧ k = 36 then -1 else 0
def VI (g : GG) : VM := fun o k => vl g o (kdN o).1 k (M0i o k)
/-- the object a is as it was born from the place i on -/
def DF (a i : Nat) (V : VM) : VM := fun o k => if o = a ∧ i ≤ k then dvl (kdN o).1 k else V o k
theorem arrV_cong {c : ClassId} {N : Nat} {f f' : Nat → Value} (h : ∀ k, k < N → f k = f' k) : arrV c N f = arrV c N f' := by
  unfold arrV
  have e : (fun j : Fin N => f j.val) = fun j : Fin N => f' j.val := funext fun j => h _ j.2
  rw [e]
theorem OB.cong {g : GG} {o : Int} {tn : Nat × Nat} {V V' : Nat → Value} {H : Heap} (h : OB g o tn V H) (e : ∀ k, k < tn.2 → V k = V' k) : OB g o tn V' H := by
  unfold OB at h ⊢
  split at h
  · rename_i q; rw [if_pos q]; exact h.to e
  · rename_i q; rw [if_neg q, h, arrV_cong e]
theorem OB.old {g : GG} {o : Int} {tn : Nat × Nat} {V : Nat → Value} {H H1 : Heap} (h : OB g o tn V H) (e : H1[g.2.1 + o.toNat]? = H[g.2.1 + o.toNat]?) : OB g o tn V H1 := by
  unfold OB at h ⊢
  split at h
  · rename_i q; rw [if_pos q]; exact h.kept e
  · rename_i q; rw [if_neg q, e]; exact h
theorem HV.cong {g : GG} {n : Nat} {V V' : VM} {H : Heap} (h : HV g n V H) (e : ∀ o, o < n → ∀ k, k < (kdN o).2 → V o k = V' o k) : HV g n V' H :=
  ⟨h.1, fun o ho => (h.2 o ho).cong (e o ho)⟩
/-- links of constructors of classes of the nest -/
def NK (U : State) : Prop := va_Nw (.methodLinkNest RX8 11 yX5_init RX8) U ∧ va_Nw (.methodLinkNest RX8 18 yX3_init RX8) U ∧ va_Nw (.methodLinkNest RX8 37 yX2_init RX8) U ∧ va_Nw (.methodLinkNest RX8 44 yX7_init RX8) U ∧ va_Nw (.methodLinkNest RX8 58 yX1_init RX8) U ∧ va_Nw (.methodLinkNest RX4 27 yX3_init RX8) U ∧ va_Nw (.methodLinkNest RX6 11 yX5_init RX8) U
theorem NK.same {u U : State} (h : u.vm = U.vm) (k : NK u) : NK U := ⟨va_Nw.same rfl h k.1, va_Nw.same rfl h k.2.1, va_Nw.same rfl h k.2.2.1, va_Nw.same rfl h k.2.2.2.1, va_Nw.same rfl h k.2.2.2.2.1, va_Nw.same rfl h k.2.2.2.2.2.1, va_Nw.same rfl h k.2.2.2.2.2.2⟩
theorem NK.warm {s U : State} (hW : s.WarmedH U.vm) (k : NK s) : NK U := ⟨va_Nw.warmM hW k.1, va_Nw.warmM hW k.2.1, va_Nw.warmM hW k.2.2.1, va_Nw.warmM hW k.2.2.2.1, va_Nw.warmM hW k.2.2.2.2.1, va_Nw.warmM hW k.2.2.2.2.2.1, va_Nw.warmM hW k.2.2.2.2.2.2⟩
def KB (g : GG) (U : State) : Prop := (U.vm.findClass "[I" = some (g.2.2.2 20) ∧ U.vm.findClass "[C" = some (g.2.2.2 21) ∧ U.vm.findClass "[Z" = some (g.2.2.2 22) ∧ U.vm.findClass "[J" = some (g.2.2.2 23) ∧ U.vm.findClass "[D" = some (g.2.2.2 24)) ∧
  (U.vm.findClass "[LJudgefold$Problem;" = some (g.2.2.2 30) ∧ U.vm.findClass "[LJudgefold$Run;" = some (g.2.2.2 31) ∧ U.vm.findClass "[LJudgefold$Numbers;" = some (g.2.2.2 32) ∧ U.vm.findClass "[[I" = some (g.2.2.2 33)) ∧
  va_AO "Judgefold$Problem" U ∧ va_AO "Judgefold$Run" U ∧ va_AO "Judgefold$Numbers" U ∧ (Cond.arrayOver (.array .int)).before #[] U = true
theorem aoi_moved {u U : State} (hvm : u.vm.Alike U.vm) (h : (Cond.arrayOver (.array .int)).before #[] u = true) : (Cond.arrayOver (.array .int)).before #[] U = true := Jvm.Stand.arrayOver_alikeB hvm h
theorem KB.moved {g : GG} {u U : State} (hvm : u.vm.Alike U.vm) (h : KB g u) : KB g U := by
  obtain ⟨⟨a1, a2, a3, a4, a5⟩, ⟨b1, b2, b3, b4⟩, c1, c2, c3, c4⟩ := h
  exact ⟨⟨by rw [hvm.findClass]; exact a1, by rw [hvm.findClass]; exact a2, by rw [hvm.findClass]; exact a3, by rw [hvm.findClass]; exact a4, by rw [hvm.findClass]; exact a5⟩, ⟨by rw [hvm.findClass]; exact b1, by rw [hvm.findClass]; exact b2, by rw [hvm.findClass]; exact b3, by rw [hvm.findClass]; exact b4⟩, c1.moved hvm, c2.moved hvm, c3.moved hvm, aoi_moved hvm c4⟩
def KA (g : GG) (U : State) : Prop := KB g U ∧ NK U
theorem KA.same {g : GG} {u U : State} (h : u.vm = U.vm) (k : KA g u) : KA g U := ⟨KB.moved (by rw [h]; exact Vm.Alike.refl _) k.1, k.2.same h⟩
theorem KA.warm {g : GG} {s U : State} (hW : s.WarmedH U.vm) (k : KA g s) : KA g U := ⟨KB.moved hW.alike k.1, k.2.warm hW⟩
/-- from this point of a constructor -/
def Okz (g : GG) (μ : MI) (R : Room) (F : List Frame → Array Value → State → State → Prop) (pc : Nat) (lv : List (Nat × Value)) (st : List Value) (n : Nat) (V : VM) (kc ks : Nat) : Prop :=
  ∀ (p : Program) (e : Env) (s : State) (m : MethodId) (args : Array Value) (below : List Frame) (meth : Method) (c : Code) (H : Heap) (locs : List Loc) (ls : Array Slot),
    Cx g μ p s m args meth c → KA g s → meth.name = "<init>" → HV g n V H → va_S (gA g) s.heap H locs → lv_has ls μ.2.2.1 lv →
    W p g.1 e R s m args below meth c H locs kc ks (F below args s) (F0 m pc ls st)
def Pcz (g : GG) (as : List Value) (n : Nat) (V : VM) : Array Value → State → Prop := fun a U => a = as.toArray ∧ HV g n V U.heap ∧ KK g U ∧ ZZ g U U.heap ∧ NN U ∧ KA g U
def Qcz (g : GG) (n : Nat) (V : VM) : Array Value → State → Outcome → State → Prop := fun _ st o t => (o = .returned none ∧ HV g n V t.heap) ∧ va_F (gA g) st t
theorem Pcz.blind {g : GG} {as : List Value} {n : Nat} {V : VM} : FrameBlind (Pcz g as n V) := by
  intro a U fr mk h
  obtain ⟨h1, h2, h3, h4, h5, h6⟩ := h
  exact ⟨h1, h2, KK.moved (u := U) (U := U.calling fr mk a) (Vm.Alike.refl U.vm) h3, ZZ.moved (u := U) (U := U.calling fr mk a) (Vm.Alike.refl U.vm) h4, NN.same (u := U) (U := U.calling fr mk a) rfl h5, KA.same (u := U) (U := U.calling fr mk a) rfl h6⟩
def rmz (d mc ms : Nat) : Room := { frames := d + 1, cells := mc, slots := ms, locals := 40 * (d + 1) }
/-- a constructor's contract: from n objects to n' -/
def Ctz (g : GG) (y : MethodName) (cc : ByteArray) (nL d o n n' mc ms : Nat) (V V' : VM) : Prop :=
  Met g.1 y (Cond.code y cc nL none :: wsL_law) (rmz d mc ms) (Pcz g [rf g o] n V) (Qcz g n' V') mc ms (gA g)
abbrev FZ (g : GG) (n : Nat) (V : VM) (mc ms : Nat) : List Frame → Array Value → State → State → Prop := fun below args s => MQ below (Qcz g n V) args s mc ms (gA g)
theorem ctz_of {g : GG} {y : MethodName} {cc : ByteArray} {nL d o n n' mc ms : Nat} {V V' : VM} (hy : plainName y.cls = true) (hyn : y.name = "<init>") (ha : 1 ≤ nL)
    (body : Okz g (cc, y.cls, nL, none) (rmz d mc ms) (FZ g n' V' mc ms) 0 [(0, rf g o)] [] n V 0 0) : Ctz g y cc nL d o n n' mc ms V V' := by
  refine Met.ofW (cc := cc) (maxL := nL) (ret := none) hy rfl ?_
  intro p e s m args below meth c s₁ B hml hv
  obtain ⟨rfl, hP, hK, hZ, hN, hA⟩ := hv
  have hts := atoms_spec (ws := Cond.code y cc nL none :: wsL_law) B.pre
  have ht : ∀ x ∈ c.exceptionTable.toList, False := by
    obtain ⟨meth9, c9, h1, h2, -, -, -, -, h7, -⟩ := Cond.code_spec B.named (hts _ List.mem_cons_self)
    cases Option.some.inj (h1.symm.trans B.method)
    cases Option.some.inj (h2.symm.trans (Stand.of_body B).code)
    intro x hx
    rw [Array.isEmpty_iff.mp h7] at hx
    cases hx
  have hl := lv_entry [rf g o] (n := nL) ha
  rw [lg_entry_eq]
  exact body p e s m _ below meth c s.heap [] _ ⟨B.exec, B.bytes, B.returns, hml, findClass_of_methodNamed B.named, fun w h => hts w (List.mem_cons_of_mem _ h), B.notSynchronized, hK, hZ, ht, hN⟩ hA ((name_of_methodNamed B.named B.method).1.trans hyn) hP va_S.rf hl
