/-! methods of the class that may throw -/
def rmX (d : Nat) : Room := { frames := d + 6, cells := 1, slots := 6, locals := 40 * (d + 1) + 100 }
def XCx (g : GG) (XT : String → Mem → Prop) : String → State → State → Prop := vx_X (S := Mem) (fun _ => True) (fun E M' t => XT E M' ∧ HP g M' t.heap) (gA g)
abbrev FX (g : GG) (post : Option Value → Mem → Prop) (XT : String → Mem → Prop) : List Frame → Array Value → State → State → Prop := fun below args s => vx_MQ below (Qcx g post) (XCx g XT) args s 1 6 (gA g)
/-- a contract of a method that returns or throws -/
def Ctx (g : GG) (y : MethodName) (cc : ByteArray) (nL : Nat) (ret : Option FieldType) (d : Nat) (as : List Value) (M : Mem) (post : Option Value → Mem → Prop) (XT : String → Mem → Prop) : Prop :=
  vx_Met g.1 y (Cond.code y cc nL ret :: wsL_law) (rmX d) (Pcx g as M) (Qcx g post) (XCx g XT) 1 6 (gA g)
theorem ctx_of {g : GG} {y : MethodName} {cc : ByteArray} {nL : Nat} {ret : Option FieldType} {d : Nat} {as : List Value} {M : Mem} {post : Option Value → Mem → Prop} {XT : String → Mem → Prop} (hy : plainName y.cls = true) (ha : (lg_sl as).length ≤ nL)
    (body : Ok g (cc, y.cls, nL, ret) (rmX d) (FX g post XT) 0 (lv_args 0 as) [] M) : Ctx g y cc nL ret d as M post XT := by
  refine vx_ofW (cc := cc) (maxL := nL) (ret := ret) hy rfl ?_
  intro p e s m args below meth c s₁ B hml ht hv
  obtain ⟨rfl, hP, hK, hZ, hN⟩ := hv
  have hts := atoms_spec (ws := Cond.code y cc nL ret :: wsL_law) B.pre
  have hl := lv_entry as (n := nL) ha
  rw [lg_entry_eq]
  exact body p e s m _ below meth c s.heap [] _ ⟨B.exec, B.bytes, B.returns, hml, findClass_of_methodNamed B.named, fun w h => hts w (List.mem_cons_of_mem _ h), B.notSynchronized, hK, hZ, ht, hN⟩ hP va_S.rf hl
theorem HP.kept {g : GG} {M : Mem} {H H1 : Heap} (h : HP g M H) (hq : ∀ q : Nat, q < H.size → H1[q]? = H[q]?) : HP g M H1 := by
  refine ⟨h.1, fun o o0 o1 => ?_⟩
  have h2 := h.2 o o0 o1
  unfold OB at h2 ⊢
  split at h2
  · rename_i e
    rw [if_pos e]
    have hs : g.2.1 + o.toNat < H.size := by
      obtain ⟨cell, e1, _⟩ := h2
      exact (Array.getElem?_eq_some_iff.mp e1).1
    exact h2.kept (hq _ hs)
  · rename_i e
    rw [if_neg e, hq _ (Array.getElem?_eq_some_iff.mp h2).1]
    exact h2
section XT
variable {g : GG} {μ : MI} {R : Room} {pc : Nat} {lv : List (Nat × Value)} {st : List Value} {M : Mem} {post : Option Value → Mem → Prop} {XT : String → Mem → Prop}
theorem x_toX (k : Ok g μ R (FQ g post) pc lv st M) : Ok g μ R (FX g post XT) pc lv st M := by
  intro p e s m args below meth c H locs ls hC hP hS hl T hT X
  obtain ⟨t, a1, o, b1, b2, b3, L, b4, b5⟩ := k p e s m args below meth c H locs ls hC hP hS hl T hT X
  exact ⟨t, a1, o, b1, b2, Or.inl ⟨b3, L, ⟨b4.1, b4.2.1, b4.2.2.mono (by omega) (by omega)⟩, b5⟩⟩
/-- an exception class that a method throws -/
def EXW (own : String) (ik ic : Nat) (E : String) : Prop := Bundle.fit E = true ∧ Cond.classLink own ik E ∈ wsL_law ∧ Cond.initialized E ∈ wsL_law ∧ (∀ w ∈ vx_at0 own ic E ["java/lang/RuntimeException", "java/lang/Exception"], w ∈ wsL_law ∨ w ∈ NW) ∧ ∀ w ∈ Cond.classLink own ik E :: Cond.initialized E :: vx_at0 own ic E ["java/lang/RuntimeException", "java/lang/Exception"], vx_ot w = true
theorem NW.tabs : ∀ w ∈ NW, w.onTables = true := fun w hw => by
  simp only [NW, List.mem_cons, List.not_mem_nil, or_false] at hw
  rcases hw with rfl | rfl | rfl | rfl | rfl | rfl | rfl | rfl | rfl <;> rfl
theorem x_throw {E : String} {ik ic : Nat} (hst : g.1.stackTraces = false) (hE : EXW μ.2.1 ik ic E) (d0 : decode μ.1 pc = .ok (.new ik, 3)) (d3 : decode μ.1 (pc + 3) = .ok (.dup, 1)) (d4 : decode μ.1 (pc + 4) = .ok (.invokespecial ic, 3)) (d7 : decode μ.1 (pc + 7) = .ok (.athrow, 1))
    (hf : 6 ≤ R.frames) (hlo : (st.map fun v => v.category).sum + 81 ≤ R.locals) (hc : 1 ≤ R.cells) (hs : 6 ≤ R.slots) (hx : XT E M) : Ok g μ R (FX g post XT) pc lv st M := by
  intro p e s m args below meth c H locs ls hC hP hS hl
  obtain ⟨hexec, hb, hr, hml, hown, hts, hlk, hK, hZ, hex, hN⟩ := id hC
  refine vx_throw0 (names := ["java/lang/RuntimeException", "java/lang/Exception"]) (A := gA g) hexec hb hst hown hE.1 (by decide) (hts _ hE.2.1) (hts _ hE.2.2.1) (fun w hw => ?_) hE.2.2.2.2 hZ.1 hZ.2 hS (hl.1.trans hml.symm) d0 d3 d4 d7 (fun x h => (hex x h).elim) (by show 2 + 3 < R.frames; omega) (by show _ + (13 * (2 + 1) + 42) ≤ R.locals; omega) (by omega) (by omega) hlk (fun t hA hz hq => ?_) (fun z hz => hS.2.2 z hz) (by omega) (by omega)
  · rcases hE.2.2.2.1 w hw with h | h
    · exact hts w h
    · exact va_Nw.use (NW.tabs w h) (hN.2.2.2 w h)
  · refine ⟨M, trivial, ⟨hx, ?_⟩, Nat.le_trans hS.1 hz, fun q h1 h2 => (hq q (Nat.lt_of_lt_of_le h1 hS.1)).trans (hS.2.1 q h1 h2)⟩
    exact HP.kept hP hq
end XT
theorem exw {own : String} {ik ic : Nat} {E : String} (h1 : Bundle.fit E = true) (h2 : Cond.classLink own ik E ∈ wsL_law) (h3 : Cond.initialized E ∈ wsL_law) (hmem : ∀ w ∈ (vx_at0 own ic E ["java/lang/RuntimeException", "java/lang/Exception"]).filter goodWord, w ∈ wsL_law)
    (hd : ((vx_at0 own ic E ["java/lang/RuntimeException", "java/lang/Exception"]).filter (fun w => !goodWord w)).all (fun w => decide (w ∈ NW)) = true) (ho : (Cond.classLink own ik E :: Cond.initialized E :: vx_at0 own ic E ["java/lang/RuntimeException", "java/lang/Exception"]).all vx_ot = true) : EXW own ik ic E := by
  refine ⟨h1, h2, h3, fun w hw => ?_, fun w hw => List.all_eq_true.mp ho w hw⟩
  by_cases e : goodWord w = true
  · exact Or.inl (hmem w (List.mem_filter.mpr ⟨hw, e⟩))
  · refine Or.inr (of_decide_eq_true (List.all_eq_true.mp hd w (List.mem_filter.mpr ⟨hw, ?_⟩)))
    simp at e
    simp [e]
