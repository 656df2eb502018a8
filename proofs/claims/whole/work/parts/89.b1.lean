theorem DF_of {a i : Nat} {V : VM} {o k : Nat} (h : o ≠ a ∨ k < i) : DF a i V o k = V o k := by
  unfold DF
  rw [if_neg (by omega)]
theorem DF_at {a i : Nat} {V : VM} {k : Nat} (h : i ≤ k) : DF a i V a k = dvl (kdN a).1 k := by
  unfold DF
  rw [if_pos ⟨rfl, h⟩]
theorem HV.born {g : GG} {n : Nat} {V : VM} {H H1 : Heap} (h : HV g n V H) (z : H1.size = g.2.1 + n + 1) (o1 : ∀ q, q < g.2.1 + n → H1[q]? = H[q]?) (hn : OB g (n : Int) (kdN n) (fun k => dvl (kdN n).1 k) H1) : HV g (n + 1) (DF n 0 V) H1 := by
  refine ⟨by omega, fun o ho => ?_⟩
  by_cases e : o = n
  · subst e
    exact hn.cong (fun k _ => (DF_at (Nat.zero_le _)).symm)
  · have h2 := (h.2 o (by omega)).old (o1 (g.2.1 + (o : Int).toNat) (by omega))
    exact h2.cong (fun k _ => (DF_of (Or.inl e)).symm)
theorem HV.set {g : GG} {n o i j : Nat} {V : VM} {H H1 : Heap} {W : Nat → Value} (h : HV g n (DF o i V) H) (z : H1.size = H.size) (o1 : ∀ q, q ≠ g.2.1 + o → H1[q]? = H[q]?) (hn : OB g (o : Int) (kdN o) W H1) (hW : ∀ k, k < (kdN o).2 → W k = DF o j V o k) : HV g n (DF o j V) H1 := by
  refine ⟨by rw [z]; exact h.1, fun o' ho => ?_⟩
  by_cases e : o' = o
  · subst e
    exact hn.cong hW
  · have h2 := (h.2 o' ho).old (o1 (g.2.1 + (o' : Int).toNat) (by omega))
    exact h2.cong (fun k _ => (DF_of (Or.inl e)).trans (DF_of (Or.inl e)).symm)
theorem va_S.push {g : GG} {H0 H H1 : Heap} {locs : List Loc} {n : Nat} (hS : va_S (gA g) H0 H locs) (hz : H.size = n) (z : H1.size = n + 1) (o1 : ∀ q, q < n → H1[q]? = H[q]?) : va_S (gA g) H0 H1 locs :=
  ⟨Nat.le_trans hS.1 (by omega), fun q h1 h2 => (o1 q (by have := hS.1; omega)).trans (hS.2.1 q h1 h2), hS.2.2⟩
/-- the words of things that constructors do -/
def OW (own : String) (idx : Nat) : Prop := Cond.methodLink own idx objectInit ∈ wsL_law ∧ Cond.instanceMethod objectInit ∈ wsL_law ∧ Cond.code objectInit ⟨#[0xb1]⟩ 1 none ∈ wsL_law
def NWd (own : String) (idx t N : Nat) : Prop := ∃ (C : String) (T : u_T) (ty0 : Nat → FieldType), kcl[t]? = some (C, T, N) ∧ Cond.classLink own idx C ∈ wsL_law ∧ Cond.instantiable C N ∈ wsL_law ∧ Cond.initialized C ∈ wsL_law ∧ (∀ w ∈ u_ws C T N, w ∈ wsL_law) ∧ (∀ k, k < N → parseFieldDescriptor (T k).2.2.1 = some (ty0 k)) ∧ ∀ k, k < N → defaultValue (ty0 k) = dvl t k
def AT (g : GG) (ta : Nat) (ty : FieldType) : Prop := ¬ ta < 10 ∧ (∀ U, KA g U → U.vm.findClass ("[" ++ ty.toString) = some (g.2.2.2 ta)) ∧ ∀ k, defaultValue ty = dvl ta k
def RT (g : GG) (tb : Nat) (C : String) : Prop := ¬ tb < 10 ∧ (∀ U, KA g U → va_AO C U ∧ U.vm.findClass ("[" ++ (FieldType.object C).toString) = some (g.2.2.2 tb)) ∧ ∀ k, Value.null = dvl tb k
def FP (own : String) (idx t N k : Nat) (ty : FieldType) : Prop := ∃ (C : String) (T : u_T) (ty0 : Nat → FieldType), kcl[t]? = some (C, T, N) ∧ k < N ∧ Cond.fieldLink own idx (T k).1 (T k).2.1 (T k).2.2.1 ∈ wsL_law ∧ (∀ w ∈ u_ws C T N, w ∈ wsL_law) ∧ ((T k).2.2.2 = false ∨ ((T k).2.2.2 = true ∧ (T k).1 = own)) ∧ parseFieldDescriptor (T k).2.2.1 = some ty ∧ (∀ k, k < N → parseFieldDescriptor (T k).2.2.1 = some (ty0 k)) ∧ (∀ a, a < N → ∀ b, b < N → a ≠ b → (T a).2.1 ≠ (T b).2.1)
def IL (own : String) (idx : Nat) (y : MethodName) (cc : ByteArray) (nL : Nat) : Prop := Cond.methodLink own idx y ∈ wsL_law ∧ Cond.instanceMethod y ∈ wsL_law ∧ Cond.initialized y.cls ∈ wsL_law ∧ Cond.code y cc nL none ∈ wsL_law ∧ y.name = "<init>" ∧ (y.cls ≠ "java/lang/invoke/MethodHandle" ∧ y.cls ≠ "java/lang/invoke/VarHandle") ∧ (parseMethodDescriptor y.desc).map (fun d => d.parameters.length) = some 0
theorem at_int (g : GG) : AT g 20 .int := ⟨by decide, fun U h => h.1.1.1, fun _ => rfl⟩
theorem at_char (g : GG) : AT g 21 .char := ⟨by decide, fun U h => h.1.1.2.1, fun _ => rfl⟩
theorem at_bool (g : GG) : AT g 22 .boolean := ⟨by decide, fun U h => h.1.1.2.2.1, fun _ => rfl⟩
theorem at_long (g : GG) : AT g 23 .long := ⟨by decide, fun U h => h.1.1.2.2.2.1, fun _ => rfl⟩
theorem at_double (g : GG) : AT g 24 .double := ⟨by decide, fun U h => h.1.1.2.2.2.2, fun _ => rfl⟩
theorem rt_30 (g : GG) : RT g 30 "Judgefold$Problem" := ⟨by decide, fun U h => ⟨h.1.2.2.1, h.1.2.1.1⟩, fun _ => rfl⟩
theorem rt_31 (g : GG) : RT g 31 "Judgefold$Run" := ⟨by decide, fun U h => ⟨h.1.2.2.2.1, h.1.2.1.2.1⟩, fun _ => rfl⟩
theorem rt_32 (g : GG) : RT g 32 "Judgefold$Numbers" := ⟨by decide, fun U h => ⟨h.1.2.2.2.2.1, h.1.2.1.2.2.1⟩, fun _ => rfl⟩
theorem hv_obj {g : GG} {n o t N : Nat} {V : VM} {H : Heap} (h : HV g n V H) (ho : o < n) (hk : kdN o = (t, N)) (ht : t < 10) : t_OB (g.2.1 + o) (g.2.2.1.1 t) N (g.2.2.1.2 t) H (V o) := by
  have h2 := h.2 o ho
  rw [hk] at h2
  unfold OB at h2
  rw [if_pos ht] at h2
  exact h2
theorem hv_arr {g : GG} {n o t N : Nat} {V : VM} {H : Heap} (h : HV g n V H) (ho : o < n) (hk : kdN o = (t, N)) (ht : ¬ t < 10) : H[g.2.1 + o]? = some (arrV (g.2.2.2 t) N (V o)) := by
  have h2 := h.2 o ho
  rw [hk] at h2
  unfold OB at h2
  rw [if_neg ht] at h2
  exact h2
section ZR
variable {g : GG} {μ : MI} {R : Room} {F : List Frame → Array Value → State → State → Prop} {pc : Nat} {lv : List (Nat × Value)} {st : List Value} {n : Nat} {V : VM} {kc ks : Nat}
theorem z_cg {V' : VM} (e : ∀ o, o < n → ∀ k, k < (kdN o).2 → V o k = V' o k) (k : Okz g μ R F pc lv st n V' kc ks) : Okz g μ R F pc lv st n V kc ks := by
  intro p e' s m args below meth c H locs ls hC hA hI hP hS hl
  exact k p e' s m args below meth c H locs ls hC hA hI (hP.cong e) hS hl
theorem z_sub {lv' : List (Nat × Value)} (is : List Nat) (hs : lv_pick lv is = lv') (k : Okz g μ R F pc lv' st n V kc ks) : Okz g μ R F pc lv st n V kc ks :=
  fun p e s m args below meth c H locs ls hC hA hI hP hS hl => k p e s m args below meth c H locs ls hC hA hI hP hS (lv_sub hl is hs)
theorem z_iconst {i : Int} (z : Int) (hd : decode μ.1 pc = .ok (.iconst i, 1)) (hz : Int32.ofInt i = iZ z) (k : Okz g μ R F (pc + 1) lv (iv z :: st) n V kc ks) : Okz g μ R F pc lv st n V kc ks := by
  intro p e s m args below meth c H locs ls hC hA hI hP hS hl
  exact lv_iconst hC.1 hC.2.1 hd hz (k p e s m args below meth c H locs ls hC hA hI hP hS hl)
theorem z_bipush {i : Int} (z : Int) (hd : decode μ.1 pc = .ok (.bipush i, 2)) (hz : (Int8.ofInt i).toInt32 = iZ z) (k : Okz g μ R F (pc + 2) lv (iv z :: st) n V kc ks) : Okz g μ R F pc lv st n V kc ks := by
  intro p e s m args below meth c H locs ls hC hA hI hP hS hl
  exact lv_bipush hC.1 hC.2.1 hd hz (k p e s m args below meth c H locs ls hC hA hI hP hS hl)
theorem z_sipush {i : Int} (z : Int) (hd : decode μ.1 pc = .ok (.sipush i, 3)) (hz : (Int16.ofInt i).toInt32 = iZ z) (k : Okz g μ R F (pc + 3) lv (iv z :: st) n V kc ks) : Okz g μ R F pc lv st n V kc ks := by
  intro p e s m args below meth c H locs ls hC hA hI hP hS hl
  exact lv_sipush hC.1 hC.2.1 hd hz (k p e s m args below meth c H locs ls hC hA hI hP hS hl)
theorem z_iload_n {i : Nat} {q : Fin 4} {z : Int} (j : Nat) (hd : decode μ.1 pc = .ok (.iload_n q, 1)) (hi : (q : Nat) = i) (hv : lv[j]? = some (i, iv z)) (k : Okz g μ R F (pc + 1) lv (iv z :: st) n V kc ks) : Okz g μ R F pc lv st n V kc ks := by
  intro p e s m args below meth c H locs ls hC hA hI hP hS hl
  exact lv_iload_n hC.1 hC.2.1 hd hi (lv_at hl j hv) (k p e s m args below meth c H locs ls hC hA hI hP hS hl)
theorem z_aload_n {i a : Nat} {q : Fin 4} (j : Nat) (hd : decode μ.1 pc = .ok (.aload_n q, 1)) (hi : (q : Nat) = i) (hv : lv[j]? = some (i, .ref a)) (k : Okz g μ R F (pc + 1) lv (.ref a :: st) n V kc ks) : Okz g μ R F pc lv st n V kc ks := by
  intro p e s m args below meth c H locs ls hC hA hI hP hS hl
  exact lv_aload_n hC.1 hC.2.1 hd hi (lv_at hl j hv) (k p e s m args below meth c H locs ls hC hA hI hP hS hl)
theorem z_istore_n {i : Nat} {q : Fin 4} {z : Int} {lv' : List (Nat × Value)} (hd : decode μ.1 pc = .ok (.istore_n q, 1)) (hi : (q : Nat) = i) (hn : i < μ.2.2.1) (hv : (i, iv z) :: lv.filter (fun q => !(q.1 == i) && !(q.1 + 1 == i && q.2.category == 2)) = lv') (k : Okz g μ R F (pc + 1) lv' st n V kc ks) : Okz g μ R F pc lv (iv z :: st) n V kc ks := by
  intro p e s m args below meth c H locs ls hC hA hI hP hS hl
  exact lv_istore_n hC.1 hC.2.1 hd hi hl hn hv (fun ls hl => k p e s m args below meth c H locs ls hC hA hI hP hS hl)
theorem z_iinc {i : Nat} {q z : Int} {lv' : List (Nat × Value)} (j : Nat) (hd : decode μ.1 pc = .ok (.iinc i q, 3)) (hj : lv[j]? = some (i, iv z)) (hn : i < μ.2.2.1) (hv : (i, iv (z + q)) :: lv.filter (fun q => !(q.1 == i) && !(q.1 + 1 == i && q.2.category == 2)) = lv') (k : Okz g μ R F (pc + 3) lv' st n V kc ks) : Okz g μ R F pc lv st n V kc ks := by
  intro p e s m args below meth c H locs ls hC hA hI hP hS hl
  exact lv_iinc hC.1 hC.2.1 hd hl hj (iZ_add z q) hn hv (fun ls hl => k p e s m args below meth c H locs ls hC hA hI hP hS hl)
theorem z_goto {off : Int} {tgt : Nat} (hd : decode μ.1 pc = .ok (.goto off, 3)) (ht : (pc : Int) + off = (tgt : Int)) (k : Okz g μ R F tgt lv st n V kc ks) : Okz g μ R F pc lv st n V kc ks := by
  intro p e s m args below meth c H locs ls hC hA hI hP hS hl
  exact lv_goto hC.1 hC.2.1 hd ht (k p e s m args below meth c H locs ls hC hA hI hP hS hl)
theorem z_dup {v : Value} (hd : decode μ.1 pc = .ok (.dup, 1)) (hc : v.category = 1) (k : Okz g μ R F (pc + 1) lv (v :: v :: st) n V kc ks) : Okz g μ R F pc lv (v :: st) n V kc ks := by
  intro p e s m args below meth c H locs ls hC hA hI hP hS hl
  exact lv_dup hC.1 hC.2.1 hd hc (k p e s m args below meth c H locs ls hC hA hI hP hS hl)
theorem z_icmp_ge {a b off : Int} {tgt : Nat} (hd : decode μ.1 pc = .ok (.if_icmp .ge off, 3)) (ht : (pc : Int) + off = (tgt : Int)) (ha : rg a) (hb : rg b) (kt : b ≤ a → Okz g μ R F tgt lv st n V kc ks) (kf : ¬ (b ≤ a) → Okz g μ R F (pc + 3) lv st n V kc ks) : Okz g μ R F pc lv (iv b :: iv a :: st) n V kc ks := by
  intro p e s m args below meth c H locs ls hC hA hI hP hS hl
  refine lv_icmp_ge hC.1 hC.2.1 hd ht (fun h => ?_) (fun h => ?_)
  · exact kt ((iZ_le hb ha).mp h) p e s m args below meth c H locs ls hC hA hI hP hS hl
  · exact kf (fun q => h ((iZ_le hb ha).mpr q)) p e s m args below meth c H locs ls hC hA hI hP hS hl
theorem z_obj {idx a : Nat} (hd : decode μ.1 pc = .ok (.invokespecial idx, 3)) (hw : OW μ.2.1 idx) (hf : 1 ≤ R.frames) (hlo : (st.map fun v => v.category).sum + 12 ≤ R.locals) (k : Okz g μ R F (pc + 3) lv st n V kc ks) : Okz g μ R F pc lv (.ref a :: st) n V kc ks := by
  intro p e s m args below meth c H locs ls hC hA hI hP hS hl
  obtain ⟨hx, hb, hr, hml, hown, hts, hlk, hK, hZ, hex⟩ := id hC
  exact W.objInit hx hb hown (hts _ hw.1) (hts _ hw.2.1) (hts _ hw.2.2) rfl (hl.1.trans hml.symm) rfl hd hf (by simpa [F0, JFrame.monitorRoom] using hlo) (k p e s m args below meth c H locs ls hC hA hI hP hS hl)
theorem z_new {idx t N : Nat} (hd : decode μ.1 pc = .ok (.new idx, 3)) (hw : NWd μ.2.1 idx t N) (hk : kdN n = (t, N)) (hc : kc + 1 ≤ R.cells) (hs : ks + N ≤ R.slots) (k : Okz g μ R F (pc + 3) lv (rf g n :: st) (n + 1) (DF n 0 V) (kc + 1) (ks + N)) : Okz g μ R F pc lv st n V kc ks := by
  intro p e s m args below meth c H locs ls hC hA hI hP hS hl
  obtain ⟨hx, hb, hr, hml, hown, hts, hlk, hK, hZ, hex⟩ := id hC
  obtain ⟨C, T, ty0, w1, w2, w3, w4, w5, w6, w7⟩ := hw
  have hKn := hK.1.1 t _ w1
  have ht : t < 10 := (List.getElem?_eq_some_iff.mp w1).1
  refine W.newcK hx hb hown (hts _ w2) (hts _ w3) (hts _ w4) rfl hd hc hs hKn.2.1 hP.1 fun H1 kC hkC e1 z1 o1 => ?_
  refine k p e s m args below meth c H1 locs ls hC hA hI (hP.born z1 o1 ?_) (hS.push hP.1 z1 o1) hl
  rw [hk]
  unfold OB
  rw [if_pos ht]
  exact (u_born ty0 hts w5 hKn hkC e1 w6).to w7
theorem z_newa {at' : ArrayType} {ta N : Nat} {z : Int} (hd : decode μ.1 pc = .ok (.newarray at', 2)) (hat : AT g ta (newarray.typeOf at')) (hw : Cond.arrayClass (newarray.typeOf at') ∈ wsL_law) (hk : kdN n = (ta, N)) (hz : z = N) (hN2 : N < 2000) (hb8 : componentBytes (newarray.typeOf at') ≤ 8) (hc : kc + 1 ≤ R.cells) (hs : ks + N ≤ R.slots)
    (k : Okz g μ R F (pc + 2) lv (rf g n :: st) (n + 1) (DF n 0 V) (kc + 1) (ks + N)) : Okz g μ R F pc lv (iv z :: st) n V kc ks := by
  intro p e s m args below meth c H locs ls hC hA hI hP hS hl
  obtain ⟨hx, hb, hr, hml, hown, hts, hlk, hK, hZ, hex⟩ := id hC
  subst hz
  refine va_newaK hx hb (hts _ hw) rfl hd rfl (N := N) ?_ ?_ ?_ hc hs hP.1 fun H1 cA e1 z1 o1 hAr hNm => ?_
  · rw [← iZ_0, iZ_lt ⟨by omega, by omega⟩ ⟨by omega, by omega⟩]; omega
  · rw [iZ_cl (by omega) (by omega)]; omega
  · exact Nat.le_trans (Nat.mul_le_mul (Nat.le_of_lt hN2) hb8) (by decide)
  · refine k p e s m args below meth c H1 locs ls hC hA hI (hP.born z1 o1 ?_) (hS.push hP.1 z1 o1) hl
    rw [hk]
    unfold OB
    rw [if_neg hat.1]
    cases (hat.2.1 s hA).symm.trans hNm
    exact e1.trans (congrArg some (arrV_cong (fun k _ => hat.2.2 k)))
theorem z_anew {idx tb N : Nat} {C : String} {z : Int} (hd : decode μ.1 pc = .ok (.anewarray idx, 3)) (hrt : RT g tb C) (hw : Cond.classLink μ.2.1 idx C ∈ wsL_law) (hk : kdN n = (tb, N)) (hz : z = N) (hN2 : N < 2000) (hc : kc + 1 ≤ R.cells) (hs : ks + N ≤ R.slots)
    (k : Okz g μ R F (pc + 3) lv (rf g n :: st) (n + 1) (DF n 0 V) (kc + 1) (ks + N)) : Okz g μ R F pc lv (iv z :: st) n V kc ks := by
  intro p e s m args below meth c H locs ls hC hA hI hP hS hl
  obtain ⟨hx, hb, hr, hml, hown, hts, hlk, hK, hZ, hex⟩ := id hC
  subst hz
  have hz : ((N : Int).toNat) = N := by omega
  have hcl : (iZ (N : Int)).toNatClampNeg = N := by rw [iZ_cl (by omega) (by omega)]; exact hz
  have hs' : ks + (iZ (N : Int)).toNatClampNeg ≤ R.slots := by rw [hcl]; exact hs
  refine W.anew hx hb hown (hts _ hw) (va_AO.use (hrt.2.1 s hA).1) rfl hd rfl ?_ ?_ hc hs' fun cA kA comp f1 f2 f3 f4 => ?_
  · rw [← iZ_0, iZ_lt ⟨by omega, by omega⟩ ⟨by omega, by omega⟩]; omega
  · rw [hcl]; omega
  · rw [hcl]
    cases (hrt.2.1 s hA).2.symm.trans f1
    generalize hH1 : H.push ({ cls := g.2.2.2 tb, slots := Array.replicate N .null, vm := .none } : Cell) = H1
    have hPz := hP.1
    have z1 : H1.size = g.2.1 + n + 1 := by rw [← hH1, Array.size_push, hPz]
    have e1 : H1[g.2.1 + n]? = some (arrV (g.2.2.2 tb) N (fun _ => .null)) := by rw [← hH1, ← hPz, Array.getElem?_push_size, ← arrV_new]
    have o1 : ∀ q : Nat, q < g.2.1 + n → H1[q]? = H[q]? := fun q hq => by rw [← hH1, Array.getElem?_push, if_neg (by omega)]
    rw [hPz]
    refine k p e s m args below meth c H1 locs ls hC hA hI (hP.born z1 o1 ?_) (hS.push hP.1 z1 o1) hl
    rw [hk]
    unfold OB
    rw [if_neg hrt.1]
    exact e1.trans (congrArg some (arrV_cong (fun k _ => hrt.2.2 k)))
theorem z_put {idx t N k o j : Nat} {v : Value} {ty : FieldType} (hd : decode μ.1 pc = .ok (.putfield idx, 3)) (hf : FP μ.2.1 idx t N k ty) (ho : o < n) (hk : kdN o = (t, N)) (hn : narrow ty v = v) (hfit : fits ty v = true) (hv : V o k = v) (hj : k < j) (hm : ∀ i, k < i → i < j → V o i = dvl t i)
    (kk : Okz g μ R F (pc + 3) lv st n (DF o j V) kc ks) : Okz g μ R F pc lv (v :: rf g o :: st) n (DF o k V) kc ks := by
  intro p e s m args below meth c H locs ls hC hA hI hP hS0 hl
  obtain ⟨hx, hb, hr, hml, hown, hts, hlk, hK, hZ, hex⟩ := id hC
  obtain ⟨C, T, ty0, hc, hkn, hlink, hin, hfin, hpd, hty, hnm⟩ := hf
  have ht : t < 10 := (List.getElem?_eq_some_iff.mp hc).1
  have hap := va_apart (own := μ.2.1) hts hin ty0 hty hnm hK.1 hc
  obtain ⟨cell, q1, q2, q3, q4⟩ := hv_obj hP ho hk ht
  obtain ⟨hS, hfc, kC, hkC, hkind⟩ := hK.1.1 t _ hc
  obtain ⟨cf, kf, fi, f, hi, hsl⟩ := hS k hkn
  have hst := (u_facts hfc hkC (u_lays hts hin hkn) hi).1
  have fin : ∀ (H' : Heap), H'[g.2.1 + o]? = some (cell.setSlot (g.2.2.1.2 t k) v) → H'.size = H.size → (∀ q, q ≠ g.2.1 + o → H'[q]? = H[q]?) → HV g n (DF o j V) H' := by
    intro H' e1 e2 e3
    refine hP.set (W := updV (DF o k V o) k v) e2 e3 ?_ (fun i hi => ?_)
    · rw [hk]
      unfold OB
      rw [if_pos ht]
      exact ⟨_, e1, q2, q3, t_set q4 hap hkn v⟩
    · by_cases e1 : i = k
      · subst e1
        rw [DF_of (Or.inr hj)]
        simp [updV, hv]
      · have e2 : updV (DF o k V o) k v i = DF o k V o i := by simp [updV, e1]
        rw [e2]
        rcases Nat.lt_or_ge i k with w | w
        · rw [DF_of (Or.inr w), DF_of (Or.inr (by omega))]
        · rw [DF_at w]
          rcases Nat.lt_or_ge i j with w2 | w2
          · rw [DF_of (Or.inr w2), hm i (by omega) w2, hk]
          · rw [DF_at w2]
  rcases hfin with hfin | ⟨hfin, hdecl⟩
  · have hlay := hts _ (hin _ (u_in_lay hkn))
    unfold u_lay at hlay
    rw [if_neg (by rw [hfin]; decide)] at hlay
    have h6 := u_store hfc hkC hkind hlay hi hpd hn hfit
    refine W.putK hx hb (f := f) ⟨hown, hts _ hlink, ⟨_, _, _, hi⟩, hst⟩ (by rw [q2]; exact h6) q1 q3 (by rw [hsl]; exact k2_hasslot (q4 k hkn)) rfl rfl hd fun H' e1 e2 e3 => ?_
    rw [hsl] at e1 ⊢
    exact kk p e s m args below meth c H' _ ls hC hA hI (fin H' e1 e2 e3) (hS0.put e2 e3 (Nat.le_add_right _ _)) hl
  · have hlay := hts _ (hin _ (u_in_lay hkn))
    unfold u_lay at hlay
    rw [if_pos hfin] at hlay
    have hcf : m.cls = cf := by
      obtain ⟨_, _, c', _, _, _, -, -, hf', -, -, -, hown2, -⟩ := Cond.laysFinal_spec hlay
      have e1 : c' = cf := by have := hi.symm.trans hf'; simp at this; exact this.1.symm
      rw [hdecl] at hown2
      rw [← e1]; exact Option.some.inj (hown.symm.trans hown2)
    have h6 := u_fits hfc hkC hkind (Or.inr hlay) hi hpd hn hfit
    refine W.putFinK hx hb hown (hts _ hlink) hi hst hcf hI (by rw [q2]; exact h6) q1 q3 (by rw [hsl]; exact k2_hasslot (q4 k hkn)) rfl rfl hd fun H' e1 e2 e3 => ?_
    rw [hsl] at e1 ⊢
    exact kk p e s m args below meth c H' _ ls hC hA hI (fin H' e1 e2 e3) (hS0.put e2 e3 (Nat.le_add_right _ _)) hl
theorem z_get {idx t N k o : Nat} {v : Value} (hd : decode μ.1 pc = .ok (.getfield idx, 3)) (hf : FL μ.2.1 idx t N k) (ho : o < n) (hk : kdN o = (t, N)) (hv : V o k = v) (kk : Okz g μ R F (pc + 3) lv (v :: st) n V kc ks) : Okz g μ R F pc lv (rf g o :: st) n V kc ks := by
  intro p e s m args below meth c H locs ls hC hA hI hP hS0 hl
  have ht := hf.t10
  obtain ⟨hx, hb, hr, hml, hown, hts, hlk, hK, hZ, hex⟩ := id hC
  obtain ⟨C, T, hc, hkn, hlink, hin⟩ := hf
  obtain ⟨cell, q1, q2, q3, q4⟩ := hv_obj hP ho hk ht
  obtain ⟨hS, hfc, kC, hkC, hkind⟩ := hK.1.1 t _ hc
  obtain ⟨cf, kf, fi, f, hi, hsl⟩ := hS k hkn
  refine W.getf hx hb hown (hts _ hlink) hi (u_facts hfc hkC (u_lays hts hin hkn) hi).1 q1 (by rw [q3]; exact fun h => by cases h) (v := v) ?_ rfl rfl hd (kk p e s m args below meth c H locs ls hC hA hI hP hS0 hl)
  rw [hsl, ← hv]
  exact q4 k hkn
theorem hv_ast {t N o i : Nat} {v : Value} {H H1 : Heap} (hP : HV g n (DF o i V) H) (hk : kdN o = (t, N)) (ht : ¬ t < 10) (hi : i < N) (hV : V o i = v) (e1 : H1[g.2.1 + o]? = some ((arrV (g.2.2.2 t) N (DF o i V o)).setSlot i v)) (e2 : H1.size = H.size) (e3 : ∀ q : Nat, q ≠ g.2.1 + o → H1[q]? = H[q]?) : HV g n (DF o (i + 1) V) H1 := by
  refine hP.set (W := updV (DF o i V o) i v) e2 e3 ?_ (fun k hk2 => ?_)
  · rw [hk]
    unfold OB
    rw [if_neg ht]
    exact e1.trans (congrArg some (arrV_store _ _ _ _ _))
  · by_cases e : k = i
    · subst e
      rw [DF_of (Or.inr (by omega)), hV]
      simp [updV]
    · rw [show updV (DF o i V o) i v k = DF o i V o k by simp [updV, e]]
      rcases Nat.lt_or_ge k i with w | w
      · rw [DF_of (Or.inr w), DF_of (Or.inr (by omega))]
      · rw [DF_at w, DF_at (by omega)]
theorem z_iast {o N i : Nat} {x z : Int} (hd : decode μ.1 pc = .ok (.iastore, 1)) (ho : o < n) (hk : kdN o = (20, N)) (hi : i < N) (hx : x = i) (hN : N < 2000) (hV : V o i = iv z) (kk : Okz g μ R F (pc + 1) lv st n (DF o (i + 1) V) kc ks) : Okz g μ R F pc lv (iv z :: iv x :: rf g o :: st) n (DF o i V) kc ks := by
  intro p e s m args below meth c H locs ls hC hA hI hP hS hl
  obtain ⟨hx', hb, hr, hml, hown, hts, hlk, hK, hZ, hex⟩ := id hC
  subst hx
  refine W.iast hx' hb (hv_arr hP ho hk (by decide)) (hK.2.1 N _) (fun q => by cases q) (by rw [arrV_size]; exact iZ_in (by omega) (by omega) (by omega)) rfl rfl hd (fun H1 e1 e2 e3 => ?_)
  exact kk p e s m args below meth c H1 _ ls hC hA hI (hv_ast hP hk (by decide) hi hV (by rw [iZ_cl (by omega) (by omega)] at e1; exact e1) e2 e3) (hS.put e2 e3 (Nat.le_add_right _ _)) hl
theorem z_cast {o N i : Nat} {x z : Int} (hd : decode μ.1 pc = .ok (.castore, 1)) (ho : o < n) (hk : kdN o = (21, N)) (hi : i < N) (hx : x = i) (hN : N < 2000) (hc0 : 0 ≤ z) (hc1 : z < 65536) (hV : V o i = iv z) (kk : Okz g μ R F (pc + 1) lv st n (DF o (i + 1) V) kc ks) : Okz g μ R F pc lv (iv z :: iv x :: rf g o :: st) n (DF o i V) kc ks := by
  intro p e s m args below meth c H locs ls hC hA hI hP hS hl
  obtain ⟨hx', hb, hr, hml, hown, hts, hlk, hK, hZ, hex⟩ := id hC
  subst hx
  refine W.cast hx' hb (hv_arr hP ho hk (by decide)) (hK.2.2.1 N _) (fun q => by cases q) (by rw [arrV_size]; exact iZ_in (by omega) (by omega) (by omega)) rfl rfl hd (fun H1 e1 e2 e3 => ?_)
  rw [iZ_char hc0 hc1] at e1
  exact kk p e s m args below meth c H1 _ ls hC hA hI (hv_ast hP hk (by decide) hi hV (by rw [iZ_cl (by omega) (by omega)] at e1; exact e1) e2 e3) (hS.put e2 e3 (Nat.le_add_right _ _)) hl
theorem z_aast {tb t N N' o i e9 : Nat} {x : Int} {C : String} {T : u_T} (hd : decode μ.1 pc = .ok (.aastore, 1)) (hrt : RT g tb C) (hcl : kcl[t]? = some (C, T, N')) (ho : o < n) (hk : kdN o = (tb, N)) (he : e9 < n) (hne : e9 ≠ o) (hke : kdN e9 = (t, N')) (hi : i < N) (hx : x = i) (hN : N < 2000) (hV : V o i = rf g e9)
    (kk : Okz g μ R F (pc + 1) lv st n (DF o (i + 1) V) kc ks) : Okz g μ R F pc lv (rf g e9 :: iv x :: rf g o :: st) n (DF o i V) kc ks := by
  intro p e s m args below meth c H locs ls hC hA hI hP hS hl
  obtain ⟨hx', hb, hr, hml, hown, hts, hlk, hK, hZ, hex⟩ := id hC
  subst hx
  have ht : t < 10 := (List.getElem?_eq_some_iff.mp hcl).1
  obtain ⟨cellV, g1, g2, g3, -⟩ := hv_obj hP he hke ht
  have hcls := (hK.1.1 t _ hcl).2
  obtain ⟨comp, cA, kA, k3, -, k1, k2, k4⟩ := Cond.arrayOver_spec (va_AO.use (A := args) (hrt.2.1 s hA).1)
  cases (hrt.2.1 s hA).2.symm.trans k4
  have hcomp : comp = g.2.2.1.1 t := Option.some.inj (k3.symm.trans hcls.1)
  subst hcomp
  obtain ⟨kC, hkC, -⟩ := hcls.2
  have hin := iZ_in (z := (i : Int)) (n := N) (by omega) (by omega) (by omega)
  refine W.aast hx' hb (hv_arr hP ho hk hrt.1) (fun q h => by cases h) (fun h => by cases h) k1 k2 rfl hkC ⟨fun w => hin (Or.inl w), by show _ < (arrV _ _ _).slots.size; rw [arrV_size]; exact Nat.not_le.mp fun w => hin (Or.inr w)⟩ g1 (fun q h => by rw [g3] at h; cases h) (by rw [g2]; exact hkC) (by rw [g2]; exact va_assign hcls) rfl rfl hd fun H1 e1 e2 e3 => ?_
  exact kk p e s m args below meth c H1 _ ls hC hA hI (hv_ast hP hk hrt.1 hi hV (by rw [iZ_cl (by omega) (by omega)] at e1; exact e1) e2 e3) (hS.put e2 e3 (Nat.le_add_right _ _)) hl
theorem z_init {idx o n' mc ms d nL : Nat} {y : MethodName} {cc : ByteArray} {V' : VM} (hd : decode μ.1 pc = .ok (.invokespecial idx, 3)) (hw : IL μ.2.1 idx y cc nL) (hC : Ctz g y cc nL d o n n' mc ms V V') (hcat : (st.map fun v => v.category).sum ≤ 8)
    (hR : d + 2 ≤ R.frames ∧ 8 + (nL + 11) + 40 * (d + 1) ≤ R.locals) (hc : kc + mc ≤ R.cells) (hs : ks + ms ≤ R.slots) (kk : Okz g μ R F (pc + 3) lv st n' V' (kc + mc) (ks + ms)) : Okz g μ R F pc lv (rf g o :: st) n V kc ks := by
  intro p e s m args below meth c H locs ls hCx hA hI hP hS hl
  obtain ⟨hx, hb, hr, hml, hown, hts, hlk, hK, hZ, hex⟩ := id hCx
  obtain ⟨w1, w2, w3, w4, w5, w6, w7⟩ := hw
  intro T0 hT X
  have cw := cwI (R := R) (s := s) (args := args) (own := μ.2.1) (index := idx) (y := y) (bytes := cc) (maxL := nL) (ws := Cond.code y cc nL none :: wsL_law) (rm := rmz d mc ms) (mc := mc) (ms := ms) 0 hts (wsL_in w4) rfl rfl rfl (hts _ w3) (hts _ w1) (hts _ w2) w5 ⟨w6.1, w6.2, w7⟩ ⟨hR.1, hR.2⟩
  have hp : PreS s H (Pcz g [rf g o] n V) (.ref (g.2.1 + o) :: []) := ⟨Pcz.blind, fun U hU hW => ⟨rfl, by rw [hU]; exact hP, KK.moved hW.alike hK, by rw [hU]; exact ZZ.moved hW.alike (hZ.kept hS.2.1), NN.warm hW hex.2, hA.warm hW⟩⟩
  obtain ⟨v, st₀, tt, T', L, h0, X', hL, e1, e2, ⟨⟨hv, hHP⟩, hF⟩, stp⟩ := va_runI (As := []) (rest := st) (g := F0 m pc ls (rf g o :: st)) ⟨hx, hb, hml, hown, hts⟩ hC cw hp rfl rfl hl.1 rfl (by simpa [F0, JFrame.monitorRoom] using hcat) hd ⟨hc, hs⟩ T0 hT X
  cases hv
  obtain ⟨f1, f2⟩ := hF
  rw [h0] at f1 f2
  have hS1 : va_S (gA g) s.heap T'.heap (locs ++ L) := hS.call (by rw [e1]; exact f1) (fun q h1 h2 => by rw [e1]; exact f2 q h1 h2) hL
  obtain ⟨t2, a1, b1⟩ := kk p e s m args below meth c T'.heap (locs ++ L) ls hCx hA hI (by rw [e1]; exact hHP) hS1 hl T' rfl X'
  exact ⟨t2, stp t2 a1, b1⟩
/-- the words of a constructor of another class of the nest -/
def ILN (own : String) (idx : Nat) (y : MethodName) (cc : ByteArray) (nL : Nat) : Prop := (∀ s : State, NK s → va_Nw (.methodLinkNest own idx y RX8) s) ∧ Cond.instanceMethod y ∈ wsL_law ∧ Cond.initialized y.cls ∈ wsL_law ∧ Cond.code y cc nL none ∈ wsL_law ∧ y.name = "<init>" ∧ (y.cls ≠ "java/lang/invoke/MethodHandle" ∧ y.cls ≠ "java/lang/invoke/VarHandle") ∧ (parseMethodDescriptor y.desc).map (fun d => d.parameters.length) = some 0
theorem z_initN {idx o n' mc ms d nL : Nat} {y : MethodName} {cc : ByteArray} {V' : VM} (hd : decode μ.1 pc = .ok (.invokespecial idx, 3)) (hw : ILN μ.2.1 idx y cc nL) (hC : Ctz g y cc nL d o n n' mc ms V V') (hcat : (st.map fun v => v.category).sum ≤ 8)
    (hR : d + 2 ≤ R.frames ∧ 8 + (nL + 11) + 40 * (d + 1) ≤ R.locals) (hc : kc + mc ≤ R.cells) (hs : ks + ms ≤ R.slots) (kk : Okz g μ R F (pc + 3) lv st n' V' (kc + mc) (ks + ms)) : Okz g μ R F pc lv (rf g o :: st) n V kc ks := by
  intro p e s m args below meth c H locs ls hCx hA hI hP hS hl
  obtain ⟨hx, hb, hr, hml, hown, hts, hlk, hK, hZ, hex⟩ := id hCx
  obtain ⟨w1, w2, w3, w4, w5, w6, w7⟩ := hw
  intro T0 hT X
  have cw := va_cnB (R := R) (s := s) (args := args) (own := μ.2.1) (index := idx) (y := y) (host := RX8) (rm := rmz d mc ms) (mc := mc) (ms := ms) (ws := Cond.code y cc nL none :: wsL_law) 0 hts (wsL_in w4) rfl rfl rfl (w1 s hA.2) (hts _ w3) ⟨w6.1, w6.2, w7⟩ ⟨hR.1, hR.2⟩
  have hp : PreS s H (Pcz g [rf g o] n V) (.ref (g.2.1 + o) :: []) := ⟨Pcz.blind, fun U hU hW => ⟨rfl, by rw [hU]; exact hP, KK.moved hW.alike hK, by rw [hU]; exact ZZ.moved hW.alike (hZ.kept hS.2.1), NN.warm hW hex.2, hA.warm hW⟩⟩
  obtain ⟨v, st₀, tt, T', L, h0, X', hL, e1, e2, ⟨⟨hv, hHP⟩, hF⟩, stp⟩ := va_runIN (As := []) (rest := st) (g := F0 m pc ls (rf g o :: st)) ⟨hx, hb, hml, hown, hts⟩ hC ⟨cw, w5, hts _ w2⟩ hp rfl rfl hl.1 rfl (by simpa [F0, JFrame.monitorRoom] using hcat) hd ⟨hc, hs⟩ T0 hT X
  cases hv
  obtain ⟨f1, f2⟩ := hF
  rw [h0] at f1 f2
  have hS1 : va_S (gA g) s.heap T'.heap (locs ++ L) := hS.call (by rw [e1]; exact f1) (fun q h1 h2 => by rw [e1]; exact f2 q h1 h2) hL
  obtain ⟨t2, a1, b1⟩ := kk p e s m args below meth c T'.heap (locs ++ L) ls hCx hA hI (by rw [e1]; exact hHP) hS1 hl T' rfl X'
  exact ⟨t2, stp t2 a1, b1⟩
theorem z_vret (hd : decode μ.1 pc = .ok (.return_, 1)) (hr : μ.2.2.2 = none) : Okz g μ R (FZ g n V kc ks) pc lv [] n V kc ks := by
  intro p e s m args below meth c H locs ls hC hA hI hP hS hl
  exact W.vret hC.1 hC.2.1 (hC.2.2.1.trans hr) (fun t ht hW => ⟨⟨rfl, by rw [ht]; exact hP⟩, hS.F ht⟩) hS.2.2 hd hC.2.2.2.2.2.2.1
end ZR
