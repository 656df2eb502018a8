section D1
variable {n : Int} {q : Int → List Int} {M M' : Mem}
theorem JJn.ql (h : JJn n q M) (hn : 0 ≤ n ∧ n ≤ 512) : ∀ c, 0 ≤ c → c < 4 → QL M c (q c) ∧ (q c).length ≤ 40 ∧ ∀ x ∈ q c, 0 ≤ x ∧ x < 40 := fun c c0 c1 => by
  obtain ⟨-, -, b, -⟩ := h.bqn hn.1 c0 c1
  exact ⟨(h.bal.2.2.2.2.2 c c0 c1).1, b.1.len, (h.qn hn c0 c1).2⟩
theorem JJn.qbs (h : JJn n q M) (hn : 0 ≤ n ∧ n ≤ 512) (e : HI M M') : ∀ c, 0 ≤ c → c < 4 → QB M' c (q c) ∧ (q c).length ≤ 40 := fun c c0 c1 => by
  obtain ⟨a, b⟩ := h.rbb hn e c0 c1
  exact ⟨a.2.1, b.1.len⟩
end D1
/-! the law's own body -/
def Cl (g : GG) (b L : Nat) (xs : Nat → Int32) (p : Program) (s : State) (m : MethodId) (meth : Method) (c : Code) : Prop :=
  p.tables.exec = Jvm.exec ∧ c.code = code ∧ meth.sig.returnType = ret ∧ c.maxLocals = 9 ∧ s.vm.findClass RL = some m.cls ∧ (∀ w ∈ lw_tbl, w.before #[Value.ref b] s = true) ∧ meth.locks = false ∧ KK g s ∧ ZZ g s s.heap ∧ NN s ∧ NCs s ∧ va_X b L xs s s.heap ∧ b < s.heap.size ∧ g.2.1 = s.heap.size
def Okl (g : GG) (b L : Nat) (xs : Nat → Int32) (pc : Nat) (lv : List (Nat × Value)) (st : List Value) (M : Mem) (kc ks : Nat) : Prop :=
  ∀ (p : Program) (e : Env) (s : State) (m : MethodId) (below : List Frame) (meth : Method) (c : Code) (H : Heap) (locs : List Loc) (ls : Array Slot),
    Cl g b L xs p s m meth c → HP g M H → va_S (gA g) s.heap H locs → lv_has ls 9 lv →
    W p g.1 e room_1 s m #[Value.ref b] below meth c H locs kc ks (lw_Z below #[Value.ref b] s) (F0 m pc ls st)
def SWL (idx : Nat) (y : MethodName) (cc : ByteArray) (nL : Nat) (hh : List (Nat × Nat × Nat × Nat)) (n : Nat) : Prop := Cond.methodLink RL idx y ∈ wsL_law ∧ Cond.static y ∈ wsL_law ∧ y.cls = RL ∧ Cond.codeWith y cc nL (some .int) hh ∈ wsL_law ∧ (parseMethodDescriptor y.desc).map (fun d => d.parameters.length) = some n
theorem rl_ini : Cond.initialized RL ∈ lw_tbl := inT1 _ (List.mem_of_getElem? (i := 0) rfl)
theorem law_good {w : Cond} (h : w ∈ wsL_law) : (w.onTables && w.keeps) = true ∨ ∃ ty, w = .arrayClass ty := good_of_word (List.all_eq_true.mp wsL_good w h)
theorem lg_cmp_self (x : Int64) : lg_cmp x x = 0 := by simp [lg_cmp]
section LW
variable {g : GG} {b L : Nat} {xs : Nat → Int32} {pc : Nat} {lv : List (Nat × Value)} {st rest : List Value} {M : Mem} {kc ks : Nat}
theorem l_sub {lv' : List (Nat × Value)} (is : List Nat) (hs : lv_pick lv is = lv') (k : Okl g b L xs pc lv' st M kc ks) : Okl g b L xs pc lv st M kc ks :=
  fun p e s m below meth c H locs ls hC hP hS hl => k p e s m below meth c H locs ls hC hP hS (lv_sub hl is hs)
theorem l_room {kc' ks' : Nat} (h1 : kc ≤ kc') (h2 : ks ≤ ks') (k : Okl g b L xs pc lv st M kc' ks') : Okl g b L xs pc lv st M kc ks := by
  intro p e s m below meth c H locs ls hC hP hS hl
  exact W.widen h1 h2 (k p e s m below meth c H locs ls hC hP hS hl)
theorem l_rg {o k : Int} (ho : o < 497) (kk : rg (M o k) → Okl g b L xs pc lv st M kc ks) : Okl g b L xs pc lv st M kc ks := by
  intro p e s m below meth c H locs ls hC hP hS hl
  exact kk (hP.1 o k ho) p e s m below meth c H locs ls hC hP hS hl
theorem l_iconst {i : Int} (z : Int) (hd : decode code pc = .ok (.iconst i, 1)) (hz : Int32.ofInt i = iZ z) (k : Okl g b L xs (pc + 1) lv (iv z :: st) M kc ks) : Okl g b L xs pc lv st M kc ks := by
  intro p e s m below meth c H locs ls hC hP hS hl
  exact lv_iconst hC.1 hC.2.1 hd hz (k p e s m below meth c H locs ls hC hP hS hl)
theorem l_bipush {i : Int} (z : Int) (hd : decode code pc = .ok (.bipush i, 2)) (hz : (Int8.ofInt i).toInt32 = iZ z) (k : Okl g b L xs (pc + 2) lv (iv z :: st) M kc ks) : Okl g b L xs pc lv st M kc ks := by
  intro p e s m below meth c H locs ls hC hP hS hl
  exact lv_bipush hC.1 hC.2.1 hd hz (k p e s m below meth c H locs ls hC hP hS hl)
theorem l_iload {i : Nat} {z : Int} (j : Nat) (hd : decode code pc = .ok (.iload i, 2)) (hv : lv[j]? = some (i, iv z)) (k : Okl g b L xs (pc + 2) lv (iv z :: st) M kc ks) : Okl g b L xs pc lv st M kc ks := by
  intro p e s m below meth c H locs ls hC hP hS hl
  exact lv_iload hC.1 hC.2.1 hd (lv_at hl j hv) (k p e s m below meth c H locs ls hC hP hS hl)
theorem l_aload {i a : Nat} (j : Nat) (hd : decode code pc = .ok (.aload i, 2)) (hv : lv[j]? = some (i, .ref a)) (k : Okl g b L xs (pc + 2) lv (.ref a :: st) M kc ks) : Okl g b L xs pc lv st M kc ks := by
  intro p e s m below meth c H locs ls hC hP hS hl
  exact lv_aload hC.1 hC.2.1 hd (lv_at hl j hv) (k p e s m below meth c H locs ls hC hP hS hl)
theorem l_aload_n {i a : Nat} {q : Fin 4} (j : Nat) (hd : decode code pc = .ok (.aload_n q, 1)) (hi : (q : Nat) = i) (hv : lv[j]? = some (i, .ref a)) (k : Okl g b L xs (pc + 1) lv (.ref a :: st) M kc ks) : Okl g b L xs pc lv st M kc ks := by
  intro p e s m below meth c H locs ls hC hP hS hl
  exact lv_aload_n hC.1 hC.2.1 hd hi (lv_at hl j hv) (k p e s m below meth c H locs ls hC hP hS hl)
theorem l_fload {i : Nat} {x : UInt32} (j : Nat) (hd : decode code pc = .ok (.fload i, 2)) (hv : lv[j]? = some (i, .float x)) (k : Okl g b L xs (pc + 2) lv (.float x :: st) M kc ks) : Okl g b L xs pc lv st M kc ks := by
  intro p e s m below meth c H locs ls hC hP hS hl
  exact lv_fload hC.1 hC.2.1 hd (lv_at hl j hv) (k p e s m below meth c H locs ls hC hP hS hl)
theorem l_dload {i : Nat} {x : UInt64} (j : Nat) (hd : decode code pc = .ok (.dload i, 2)) (hv : lv[j]? = some (i, .double x)) (k : Okl g b L xs (pc + 2) lv (.double x :: st) M kc ks) : Okl g b L xs pc lv st M kc ks := by
  intro p e s m below meth c H locs ls hC hP hS hl
  exact lv_dload hC.1 hC.2.1 hd (lv_at hl j hv) (k p e s m below meth c H locs ls hC hP hS hl)
theorem l_istore {i : Nat} {z : Int} {lv' : List (Nat × Value)} (hd : decode code pc = .ok (.istore i, 2)) (hn : i < 9) (hv : (i, iv z) :: lv.filter (fun q => !(q.1 == i) && !(q.1 + 1 == i && q.2.category == 2)) = lv') (k : Okl g b L xs (pc + 2) lv' st M kc ks) : Okl g b L xs pc lv (iv z :: st) M kc ks := by
  intro p e s m below meth c H locs ls hC hP hS hl
  exact lv_istore hC.1 hC.2.1 hd hl hn hv (fun ls hl => k p e s m below meth c H locs ls hC hP hS hl)
theorem l_fstore {i : Nat} {x : UInt32} {lv' : List (Nat × Value)} (hd : decode code pc = .ok (.fstore i, 2)) (hn : i < 9) (hv : (i, Value.float x) :: lv.filter (fun q => !(q.1 == i) && !(q.1 + 1 == i && q.2.category == 2)) = lv') (k : Okl g b L xs (pc + 2) lv' st M kc ks) : Okl g b L xs pc lv (.float x :: st) M kc ks := by
  intro p e s m below meth c H locs ls hC hP hS hl
  exact lv_fstore hC.1 hC.2.1 hd hl hn hv (fun ls hl => k p e s m below meth c H locs ls hC hP hS hl)
theorem l_dstore {i : Nat} {x : UInt64} {lv' : List (Nat × Value)} (hd : decode code pc = .ok (.dstore i, 2)) (hn : i + 1 < 9) (hv : (i, Value.double x) :: lv.filter (fun q => !(q.1 == i) && (!(q.1 == i + 1) && !(q.1 + 1 == i && q.2.category == 2))) = lv') (k : Okl g b L xs (pc + 2) lv' st M kc ks) : Okl g b L xs pc lv (.double x :: st) M kc ks := by
  intro p e s m below meth c H locs ls hC hP hS hl
  exact lv_dstore hC.1 hC.2.1 hd hl hn hv (fun ls hl => k p e s m below meth c H locs ls hC hP hS hl)
theorem l_iinc {i : Nat} {z y : Int} {lv' : List (Nat × Value)} (j : Nat) (hd : decode code pc = .ok (.iinc i y, 3)) (hj : lv[j]? = some (i, iv z)) (hn : i < 9) (hv : (i, iv (z + y)) :: lv.filter (fun q => !(q.1 == i) && !(q.1 + 1 == i && q.2.category == 2)) = lv') (k : Okl g b L xs (pc + 3) lv' st M kc ks) : Okl g b L xs pc lv st M kc ks := by
  intro p e s m below meth c H locs ls hC hP hS hl
  exact lv_iinc hC.1 hC.2.1 hd hl hj (iZ_add z y) hn hv (fun ls hl => k p e s m below meth c H locs ls hC hP hS hl)
theorem l_goto {off : Int} {tgt : Nat} (hd : decode code pc = .ok (.goto off, 3)) (ht : (pc : Int) + off = (tgt : Int)) (k : Okl g b L xs tgt lv st M kc ks) : Okl g b L xs pc lv st M kc ks := by
  intro p e s m below meth c H locs ls hC hP hS hl
  exact lv_goto hC.1 hC.2.1 hd ht (k p e s m below meth c H locs ls hC hP hS hl)
theorem l_iadd {x y : Int} (hd : decode code pc = .ok (.iadd, 1)) (k : Okl g b L xs (pc + 1) lv (iv (x + y) :: st) M kc ks) : Okl g b L xs pc lv (iv y :: iv x :: st) M kc ks := by
  intro p e s m below meth c H locs ls hC hP hS hl
  refine lv_iadd hC.1 hC.2.1 hd ?_
  rw [iZ_add]
  exact k p e s m below meth c H locs ls hC hP hS hl
theorem l_isub {x y : Int} (hd : decode code pc = .ok (.isub, 1)) (k : Okl g b L xs (pc + 1) lv (iv (x - y) :: st) M kc ks) : Okl g b L xs pc lv (iv y :: iv x :: st) M kc ks := by
  intro p e s m below meth c H locs ls hC hP hS hl
  refine lv_isub hC.1 hC.2.1 hd ?_
  rw [iZ_sub]
  exact k p e s m below meth c H locs ls hC hP hS hl
theorem l_iand {x : Int} (hd : decode code pc = .ok (.iand, 1)) (k : ∀ z, rg z → Okl g b L xs (pc + 1) lv (iv z :: st) M kc ks) : Okl g b L xs pc lv (iv 63 :: iv x :: st) M kc ks := by
  intro p e s m below meth c H locs ls hC hP hS hl
  refine lv_iand hC.1 hC.2.1 hd ?_
  have h9 := k ((iZ x &&& iZ 63).toInt) (rg_of _) p e s m below meth c H locs ls hC hP hS hl
  rw [show iv ((iZ x &&& iZ 63).toInt) = .int (iZ x &&& iZ 63) by show Value.int (iZ _) = _; rw [iZ_of]] at h9
  exact h9
theorem l_i2c {x : Int} (hd : decode code pc = .ok (.i2c, 1)) (k : Okl g b L xs (pc + 1) lv (iv (((iZ x).toUInt32 % 65536).toInt32.toInt) :: st) M kc ks) : Okl g b L xs pc lv (iv x :: st) M kc ks := by
  intro p e s m below meth c H locs ls hC hP hS hl
  exact lv_i2c hC.1 hC.2.1 hd (iZ_of _).symm (k p e s m below meth c H locs ls hC hP hS hl)
theorem l_i2l {a : Int} (hd : decode code pc = .ok (.i2l, 1)) (k : Okl g b L xs (pc + 1) lv (.long (Int64.ofInt (wr a)) :: st) M kc ks) : Okl g b L xs pc lv (iv a :: st) M kc ks := by
  intro p e s m below meth c H locs ls hC hP hS hl
  refine lv_i2l hC.1 hC.2.1 hd ?_ (k p e s m below meth c H locs ls hC hP hS hl)
  unfold wr
  rw [Int64.ofInt_int32ToInt]
theorem l_f2d {x : UInt32} (hd : decode code pc = .ok (.f2d, 1)) (hn : vf_n64 (FP.f2d x)) (k : Okl g b L xs (pc + 1) lv (.double (FP.f2d x) :: st) M kc ks) : Okl g b L xs pc lv (.float x :: st) M kc ks := by
  intro p e s m below meth c H locs ls hC hP hS hl
  exact lv_f2d hC.1 hC.2.1 hd hn (k p e s m below meth c H locs ls hC hP hS hl)
theorem l_lcmpT {x : Int64} (hd : decode code pc = .ok (.lcmp, 1)) (k : Okl g b L xs (pc + 1) lv (iv 0 :: st) M kc ks) : Okl g b L xs pc lv (.long x :: .long x :: st) M kc ks := by
  intro p e s m below meth c H locs ls hC hP hS hl
  refine W.lcmp hC.1 hC.2.1 hd ?_
  rw [lg_cmp_self]
  exact k p e s m below meth c H locs ls hC hP hS hl
theorem l_dcmpT {x : UInt64} (hd : decode code pc = .ok (.dcmp .l, 1)) (hx : Op.cmpValue (FP.dcmp x x) .l = 0) (k : Okl g b L xs (pc + 1) lv (iv 0 :: st) M kc ks) : Okl g b L xs pc lv (.double x :: .double x :: st) M kc ks := by
  intro p e s m below meth c H locs ls hC hP hS hl
  refine lv_dcmp hC.1 hC.2.1 hd ?_
  rw [hx]
  exact k p e s m below meth c H locs ls hC hP hS hl
theorem l_icmp_eqT {a off : Int} {tgt : Nat} (hd : decode code pc = .ok (.if_icmp .eq off, 3)) (ht : (pc : Int) + off = (tgt : Int)) (k : Okl g b L xs tgt lv st M kc ks) : Okl g b L xs pc lv (iv a :: iv a :: st) M kc ks := by
  intro p e s m below meth c H locs ls hC hP hS hl
  exact lv_icmp_eq hC.1 hC.2.1 hd ht (fun q => k p e s m below meth c H locs ls hC hP hS hl) (fun q => absurd rfl q)
theorem l_icmp_gt {a y off : Int} {tgt : Nat} (hd : decode code pc = .ok (.if_icmp .gt off, 3)) (ht : (pc : Int) + off = (tgt : Int)) (ha : rg a) (hb : rg y) (kt : y < a → Okl g b L xs tgt lv st M kc ks) (kf : ¬ (y < a) → Okl g b L xs (pc + 3) lv st M kc ks) : Okl g b L xs pc lv (iv y :: iv a :: st) M kc ks := by
  intro p e s m below meth c H locs ls hC hP hS hl
  exact lv_icmp_gt hC.1 hC.2.1 hd ht (fun q => kt ((iZ_lt hb ha).mp q) p e s m below meth c H locs ls hC hP hS hl) (fun q => kf (fun z => q ((iZ_lt hb ha).mpr z)) p e s m below meth c H locs ls hC hP hS hl)
theorem l_if_eq0 {off : Int} {tgt : Nat} (hd : decode code pc = .ok (.ifCond .eq off, 3)) (ht : (pc : Int) + off = (tgt : Int)) (k : Okl g b L xs tgt lv st M kc ks) : Okl g b L xs pc lv (iv 0 :: st) M kc ks := by
  intro p e s m below meth c H locs ls hC hP hS hl
  exact lv_if_eq hC.1 hC.2.1 hd ht (fun q => k p e s m below meth c H locs ls hC hP hS hl) (fun q => absurd rfl q)
theorem l_if_eq {a off : Int} {tgt : Nat} (hd : decode code pc = .ok (.ifCond .eq off, 3)) (ht : (pc : Int) + off = (tgt : Int)) (ha : rg a) (kt : a = 0 → Okl g b L xs tgt lv st M kc ks) (kf : ¬ (a = 0) → Okl g b L xs (pc + 3) lv st M kc ks) : Okl g b L xs pc lv (iv a :: st) M kc ks := by
  intro p e s m below meth c H locs ls hC hP hS hl
  exact lv_if_eq hC.1 hC.2.1 hd ht (fun q => kt ((iZ_eq ha rg_0).mp q) p e s m below meth c H locs ls hC hP hS hl) (fun q => kf (fun z => q ((iZ_eq ha rg_0).mpr z)) p e s m below meth c H locs ls hC hP hS hl)
theorem l_if_ne {a off : Int} {tgt : Nat} (hd : decode code pc = .ok (.ifCond .ne off, 3)) (ht : (pc : Int) + off = (tgt : Int)) (ha : rg a) (kt : ¬ a = 0 → Okl g b L xs tgt lv st M kc ks) (kf : a = 0 → Okl g b L xs (pc + 3) lv st M kc ks) : Okl g b L xs pc lv (iv a :: st) M kc ks := by
  intro p e s m below meth c H locs ls hC hP hS hl
  exact lv_if_ne hC.1 hC.2.1 hd ht (fun q => kt ((not_congr (iZ_eq ha rg_0)).mp q) p e s m below meth c H locs ls hC hP hS hl) (fun q => kf ((iZ_eq ha rg_0).mp q) p e s m below meth c H locs ls hC hP hS hl)
theorem l_tabOut {a dflt lo hi : Int} {offs : Array Int} {len tgt : Nat} (hd : decode code pc = .ok (.tableswitch dflt lo hi offs, len)) (ha : rg a) (h : a < lo ∨ hi < a) (ht : (pc : Int) + dflt = (tgt : Int)) (k : Okl g b L xs tgt lv st M kc ks) : Okl g b L xs pc lv (iv a :: st) M kc ks := by
  intro p e s m below meth c H locs ls hC hP hS hl
  exact lv_tableOut hC.1 hC.2.1 hd (by rw [iZ_ti ha]; exact h) ht (k p e s m below meth c H locs ls hC hP hS hl)
theorem l_tabIn {a dflt lo hi off : Int} {offs : Array Int} {len tgt : Nat} (hd : decode code pc = .ok (.tableswitch dflt lo hi offs, len)) (ha : rg a) (h1 : ¬ a < lo) (h2 : ¬ hi < a) (ho : offs[(a - lo).toNat]? = some off) (ht : (pc : Int) + off = (tgt : Int)) (k : Okl g b L xs tgt lv st M kc ks) : Okl g b L xs pc lv (iv a :: st) M kc ks := by
  intro p e s m below meth c H locs ls hC hP hS hl
  exact lv_tableIn hC.1 hC.2.1 hd (by rw [iZ_ti ha]; exact h1) (by rw [iZ_ti ha]; exact h2) (by rw [iZ_ti ha]; exact ho) ht (k p e s m below meth c H locs ls hC hP hS hl)
theorem iZ_nat (n : Nat) : Int32.ofNat n = iZ (n : Int) := rfl
theorem l_slen (hd : decode code pc = .ok (.arraylength, 1)) (k : Okl g b L xs (pc + 1) lv (iv (L : Int) :: st) M kc ks) : Okl g b L xs pc lv (.ref b :: st) M kc ks := by
  intro p e s m below meth c H locs ls hC hP hS hl
  obtain ⟨hx, hb, hr, hml, hown, hts, hlk, hK, hZ, hN, hNc, hX, hbl, hg⟩ := id hC
  exact va_slen hx hb hX hbl (by show ¬ g.2.1 ≤ b; omega) hS hd (k p e s m below meth c H locs ls hC hP hS hl)
theorem l_sld {i : Int} {j : Nat} (hd : decode code pc = .ok (.iaload, 1)) (hi : i = (j : Int)) (hj : j < L) (hL : L ≤ 2048) (k : Okl g b L xs (pc + 1) lv (iv ((xs j).toInt) :: st) M kc ks) : Okl g b L xs pc lv (iv i :: .ref b :: st) M kc ks := by
  intro p e s m below meth c H locs ls hC hP hS hl
  obtain ⟨hx, hb, hr, hml, hown, hts, hlk, hK, hZ, hN, hNc, hX, hbl, hg⟩ := id hC
  subst hi
  refine va_sld hx hb hX hbl (by show ¬ g.2.1 ≤ b; omega) hS (i := iZ (j : Int)) (iZ_in (by omega) (by omega) (by omega)) hd ?_
  have h9 := k p e s m below meth c H locs ls hC hP hS hl
  rw [iZ_cl (by omega) (by omega), Int.toNat_natCast]
  rw [show iv ((xs j).toInt) = .int (xs j) by show Value.int (iZ _) = _; rw [iZ_of]] at h9
  exact h9
theorem l_laload (hd : decode code pc = .ok (.laload, 1)) (k : Okl g b L xs (pc + 1) lv (.long (Int64.ofInt (M 497 0)) :: st) M kc ks) : Okl g b L xs pc lv (iv 0 :: rv g 497 :: st) M kc ks := by
  intro p e s m below meth c H locs ls hC hP hS hl
  obtain ⟨hx, hb, hr, hml, hown, hts, hlk, hK, hZ, hN, hNc, hX, hbl, hg⟩ := id hC
  refine W.lald hx hb (x_arr k_497 (by decide) hP) (hK.2.2.2.2.1 1 _) (fun q => by cases q) (by rw [arrV_size]; exact iZ_in (z := 0) (n := 1) (by omega) (by omega) (by omega)) (v := .long (Int64.ofInt (M 497 0))) ?_ rfl rfl hd (k p e s m below meth c H locs ls hC hP hS hl)
  rw [iZ_cl (z := 0) (by omega) (by omega)]
  exact arrV_read _ _ (by decide)
theorem l_daload (hd : decode code pc = .ok (.daload, 1)) (k : Okl g b L xs (pc + 1) lv (.double (UInt64.ofNat (M 498 0).toNat) :: st) M kc ks) : Okl g b L xs pc lv (iv 0 :: rv g 498 :: st) M kc ks := by
  intro p e s m below meth c H locs ls hC hP hS hl
  obtain ⟨hx, hb, hr, hml, hown, hts, hlk, hK, hZ, hN, hNc, hX, hbl, hg⟩ := id hC
  refine W.dald hx hb (x_arr k_498 (by decide) hP) (hK.2.2.2.2.2.1 1 _) (fun q => by cases q) (by rw [arrV_size]; exact iZ_in (z := 0) (n := 1) (by omega) (by omega) (by omega)) (v := .double (UInt64.ofNat (M 498 0).toNat)) ?_ rfl rfl hd (k p e s m below meth c H locs ls hC hP hS hl)
  rw [iZ_cl (z := 0) (by omega) (by omega)]
  exact arrV_read _ _ (by decide)
/-- a call of the class or of the reference -/
theorem l_callV {t n idx : Nat} {o : Int} {y : MethodName} {cc : ByteArray} {nL d na : Nat} {ret : Option FieldType} {as : List Value} {post : Option Value → Mem → Prop}
    (hd : decode code pc = .ok (.invokevirtual idx, 3)) (hw : VL RL idx t y cc nL ret na) (hk : isK t n o) (hC : Ct g y cc nL ret d (rv g o :: as) M post) (hst : st = as.reverse ++ rv g o :: rest) (hn : as.length = na) (hcat : (rest.map fun v => v.category).sum ≤ 8)
    (hR : d + 2 ≤ 18 ∧ 8 + (nL + 11) + 40 * (d + 1) ≤ 10774) (hroom : kc ≤ 603072 ∧ ks ≤ 7215210) (kk : ∀ (v : Option Value) (M' : Mem), post v M' → Okl g b L xs (pc + 3) lv (v.toList ++ rest) M' kc ks) : Okl g b L xs pc lv st M kc ks := by
  intro p e s m below meth c H locs ls hCx hP hS hl
  obtain ⟨hx, hb, hr, hml, hown, hts, hlk, hK, hZ, hN, hNc, hX, hbl, hg⟩ := id hCx
  have htl : ∀ w ∈ wsL_law, w.before #[Value.ref b] s = true := fun w hw => hts w (wsL_law_in w hw)
  obtain ⟨⟨T, N, hkc⟩, w1, w2, w3, w4, w5, w6, w7⟩ := hw
  have ht : t < 10 := (List.getElem?_eq_some_iff.mp hkc).1
  intro T0 hT X
  have cw : CallW room_1 s #[Value.ref b] RL y.cls idx y cc nL ret (Cond.code y cc nL ret :: wsL_law) (rmd d) 0 0 na :=
    ⟨callB_of na htl (wsL_in w5) rfl rfl rfl (htl _ w4) (htl _ w1) ⟨w6.1, w6.2, w7⟩ ⟨hR.1, hR.2⟩, htl _ w2, htl _ w3⟩
  have hp : PreV s H y.cls (g.2.1 + o.toNat) (Pcx g (rv g o :: as) M) as := by
    refine ⟨Pcx.blind, ?_, fun U hU hW => ⟨rfl, by rw [hU]; exact hP, KK.moved hW.alike hK, by rw [hU]; exact ZZ.moved hW.alike (hZ.kept hS.2.1), NN.warm hW hN⟩⟩
    obtain ⟨cell, q1, q2, q3, q4⟩ := x_obj hk ht hP
    exact ⟨cell, q1, by rw [q3]; rfl, by rw [q2]; exact (hK.1.1 t _ hkc).2.1⟩
  obtain ⟨v, st₀, tt, T', L', h0, X', hL, e1, e2, ⟨⟨v', M', hv, hpost, hHP⟩, hF⟩, stp⟩ := va_runV (As := as) (rest := rest) (g := F0 m pc ls st) ⟨hx, hb, hml, hown, htl⟩ hC cw hp rfl hn hl.1 hst (by simpa [F0, JFrame.monitorRoom] using hcat) hd ⟨hroom.1, hroom.2⟩ T0 hT X
  cases hv
  obtain ⟨f1, f2⟩ := hF
  rw [h0] at f1 f2
  have hS1 : va_S (gA g) s.heap T'.heap (locs ++ L') := hS.call (by rw [e1]; exact f1) (fun q h1 h2 => by rw [e1]; exact f2 q h1 h2) hL
  obtain ⟨t2, a1, b1⟩ := kk v M' hpost p e s m below meth c T'.heap (locs ++ L') ls hCx (by rw [e1]; exact hHP) hS1 hl T' rfl X'
  exact ⟨t2, stp t2 a1, b1⟩
/-- a call of a method of the law's -/
theorem l_callW {idx : Nat} {y : MethodName} {cc : ByteArray} {nL d na : Nat} {hh : List (Nat × Nat × Nat × Nat)} {as : List Value} {P : Int → Mem → Prop}
    (hd : decode code pc = .ok (.invokestatic idx, 3)) (hw : SWL idx y cc nL hh na) (hC : Cw g y cc nL hh d as M (pI P)) (hst : st = as.reverse) (hn : as.length = na)
    (hR : d + 8 ≤ 18 ∧ 8 + (nL + 11) + (40 * (d + 1) + 200) ≤ 10774) (hroom : kc + 1 ≤ 603072 ∧ ks + 6 ≤ 7215210) (kk : ∀ (z : Int) (M' : Mem), P z M' → Okl g b L xs (pc + 3) lv [iv z] M' (kc + 1) (ks + 6)) : Okl g b L xs pc lv st M kc ks := by
  intro p e s m below meth c H locs ls hCx hP hS hl
  obtain ⟨hx, hb, hr, hml, hown, hts, hlk, hK, hZ, hN, hNc, hX, hbl, hg⟩ := id hCx
  obtain ⟨w1, w2, w3, w4, w5⟩ := hw
  intro T0 hT X
  have hG : GoodIn lw_tbl (va_wsS RL idx y (Cond.codeWith y cc nL (some .int) hh :: wsL_law)) := by
    intro w hw2
    have h9 : w = Cond.initialized RL ∨ w ∈ wsL_law := by
      unfold va_wsS at hw2
      rw [w3] at hw2
      simp only [List.mem_append, List.mem_cons, List.not_mem_nil, or_false] at hw2
      rcases hw2 with (rfl | rfl | rfl) | rfl | h
      · exact Or.inr w1
      · exact Or.inr w2
      · exact Or.inl rfl
      · exact Or.inr w4
      · exact Or.inr h
    rcases h9 with rfl | h
    · exact ⟨rl_ini, Or.inl rfl⟩
    · exact ⟨wsL_law_in w h, law_good h⟩
  have cw := vx_cwSW (R := room_1) (s := s) (args := #[Value.ref b]) (own := RL) (index := idx) (y := y) (bytes := cc) (maxL := nL) (ret := some .int) (hh := hh) (ws := Cond.codeWith y cc nL (some .int) hh :: wsL_law) (rm := rmw d) (mc := 1) (ms := 6) na hts hG rfl rfl rfl ⟨by rw [w3]; decide +kernel, by rw [w3]; decide +kernel, w5⟩ ⟨hR.1, hR.2⟩
  have hp : PreS s H (Pcw g as M) as := ⟨Pcw.blind, fun U hU hW => ⟨⟨rfl, by rw [hU]; exact hP, KK.moved hW.alike hK, by rw [hU]; exact ZZ.moved hW.alike (hZ.kept hS.2.1), NN.warm hW hN⟩, NCs.moved hW.alike hNc⟩⟩
  obtain ⟨v, st₀, tt, T', L', h0, X', hL, e1, e2, ⟨⟨v', M', hv, hpost, hHP⟩, hF⟩, stp⟩ := vx_runSW (As := as) (rest := []) (g := F0 m pc ls st) ⟨hx, hb, hml, hown, hts⟩ hC cw hp rfl hn hl.1 (by rw [hst]; exact (List.append_nil _).symm) (by simp [F0, JFrame.monitorRoom]) hd ⟨hroom.1, hroom.2⟩ T0 hT X
  cases hv
  obtain ⟨z, rfl, hq⟩ := hpost
  obtain ⟨f1, f2⟩ := hF
  rw [h0] at f1 f2
  have hS1 : va_S (gA g) s.heap T'.heap (locs ++ L') := hS.call (by rw [e1]; exact f1) (fun q h1 h2 => by rw [e1]; exact f2 q h1 h2) hL
  obtain ⟨t2, a1, b1⟩ := kk z M' hq p e s m below meth c T'.heap (locs ++ L') ls hCx (by rw [e1]; exact hHP) hS1 hl T' rfl X'
  exact ⟨t2, stp t2 a1, b1⟩
theorem l_ret (hd : decode code pc = .ok (.ireturn, 1)) (hroom : kc ≤ 603072 ∧ ks ≤ 7215210) : Okl g b L xs pc lv [iv 1] M kc ks := by
  intro p e s m below meth c H locs ls hCx hP hS hl
  obtain ⟨hx, hb, hr, hml, hown, hts, hlk, hK, hZ, hN, hNc, hX, hbl, hg⟩ := id hCx
  refine va_forget (fun q hq => by have := hS.2.2 q hq; change g.2.1 ≤ q.base at this; rw [← hg]; exact this) ?_
  refine W.widen hroom.1 hroom.2 ?_
  exact lw_ret (d0 := s.drawn) (Drawn.sameBut.refl s.drawn lw_cs) hx hb hr hlk hd
end LW
