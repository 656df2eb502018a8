section XR
variable {g : GG} {μ : MI} {R : Room} {F : List Frame → Array Value → State → State → Prop} {pc : Nat} {lv : List (Nat × Value)} {st : List Value} {M : Mem}
theorem x_iconst {n : Int} (z : Int) (hd : decode μ.1 pc = .ok (.iconst n, 1)) (hz : Int32.ofInt n = iZ z) (k : Ok g μ R F (pc + 1) lv (iv z :: st) M) : Ok g μ R F pc lv st M := by
  intro p e s m args below meth c H locs ls hC hP hS hl
  exact lv_iconst hC.1 hC.2.1 hd hz (k p e s m args below meth c H locs ls hC hP hS hl)

theorem x_bipush {n : Int} (z : Int) (hd : decode μ.1 pc = .ok (.bipush n, 2)) (hz : (Int8.ofInt n).toInt32 = iZ z) (k : Ok g μ R F (pc + 2) lv (iv z :: st) M) : Ok g μ R F pc lv st M := by
  intro p e s m args below meth c H locs ls hC hP hS hl
  exact lv_bipush hC.1 hC.2.1 hd hz (k p e s m args below meth c H locs ls hC hP hS hl)

theorem x_sipush {n : Int} (z : Int) (hd : decode μ.1 pc = .ok (.sipush n, 3)) (hz : (Int16.ofInt n).toInt32 = iZ z) (k : Ok g μ R F (pc + 3) lv (iv z :: st) M) : Ok g μ R F pc lv st M := by
  intro p e s m args below meth c H locs ls hC hP hS hl
  exact lv_sipush hC.1 hC.2.1 hd hz (k p e s m args below meth c H locs ls hC hP hS hl)

theorem x_iload {i : Nat} {z : Int} (j : Nat) (hd : decode μ.1 pc = .ok (.iload i, 2)) (hv : lv[j]? = some (i, iv z)) (k : Ok g μ R F (pc + 2) lv (iv z :: st) M) : Ok g μ R F pc lv st M := by
  intro p e s m args below meth c H locs ls hC hP hS hl
  exact lv_iload hC.1 hC.2.1 hd (lv_at hl j hv) (k p e s m args below meth c H locs ls hC hP hS hl)

theorem x_iload_n {i : Nat} {q : Fin 4} {z : Int} (j : Nat) (hd : decode μ.1 pc = .ok (.iload_n q, 1)) (hi : (q : Nat) = i) (hv : lv[j]? = some (i, iv z)) (k : Ok g μ R F (pc + 1) lv (iv z :: st) M) : Ok g μ R F pc lv st M := by
  intro p e s m args below meth c H locs ls hC hP hS hl
  exact lv_iload_n hC.1 hC.2.1 hd hi (lv_at hl j hv) (k p e s m args below meth c H locs ls hC hP hS hl)

theorem x_aload {i : Nat} {a : Nat} (j : Nat) (hd : decode μ.1 pc = .ok (.aload i, 2)) (hv : lv[j]? = some (i, .ref a)) (k : Ok g μ R F (pc + 2) lv (.ref a :: st) M) : Ok g μ R F pc lv st M := by
  intro p e s m args below meth c H locs ls hC hP hS hl
  exact lv_aload hC.1 hC.2.1 hd (lv_at hl j hv) (k p e s m args below meth c H locs ls hC hP hS hl)

theorem x_aload_n {i : Nat} {q : Fin 4} {a : Nat} (j : Nat) (hd : decode μ.1 pc = .ok (.aload_n q, 1)) (hi : (q : Nat) = i) (hv : lv[j]? = some (i, .ref a)) (k : Ok g μ R F (pc + 1) lv (.ref a :: st) M) : Ok g μ R F pc lv st M := by
  intro p e s m args below meth c H locs ls hC hP hS hl
  exact lv_aload_n hC.1 hC.2.1 hd hi (lv_at hl j hv) (k p e s m args below meth c H locs ls hC hP hS hl)

theorem x_lload {i : Nat} {x : Int64} (j : Nat) (hd : decode μ.1 pc = .ok (.lload i, 2)) (hv : lv[j]? = some (i, .long x)) (k : Ok g μ R F (pc + 2) lv (.long x :: st) M) : Ok g μ R F pc lv st M := by
  intro p e s m args below meth c H locs ls hC hP hS hl
  exact lv_lload hC.1 hC.2.1 hd (lv_at hl j hv) (k p e s m args below meth c H locs ls hC hP hS hl)

theorem x_lload_n {i : Nat} {q : Fin 4} {x : Int64} (j : Nat) (hd : decode μ.1 pc = .ok (.lload_n q, 1)) (hi : (q : Nat) = i) (hv : lv[j]? = some (i, .long x)) (k : Ok g μ R F (pc + 1) lv (.long x :: st) M) : Ok g μ R F pc lv st M := by
  intro p e s m args below meth c H locs ls hC hP hS hl
  exact lv_lload_n hC.1 hC.2.1 hd hi (lv_at hl j hv) (k p e s m args below meth c H locs ls hC hP hS hl)

theorem x_istore {i : Nat} {z : Int} {lv' : List (Nat × Value)} (hd : decode μ.1 pc = .ok (.istore i, 2)) (hn : i < μ.2.2.1) (hv : (i, iv z) :: lv.filter (fun q => !(q.1 == i) && !(q.1 + 1 == i && q.2.category == 2)) = lv') (k : Ok g μ R F (pc + 2) lv' st M) : Ok g μ R F pc lv (iv z :: st) M := by
  intro p e s m args below meth c H locs ls hC hP hS hl
  exact lv_istore hC.1 hC.2.1 hd hl hn hv (fun ls hl => k p e s m args below meth c H locs ls hC hP hS hl)

theorem x_istore_n {i : Nat} {q : Fin 4} {z : Int} {lv' : List (Nat × Value)} (hd : decode μ.1 pc = .ok (.istore_n q, 1)) (hi : (q : Nat) = i) (hn : i < μ.2.2.1) (hv : (i, iv z) :: lv.filter (fun q => !(q.1 == i) && !(q.1 + 1 == i && q.2.category == 2)) = lv') (k : Ok g μ R F (pc + 1) lv' st M) : Ok g μ R F pc lv (iv z :: st) M := by
  intro p e s m args below meth c H locs ls hC hP hS hl
  exact lv_istore_n hC.1 hC.2.1 hd hi hl hn hv (fun ls hl => k p e s m args below meth c H locs ls hC hP hS hl)

theorem x_astore {i : Nat} {a : Nat} {lv' : List (Nat × Value)} (hd : decode μ.1 pc = .ok (.astore i, 2)) (hn : i < μ.2.2.1) (hv : (i, .ref a) :: lv.filter (fun q => !(q.1 == i) && !(q.1 + 1 == i && q.2.category == 2)) = lv') (k : Ok g μ R F (pc + 2) lv' st M) : Ok g μ R F pc lv (.ref a :: st) M := by
  intro p e s m args below meth c H locs ls hC hP hS hl
  exact lv_astore hC.1 hC.2.1 hd hl hn hv (fun ls hl => k p e s m args below meth c H locs ls hC hP hS hl)

theorem x_astore_n {i : Nat} {q : Fin 4} {a : Nat} {lv' : List (Nat × Value)} (hd : decode μ.1 pc = .ok (.astore_n q, 1)) (hi : (q : Nat) = i) (hn : i < μ.2.2.1) (hv : (i, .ref a) :: lv.filter (fun q => !(q.1 == i) && !(q.1 + 1 == i && q.2.category == 2)) = lv') (k : Ok g μ R F (pc + 1) lv' st M) : Ok g μ R F pc lv (.ref a :: st) M := by
  intro p e s m args below meth c H locs ls hC hP hS hl
  exact lv_astore_n hC.1 hC.2.1 hd hi hl hn hv (fun ls hl => k p e s m args below meth c H locs ls hC hP hS hl)

theorem x_lstore {i : Nat} {x : Int64} {lv' : List (Nat × Value)} (hd : decode μ.1 pc = .ok (.lstore i, 2)) (hn : i + 1 < μ.2.2.1) (hv : (i, .long x) :: lv.filter (fun q => !(q.1 == i) && (!(q.1 == i + 1) && !(q.1 + 1 == i && q.2.category == 2))) = lv') (k : Ok g μ R F (pc + 2) lv' st M) : Ok g μ R F pc lv (.long x :: st) M := by
  intro p e s m args below meth c H locs ls hC hP hS hl
  exact lv_lstore hC.1 hC.2.1 hd hl hn hv (fun ls hl => k p e s m args below meth c H locs ls hC hP hS hl)

theorem x_lstore_n {i : Nat} {q : Fin 4} {x : Int64} {lv' : List (Nat × Value)} (hd : decode μ.1 pc = .ok (.lstore_n q, 1)) (hi : (q : Nat) = i) (hn : i + 1 < μ.2.2.1) (hv : (i, .long x) :: lv.filter (fun q => !(q.1 == i) && (!(q.1 == i + 1) && !(q.1 + 1 == i && q.2.category == 2))) = lv') (k : Ok g μ R F (pc + 1) lv' st M) : Ok g μ R F pc lv (.long x :: st) M := by
  intro p e s m args below meth c H locs ls hC hP hS hl
  exact lv_lstore_n hC.1 hC.2.1 hd hi hl hn hv (fun ls hl => k p e s m args below meth c H locs ls hC hP hS hl)

theorem x_iinc {i : Nat} {n z : Int} {lv' : List (Nat × Value)} (j : Nat) (hd : decode μ.1 pc = .ok (.iinc i n, 3)) (hj : lv[j]? = some (i, iv z)) (hn : i < μ.2.2.1) (hv : (i, iv (z + n)) :: lv.filter (fun q => !(q.1 == i) && !(q.1 + 1 == i && q.2.category == 2)) = lv') (k : Ok g μ R F (pc + 3) lv' st M) : Ok g μ R F pc lv st M := by
  intro p e s m args below meth c H locs ls hC hP hS hl
  exact lv_iinc hC.1 hC.2.1 hd hl hj (iZ_add z n) hn hv (fun ls hl => k p e s m args below meth c H locs ls hC hP hS hl)

theorem x_iadd {a b : Int} (hd : decode μ.1 pc = .ok (.iadd, 1)) (k : Ok g μ R F (pc + 1) lv (iv (a + b) :: st) M) : Ok g μ R F pc lv (iv b :: iv a :: st) M := by
  intro p e s m args below meth c H locs ls hC hP hS hl
  refine lv_iadd hC.1 hC.2.1 hd ?_
  rw [iZ_add]
  exact k p e s m args below meth c H locs ls hC hP hS hl

theorem x_iaddw {a b : Int} (hd : decode μ.1 pc = .ok (.iadd, 1)) (k : Ok g μ R F (pc + 1) lv (iv (wr (a + b)) :: st) M) : Ok g μ R F pc lv (iv b :: iv a :: st) M := by
  intro p e s m args below meth c H locs ls hC hP hS hl
  refine lv_iadd hC.1 hC.2.1 hd ?_
  rw [iZ_add, ← iZ_wr]
  exact k p e s m args below meth c H locs ls hC hP hS hl

theorem x_isub {a b : Int} (hd : decode μ.1 pc = .ok (.isub, 1)) (k : Ok g μ R F (pc + 1) lv (iv (a - b) :: st) M) : Ok g μ R F pc lv (iv b :: iv a :: st) M := by
  intro p e s m args below meth c H locs ls hC hP hS hl
  refine lv_isub hC.1 hC.2.1 hd ?_
  rw [iZ_sub]
  exact k p e s m args below meth c H locs ls hC hP hS hl

theorem x_isubw {a b : Int} (hd : decode μ.1 pc = .ok (.isub, 1)) (k : Ok g μ R F (pc + 1) lv (iv (wr (a - b)) :: st) M) : Ok g μ R F pc lv (iv b :: iv a :: st) M := by
  intro p e s m args below meth c H locs ls hC hP hS hl
  refine lv_isub hC.1 hC.2.1 hd ?_
  rw [iZ_sub, ← iZ_wr]
  exact k p e s m args below meth c H locs ls hC hP hS hl

theorem x_imul {a b : Int} (hd : decode μ.1 pc = .ok (.imul, 1)) (k : Ok g μ R F (pc + 1) lv (iv (a * b) :: st) M) : Ok g μ R F pc lv (iv b :: iv a :: st) M := by
  intro p e s m args below meth c H locs ls hC hP hS hl
  refine lv_imul hC.1 hC.2.1 hd ?_
  rw [iZ_mul]
  exact k p e s m args below meth c H locs ls hC hP hS hl

theorem x_imulw {a b : Int} (hd : decode μ.1 pc = .ok (.imul, 1)) (k : Ok g μ R F (pc + 1) lv (iv (wr (a * b)) :: st) M) : Ok g μ R F pc lv (iv b :: iv a :: st) M := by
  intro p e s m args below meth c H locs ls hC hP hS hl
  refine lv_imul hC.1 hC.2.1 hd ?_
  rw [iZ_mul, ← iZ_wr]
  exact k p e s m args below meth c H locs ls hC hP hS hl

theorem x_idivp {a b : Int} (hd : decode μ.1 pc = .ok (.idiv, 1)) (ha : 0 ≤ a) (ha2 : a < 2147483648) (hb : 0 < b) (hb2 : b < 2147483648) (k : Ok g μ R F (pc + 1) lv (iv (a / b) :: st) M) : Ok g μ R F pc lv (iv b :: iv a :: st) M := by
  intro p e s m args below meth c H locs ls hC hP hS hl
  refine lv_idiv hC.1 hC.2.1 hd (iZ_ne0 ⟨by omega, hb2⟩ (by omega)) ?_
  rw [iZ_div ha ha2 hb hb2]
  exact k p e s m args below meth c H locs ls hC hP hS hl

theorem x_iremp {a b : Int} (hd : decode μ.1 pc = .ok (.irem, 1)) (ha : 0 ≤ a) (ha2 : a < 2147483648) (hb : 0 < b) (hb2 : b < 2147483648) (k : Ok g μ R F (pc + 1) lv (iv (a % b) :: st) M) : Ok g μ R F pc lv (iv b :: iv a :: st) M := by
  intro p e s m args below meth c H locs ls hC hP hS hl
  refine lv_irem hC.1 hC.2.1 hd (iZ_ne0 ⟨by omega, hb2⟩ (by omega)) ?_
  rw [iZ_div ha ha2 hb hb2, iZ_mul, iZ_sub, show a - a / b * b = a % b by rw [Int.emod_def, Int.mul_comm]]
  exact k p e s m args below meth c H locs ls hC hP hS hl

theorem x_idivw {a b : Int} (hd : decode μ.1 pc = .ok (.idiv, 1)) (hb : rg b) (hb0 : b ≠ 0) (k : Ok g μ R F (pc + 1) lv (iv (dv a b) :: st) M) : Ok g μ R F pc lv (iv b :: iv a :: st) M := by
  intro p e s m args below meth c H locs ls hC hP hS hl
  refine lv_idiv hC.1 hC.2.1 hd (iZ_ne0 hb hb0) ?_
  rw [← iZ_dv]
  exact k p e s m args below meth c H locs ls hC hP hS hl

theorem x_ior {a b : Int} (hd : decode μ.1 pc = .ok (.ior, 1)) (ha : a = 0 ∨ a = 1) (hb : b = 0 ∨ b = 1) (k : Ok g μ R F (pc + 1) lv (iv (if a = 1 ∨ b = 1 then 1 else 0) :: st) M) : Ok g μ R F pc lv (iv b :: iv a :: st) M := by
  intro p e s m args below meth c H locs ls hC hP hS hl
  refine lv_ior hC.1 hC.2.1 hd ?_
  rw [iZ_or ha hb]
  exact k p e s m args below meth c H locs ls hC hP hS hl

theorem x_dup {v : Value} (hd : decode μ.1 pc = .ok (.dup, 1)) (hc : v.category = 1) (k : Ok g μ R F (pc + 1) lv (v :: v :: st) M) : Ok g μ R F pc lv (v :: st) M := by
  intro p e s m args below meth c H locs ls hC hP hS hl
  exact lv_dup hC.1 hC.2.1 hd hc (k p e s m args below meth c H locs ls hC hP hS hl)

theorem x_dup2 {v w : Value} (hd : decode μ.1 pc = .ok (.dup2, 1)) (hc : v.category = 1) (hc2 : w.category = 1) (k : Ok g μ R F (pc + 1) lv (v :: w :: v :: w :: st) M) : Ok g μ R F pc lv (v :: w :: st) M := by
  intro p e s m args below meth c H locs ls hC hP hS hl
  exact lv_dup2_11 hC.1 hC.2.1 hd hc hc2 (k p e s m args below meth c H locs ls hC hP hS hl)

theorem x_pop {v : Value} (hd : decode μ.1 pc = .ok (.pop, 1)) (hc : v.category = 1) (k : Ok g μ R F (pc + 1) lv st M) : Ok g μ R F pc lv (v :: st) M := by
  intro p e s m args below meth c H locs ls hC hP hS hl
  exact lv_pop hC.1 hC.2.1 hd hc (k p e s m args below meth c H locs ls hC hP hS hl)

theorem x_goto {off : Int} {tgt : Nat} (hd : decode μ.1 pc = .ok (.goto off, 3)) (ht : (pc : Int) + off = (tgt : Int)) (k : Ok g μ R F tgt lv st M) : Ok g μ R F pc lv st M := by
  intro p e s m args below meth c H locs ls hC hP hS hl
  exact lv_goto hC.1 hC.2.1 hd ht (k p e s m args below meth c H locs ls hC hP hS hl)

theorem x_icmp_lt {a b off : Int} {tgt : Nat} (hd : decode μ.1 pc = .ok (.if_icmp .lt off, 3)) (ht : (pc : Int) + off = (tgt : Int)) (ha : rg a) (hb : rg b) (kt : a < b → Ok g μ R F tgt lv st M) (kf : ¬ (a < b) → Ok g μ R F (pc + 3) lv st M) : Ok g μ R F pc lv (iv b :: iv a :: st) M := by
  intro p e s m args below meth c H locs ls hC hP hS hl
  exact lv_icmp_lt hC.1 hC.2.1 hd ht (fun q => kt ((iZ_lt ha hb).mp q) p e s m args below meth c H locs ls hC hP hS hl) (fun q => kf (fun z => q ((iZ_lt ha hb).mpr z)) p e s m args below meth c H locs ls hC hP hS hl)

theorem x_icmp_ge {a b off : Int} {tgt : Nat} (hd : decode μ.1 pc = .ok (.if_icmp .ge off, 3)) (ht : (pc : Int) + off = (tgt : Int)) (ha : rg a) (hb : rg b) (kt : b ≤ a → Ok g μ R F tgt lv st M) (kf : ¬ (b ≤ a) → Ok g μ R F (pc + 3) lv st M) : Ok g μ R F pc lv (iv b :: iv a :: st) M := by
  intro p e s m args below meth c H locs ls hC hP hS hl
  exact lv_icmp_ge hC.1 hC.2.1 hd ht (fun q => kt ((iZ_le hb ha).mp q) p e s m args below meth c H locs ls hC hP hS hl) (fun q => kf (fun z => q ((iZ_le hb ha).mpr z)) p e s m args below meth c H locs ls hC hP hS hl)

theorem x_icmp_gt {a b off : Int} {tgt : Nat} (hd : decode μ.1 pc = .ok (.if_icmp .gt off, 3)) (ht : (pc : Int) + off = (tgt : Int)) (ha : rg a) (hb : rg b) (kt : b < a → Ok g μ R F tgt lv st M) (kf : ¬ (b < a) → Ok g μ R F (pc + 3) lv st M) : Ok g μ R F pc lv (iv b :: iv a :: st) M := by
  intro p e s m args below meth c H locs ls hC hP hS hl
  exact lv_icmp_gt hC.1 hC.2.1 hd ht (fun q => kt ((iZ_lt hb ha).mp q) p e s m args below meth c H locs ls hC hP hS hl) (fun q => kf (fun z => q ((iZ_lt hb ha).mpr z)) p e s m args below meth c H locs ls hC hP hS hl)

theorem x_icmp_le {a b off : Int} {tgt : Nat} (hd : decode μ.1 pc = .ok (.if_icmp .le off, 3)) (ht : (pc : Int) + off = (tgt : Int)) (ha : rg a) (hb : rg b) (kt : a ≤ b → Ok g μ R F tgt lv st M) (kf : ¬ (a ≤ b) → Ok g μ R F (pc + 3) lv st M) : Ok g μ R F pc lv (iv b :: iv a :: st) M := by
  intro p e s m args below meth c H locs ls hC hP hS hl
  exact lv_icmp_le hC.1 hC.2.1 hd ht (fun q => kt ((iZ_le ha hb).mp q) p e s m args below meth c H locs ls hC hP hS hl) (fun q => kf (fun z => q ((iZ_le ha hb).mpr z)) p e s m args below meth c H locs ls hC hP hS hl)

theorem x_icmp_eq {a b off : Int} {tgt : Nat} (hd : decode μ.1 pc = .ok (.if_icmp .eq off, 3)) (ht : (pc : Int) + off = (tgt : Int)) (ha : rg a) (hb : rg b) (kt : a = b → Ok g μ R F tgt lv st M) (kf : ¬ (a = b) → Ok g μ R F (pc + 3) lv st M) : Ok g μ R F pc lv (iv b :: iv a :: st) M := by
  intro p e s m args below meth c H locs ls hC hP hS hl
  exact lv_icmp_eq hC.1 hC.2.1 hd ht (fun q => kt ((iZ_eq ha hb).mp q) p e s m args below meth c H locs ls hC hP hS hl) (fun q => kf (fun z => q ((iZ_eq ha hb).mpr z)) p e s m args below meth c H locs ls hC hP hS hl)

theorem x_icmp_ne {a b off : Int} {tgt : Nat} (hd : decode μ.1 pc = .ok (.if_icmp .ne off, 3)) (ht : (pc : Int) + off = (tgt : Int)) (ha : rg a) (hb : rg b) (kt : ¬ a = b → Ok g μ R F tgt lv st M) (kf : a = b → Ok g μ R F (pc + 3) lv st M) : Ok g μ R F pc lv (iv b :: iv a :: st) M := by
  intro p e s m args below meth c H locs ls hC hP hS hl
  exact lv_icmp_ne hC.1 hC.2.1 hd ht (fun q => kt ((not_congr (iZ_eq ha hb)).mp q) p e s m args below meth c H locs ls hC hP hS hl) (fun q => kf ((iZ_eq ha hb).mp q) p e s m args below meth c H locs ls hC hP hS hl)

theorem x_if_lt {a off : Int} {tgt : Nat} (hd : decode μ.1 pc = .ok (.ifCond .lt off, 3)) (ht : (pc : Int) + off = (tgt : Int)) (ha : rg a) (kt : a < 0 → Ok g μ R F tgt lv st M) (kf : ¬ (a < 0) → Ok g μ R F (pc + 3) lv st M) : Ok g μ R F pc lv (iv a :: st) M := by
  intro p e s m args below meth c H locs ls hC hP hS hl
  exact lv_if_lt hC.1 hC.2.1 hd ht (fun q => kt ((iZ_lt ha rg_0).mp q) p e s m args below meth c H locs ls hC hP hS hl) (fun q => kf (fun z => q ((iZ_lt ha rg_0).mpr z)) p e s m args below meth c H locs ls hC hP hS hl)

theorem x_if_ge {a off : Int} {tgt : Nat} (hd : decode μ.1 pc = .ok (.ifCond .ge off, 3)) (ht : (pc : Int) + off = (tgt : Int)) (ha : rg a) (kt : 0 ≤ a → Ok g μ R F tgt lv st M) (kf : ¬ (0 ≤ a) → Ok g μ R F (pc + 3) lv st M) : Ok g μ R F pc lv (iv a :: st) M := by
  intro p e s m args below meth c H locs ls hC hP hS hl
  exact lv_if_ge hC.1 hC.2.1 hd ht (fun q => kt ((iZ_le rg_0 ha).mp q) p e s m args below meth c H locs ls hC hP hS hl) (fun q => kf (fun z => q ((iZ_le rg_0 ha).mpr z)) p e s m args below meth c H locs ls hC hP hS hl)

theorem x_if_gt {a off : Int} {tgt : Nat} (hd : decode μ.1 pc = .ok (.ifCond .gt off, 3)) (ht : (pc : Int) + off = (tgt : Int)) (ha : rg a) (kt : 0 < a → Ok g μ R F tgt lv st M) (kf : ¬ (0 < a) → Ok g μ R F (pc + 3) lv st M) : Ok g μ R F pc lv (iv a :: st) M := by
  intro p e s m args below meth c H locs ls hC hP hS hl
  exact lv_if_gt hC.1 hC.2.1 hd ht (fun q => kt ((iZ_lt rg_0 ha).mp q) p e s m args below meth c H locs ls hC hP hS hl) (fun q => kf (fun z => q ((iZ_lt rg_0 ha).mpr z)) p e s m args below meth c H locs ls hC hP hS hl)

theorem x_if_le {a off : Int} {tgt : Nat} (hd : decode μ.1 pc = .ok (.ifCond .le off, 3)) (ht : (pc : Int) + off = (tgt : Int)) (ha : rg a) (kt : a ≤ 0 → Ok g μ R F tgt lv st M) (kf : ¬ (a ≤ 0) → Ok g μ R F (pc + 3) lv st M) : Ok g μ R F pc lv (iv a :: st) M := by
  intro p e s m args below meth c H locs ls hC hP hS hl
  exact lv_if_le hC.1 hC.2.1 hd ht (fun q => kt ((iZ_le ha rg_0).mp q) p e s m args below meth c H locs ls hC hP hS hl) (fun q => kf (fun z => q ((iZ_le ha rg_0).mpr z)) p e s m args below meth c H locs ls hC hP hS hl)

theorem x_if_eq {a off : Int} {tgt : Nat} (hd : decode μ.1 pc = .ok (.ifCond .eq off, 3)) (ht : (pc : Int) + off = (tgt : Int)) (ha : rg a) (kt : a = 0 → Ok g μ R F tgt lv st M) (kf : ¬ (a = 0) → Ok g μ R F (pc + 3) lv st M) : Ok g μ R F pc lv (iv a :: st) M := by
  intro p e s m args below meth c H locs ls hC hP hS hl
  exact lv_if_eq hC.1 hC.2.1 hd ht (fun q => kt ((iZ_eq ha rg_0).mp q) p e s m args below meth c H locs ls hC hP hS hl) (fun q => kf (fun z => q ((iZ_eq ha rg_0).mpr z)) p e s m args below meth c H locs ls hC hP hS hl)

theorem x_if_ne {a off : Int} {tgt : Nat} (hd : decode μ.1 pc = .ok (.ifCond .ne off, 3)) (ht : (pc : Int) + off = (tgt : Int)) (ha : rg a) (kt : ¬ a = 0 → Ok g μ R F tgt lv st M) (kf : a = 0 → Ok g μ R F (pc + 3) lv st M) : Ok g μ R F pc lv (iv a :: st) M := by
  intro p e s m args below meth c H locs ls hC hP hS hl
  exact lv_if_ne hC.1 hC.2.1 hd ht (fun q => kt ((not_congr (iZ_eq ha rg_0)).mp q) p e s m args below meth c H locs ls hC hP hS hl) (fun q => kf ((iZ_eq ha rg_0).mp q) p e s m args below meth c H locs ls hC hP hS hl)

theorem x_lookup {a dflt off : Int} {ps : Array (Int × Int)} {len tgt : Nat} (hd : decode μ.1 pc = .ok (.lookupswitch dflt ps, len)) (ha : rg a) (hp : (ps.toList.zip (ps.toList.drop 1)).all (fun (a, next) => a.1 < next.1) = true) (ho : Op.lookupswitch.offset ps.toList dflt a = off) (ht : (pc : Int) + off = (tgt : Int)) (k : Ok g μ R F tgt lv st M) : Ok g μ R F pc lv (iv a :: st) M := by
  intro p e s m args below meth c H locs ls hC hP hS hl
  exact lv_lookup hC.1 hC.2.1 hd hp (by rw [iZ_ti ha]; exact ho) ht (k p e s m args below meth c H locs ls hC hP hS hl)

theorem x_tabOut {a dflt lo hi : Int} {offs : Array Int} {len tgt : Nat} (hd : decode μ.1 pc = .ok (.tableswitch dflt lo hi offs, len)) (ha : rg a) (h : a < lo ∨ hi < a) (ht : (pc : Int) + dflt = (tgt : Int)) (k : Ok g μ R F tgt lv st M) : Ok g μ R F pc lv (iv a :: st) M := by
  intro p e s m args below meth c H locs ls hC hP hS hl
  exact lv_tableOut hC.1 hC.2.1 hd (by rw [iZ_ti ha]; exact h) ht (k p e s m args below meth c H locs ls hC hP hS hl)

theorem x_tabIn {a dflt lo hi off : Int} {offs : Array Int} {len tgt : Nat} (hd : decode μ.1 pc = .ok (.tableswitch dflt lo hi offs, len)) (ha : rg a) (h1 : ¬ a < lo) (h2 : ¬ hi < a) (ho : offs[(a - lo).toNat]? = some off) (ht : (pc : Int) + off = (tgt : Int)) (k : Ok g μ R F tgt lv st M) : Ok g μ R F pc lv (iv a :: st) M := by
  intro p e s m args below meth c H locs ls hC hP hS hl
  exact lv_tableIn hC.1 hC.2.1 hd (by rw [iZ_ti ha]; exact h1) (by rw [iZ_ti ha]; exact h2) (by rw [iZ_ti ha]; exact ho) ht (k p e s m args below meth c H locs ls hC hP hS hl)

theorem x_i2l {a : Int} (hd : decode μ.1 pc = .ok (.i2l, 1)) (ha : rg a) (k : Ok g μ R F (pc + 1) lv (.long (Int64.ofInt a) :: st) M) : Ok g μ R F pc lv (iv a :: st) M := by
  intro p e s m args below meth c H locs ls hC hP hS hl
  exact lv_i2l hC.1 hC.2.1 hd (iZ_l ha) (k p e s m args below meth c H locs ls hC hP hS hl)

theorem x_ladd {x y : Int64} (hd : decode μ.1 pc = .ok (.ladd, 1)) (k : Ok g μ R F (pc + 1) lv (.long (x + y) :: st) M) : Ok g μ R F pc lv (.long y :: .long x :: st) M := by
  intro p e s m args below meth c H locs ls hC hP hS hl
  exact lv_ladd hC.1 hC.2.1 hd (k p e s m args below meth c H locs ls hC hP hS hl)

theorem x_lmul {x y : Int64} (hd : decode μ.1 pc = .ok (.lmul, 1)) (k : Ok g μ R F (pc + 1) lv (.long (x * y) :: st) M) : Ok g μ R F pc lv (.long y :: .long x :: st) M := by
  intro p e s m args below meth c H locs ls hC hP hS hl
  exact lv_lmul hC.1 hC.2.1 hd (k p e s m args below meth c H locs ls hC hP hS hl)

theorem x_ldc2 {v : Int64} {idx : Nat} (hd : decode μ.1 pc = .ok (.ldc2_w idx, 3)) (hw : Cond.constantLong μ.2.1 idx v ∈ wsL_law) (k : Ok g μ R F (pc + 3) lv (.long v :: st) M) : Ok g μ R F pc lv st M := by
  intro p e s m args below meth c H locs ls hC hP hS hl
  exact lv_ldc2 hC.1 hC.2.1 hC.2.2.2.2.1 (hC.2.2.2.2.2.1 _ hw) hd (k p e s m args below meth c H locs ls hC hP hS hl)

theorem x_geti {t n k idx : Nat} {o kI : Int} (hd : decode μ.1 pc = .ok (.getfield idx, 3)) (hf : FL μ.2.1 idx t n k) (hk : isK t n o) (hs : (sk t k).1 = 0) (hI : ((k : Nat) : Int) = kI) (kk : rg (M o kI) → Ok g μ R F (pc + 3) lv (iv (M o kI) :: st) M) : Ok g μ R F pc lv (rv g o :: st) M := by
  intro p e s m args below meth c H locs ls hC hP hS hl
  subst hI
  have h9 := x_getW (p := p) (e := e) (R := R) (below := below) (Q := F below args s) (meth := meth) (locs := locs) (ls := ls) (st := st) hC hd hf hk hP
  rw [show vl g o t k (M o k) = iv (M o k) by simp [vl, hs]] at h9
  exact h9 (kk (hP.1 o k (x_lt497 hk hf)) p e s m args below meth c H locs ls hC hP hS hl)

theorem x_getr {t n k idx : Nat} {o : Int} {d : Int} {t' n' : Nat} (hd : decode μ.1 pc = .ok (.getfield idx, 3)) (hf : FL μ.2.1 idx t n k) (hk : isK t n o) (hs : sk t k = (1, d, t', n')) (kk : isK t' n' (o + d) → Ok g μ R F (pc + 3) lv (rv g (o + d) :: st) M) : Ok g μ R F pc lv (rv g o :: st) M := by
  intro p e s m args below meth c H locs ls hC hP hS hl
  have h9 := x_getW (p := p) (e := e) (R := R) (below := below) (Q := F below args s) (meth := meth) (locs := locs) (ls := ls) (st := st) hC hd hf hk hP
  rw [show vl g o t k (M o k) = rv g (o + d) by simp [vl, hs]] at h9
  obtain ⟨C, T, hc, hkn, hlink, hin⟩ := hf
  exact h9 (kk (hk.ref k hkn hs) p e s m args below meth c H locs ls hC hP hS hl)

theorem x_puti {t n k idx : Nat} {o z kI : Int} {ty : FieldType} (hd : decode μ.1 pc = .ok (.putfield idx, 3)) (hf : FW μ.2.1 idx t n k ty) (hk : isK t n o) (hs : (sk t k).1 = 0) (hz : rg z) (hn : narrow ty (iv z) = iv z) (hfit : fits ty (iv z) = true) (hI : ((k : Nat) : Int) = kI) (kk : Ok g μ R F (pc + 3) lv st (up M o kI z)) : Ok g μ R F pc lv (iv z :: rv g o :: st) M := by
  intro p e s m args below meth c H locs ls hC hP hS hl
  subst hI
  exact x_putW hC hd hf hk hs hz hn hfit hP hS (fun H1 locs1 hP1 hS1 => kk p e s m args below meth c H1 locs1 ls hC hP1 hS1 hl)

theorem x_iald {n : Nat} {o i : Int} (hd : decode μ.1 pc = .ok (.iaload, 1)) (hk : isK 20 n o) (h0 : 0 ≤ i) (h1 : i < n) (hn : n < 2147483648) (kk : rg (M o i) → Ok g μ R F (pc + 1) lv (iv (M o i) :: st) M) : Ok g μ R F pc lv (iv i :: rv g o :: st) M := by
  intro p e s m args below meth c H locs ls hC hP hS hl
  obtain ⟨hx, hb, hr, hml, hown, hts, hlk, hK, hZ, hex⟩ := id hC
  have hc := x_arr hk (by decide) hP
  refine W.iald (v := iv (M o i)) hx hb hc (hK.2.1 n _) (fun q => by cases q) (by rw [arrV_size]; exact iZ_in h0 h1 hn) ?_ rfl rfl hd ?_
  · rw [iZ_cl h0 (by omega), arrV_read _ _ (by omega)]
    simp [vl, sk, Int.toNat_of_nonneg h0]
  · exact kk (hP.1 o i (x_lt497a hk (by decide))) p e s m args below meth c H locs ls hC hP hS hl

theorem x_cald {n : Nat} {o i : Int} (hd : decode μ.1 pc = .ok (.caload, 1)) (hk : isK 21 n o) (h0 : 0 ≤ i) (h1 : i < n) (hn : n < 2147483648) (kk : rg (M o i) → Ok g μ R F (pc + 1) lv (iv (M o i) :: st) M) : Ok g μ R F pc lv (iv i :: rv g o :: st) M := by
  intro p e s m args below meth c H locs ls hC hP hS hl
  obtain ⟨hx, hb, hr, hml, hown, hts, hlk, hK, hZ, hex⟩ := id hC
  have hc := x_arr hk (by decide) hP
  refine W.cald (v := iv (M o i)) hx hb hc (hK.2.2.1 n _) (fun q => by cases q) (by rw [arrV_size]; exact iZ_in h0 h1 hn) ?_ rfl rfl hd ?_
  · rw [iZ_cl h0 (by omega), arrV_read _ _ (by omega)]
    simp [vl, sk, Int.toNat_of_nonneg h0]
  · exact kk (hP.1 o i (x_lt497a hk (by decide))) p e s m args below meth c H locs ls hC hP hS hl

theorem x_zald {n : Nat} {o i : Int} (hd : decode μ.1 pc = .ok (.baload, 1)) (hk : isK 22 n o) (h0 : 0 ≤ i) (h1 : i < n) (hn : n < 2147483648) (kk : rg (M o i) → Ok g μ R F (pc + 1) lv (iv (M o i) :: st) M) : Ok g μ R F pc lv (iv i :: rv g o :: st) M := by
  intro p e s m args below meth c H locs ls hC hP hS hl
  obtain ⟨hx, hb, hr, hml, hown, hts, hlk, hK, hZ, hex⟩ := id hC
  have hc := x_arr hk (by decide) hP
  refine W.zald (v := iv (M o i)) hx hb hc (hK.2.2.2.1 n _) (fun q => by cases q) (by rw [arrV_size]; exact iZ_in h0 h1 hn) ?_ rfl rfl hd ?_
  · rw [iZ_cl h0 (by omega), arrV_read _ _ (by omega)]
    simp [vl, sk, Int.toNat_of_nonneg h0]
  · exact kk (hP.1 o i (x_lt497a hk (by decide))) p e s m args below meth c H locs ls hC hP hS hl

theorem x_aald30 {n : Nat} {o i : Int} (hd : decode μ.1 pc = .ok (.aaload, 1)) (hk : isK 30 n o) (h0 : 0 ≤ i) (h1 : i < n) (hn : n < 2147483648) (kk : isK 4 4 (o + (40 + 20 * i)) → Ok g μ R F (pc + 1) lv (rv g (o + (40 + 20 * i)) :: st) M) : Ok g μ R F pc lv (iv i :: rv g o :: st) M := by
  intro p e s m args below meth c H locs ls hC hP hS hl
  obtain ⟨hx, hb, hr, hml, hown, hts, hlk, hK, hZ, hex⟩ := id hC
  have hc := x_arr hk (by decide) hP
  have hi : ((i.toNat : Nat) : Int) = i := Int.toNat_of_nonneg h0
  refine W.aald (v := rv g (o + (40 + 20 * i))) (ty := .object "Judgefold$Problem") hx hb hc (hK.2.2.2.2.2.2.1 n _) rfl (fun q => by cases q) (by rw [arrV_size]; exact iZ_in h0 h1 hn) ?_ rfl rfl hd ?_
  · rw [iZ_cl h0 (by omega), arrV_read _ _ (by omega)]
    simp [vl, sk, hi]
  · exact kk (by have h := hk.ref i.toNat (by omega) (d := 40 + 20 * i) (t' := 4) (n' := 4) (by simp only [sk, hi]); exact h) p e s m args below meth c H locs ls hC hP hS hl

theorem x_aald31 {n : Nat} {o i : Int} (hd : decode μ.1 pc = .ok (.aaload, 1)) (hk : isK 31 n o) (h0 : 0 ≤ i) (h1 : i < n) (hn : n < 2147483648) (kk : isK 6 10 (o + (139 + 8 * i)) → Ok g μ R F (pc + 1) lv (rv g (o + (139 + 8 * i)) :: st) M) : Ok g μ R F pc lv (iv i :: rv g o :: st) M := by
  intro p e s m args below meth c H locs ls hC hP hS hl
  obtain ⟨hx, hb, hr, hml, hown, hts, hlk, hK, hZ, hex⟩ := id hC
  have hc := x_arr hk (by decide) hP
  have hi : ((i.toNat : Nat) : Int) = i := Int.toNat_of_nonneg h0
  refine W.aald (v := rv g (o + (139 + 8 * i))) (ty := .object "Judgefold$Run") hx hb hc (hK.2.2.2.2.2.2.2.1 n _) rfl (fun q => by cases q) (by rw [arrV_size]; exact iZ_in h0 h1 hn) ?_ rfl rfl hd ?_
  · rw [iZ_cl h0 (by omega), arrV_read _ _ (by omega)]
    simp [vl, sk, hi]
  · exact kk (by have h := hk.ref i.toNat (by omega) (d := 139 + 8 * i) (t' := 6) (n' := 10) (by simp only [sk, hi]); exact h) p e s m args below meth c H locs ls hC hP hS hl

theorem x_aald32 {n : Nat} {o i : Int} (hd : decode μ.1 pc = .ok (.aaload, 1)) (hk : isK 32 n o) (h0 : 0 ≤ i) (h1 : i < n) (hn : n < 2147483648) (kk : isK 3 4 (o + (1 + 3 * i)) → Ok g μ R F (pc + 1) lv (rv g (o + (1 + 3 * i)) :: st) M) : Ok g μ R F pc lv (iv i :: rv g o :: st) M := by
  intro p e s m args below meth c H locs ls hC hP hS hl
  obtain ⟨hx, hb, hr, hml, hown, hts, hlk, hK, hZ, hex⟩ := id hC
  have hc := x_arr hk (by decide) hP
  have hi : ((i.toNat : Nat) : Int) = i := Int.toNat_of_nonneg h0
  refine W.aald (v := rv g (o + (1 + 3 * i))) (ty := .object "Judgefold$Numbers") hx hb hc (hK.2.2.2.2.2.2.2.2.1 n _) rfl (fun q => by cases q) (by rw [arrV_size]; exact iZ_in h0 h1 hn) ?_ rfl rfl hd ?_
  · rw [iZ_cl h0 (by omega), arrV_read _ _ (by omega)]
    simp [vl, sk, hi]
  · exact kk (by have h := hk.ref i.toNat (by omega) (d := 1 + 3 * i) (t' := 3) (n' := 4) (by simp only [sk, hi]); exact h) p e s m args below meth c H locs ls hC hP hS hl

theorem x_aald33 {n : Nat} {o i : Int} (hd : decode μ.1 pc = .ok (.aaload, 1)) (hk : isK 33 n o) (h0 : 0 ≤ i) (h1 : i < n) (hn : n < 2147483648) (kk : isK 20 40 (o + (1 + i)) → Ok g μ R F (pc + 1) lv (rv g (o + (1 + i)) :: st) M) : Ok g μ R F pc lv (iv i :: rv g o :: st) M := by
  intro p e s m args below meth c H locs ls hC hP hS hl
  obtain ⟨hx, hb, hr, hml, hown, hts, hlk, hK, hZ, hex⟩ := id hC
  have hc := x_arr hk (by decide) hP
  have hi : ((i.toNat : Nat) : Int) = i := Int.toNat_of_nonneg h0
  refine W.aald (v := rv g (o + (1 + i))) (ty := .array .int) hx hb hc (hK.2.2.2.2.2.2.2.2.2 n _) rfl (fun q => by cases q) (by rw [arrV_size]; exact iZ_in h0 h1 hn) ?_ rfl rfl hd ?_
  · rw [iZ_cl h0 (by omega), arrV_read _ _ (by omega)]
    simp [vl, sk, hi]
  · exact kk (by have h := hk.ref i.toNat (by omega) (d := 1 + i) (t' := 20) (n' := 40) (by simp only [sk, hi]); exact h) p e s m args below meth c H locs ls hC hP hS hl

theorem x_iast {n : Nat} {o i z : Int} (hd : decode μ.1 pc = .ok (.iastore, 1)) (hk : isK 20 n o) (h0 : 0 ≤ i) (h1 : i < n) (hn : n < 2147483648) (hz : rg z) (kk : Ok g μ R F (pc + 1) lv st (up M o i z)) : Ok g μ R F pc lv (iv z :: iv i :: rv g o :: st) M := by
  intro p e s m args below meth c H locs ls hC hP hS hl
  obtain ⟨hx, hb, hr, hml, hown, hts, hlk, hK, hZ, hex⟩ := id hC
  have hc := x_arr hk (by decide) hP
  refine W.iast hx hb hc (hK.2.1 n _) (fun q => by cases q) (by rw [arrV_size]; exact iZ_in h0 h1 hn) rfl rfl hd (fun H1 e1 e2 e3 => ?_)
  exact kk p e s m args below meth c H1 _ ls hC (x_arrSet hk (by decide) (fun _ => rfl) hP hz h0 h1 (by rw [iZ_cl h0 (by omega)] at e1; exact e1) e3) (hS.put e2 e3 (Nat.le_add_right _ _)) hl

theorem x_cast {n : Nat} {o i z : Int} (hd : decode μ.1 pc = .ok (.castore, 1)) (hk : isK 21 n o) (h0 : 0 ≤ i) (h1 : i < n) (hn : n < 2147483648) (hz : rg z) (hc0 : 0 ≤ z) (hc1 : z < 65536) (kk : Ok g μ R F (pc + 1) lv st (up M o i z)) : Ok g μ R F pc lv (iv z :: iv i :: rv g o :: st) M := by
  intro p e s m args below meth c H locs ls hC hP hS hl
  obtain ⟨hx, hb, hr, hml, hown, hts, hlk, hK, hZ, hex⟩ := id hC
  have hc := x_arr hk (by decide) hP
  refine W.cast hx hb hc (hK.2.2.1 n _) (fun q => by cases q) (by rw [arrV_size]; exact iZ_in h0 h1 hn) rfl rfl hd (fun H1 e1 e2 e3 => ?_)
  rw [iZ_char hc0 hc1] at e1
  exact kk p e s m args below meth c H1 _ ls hC (x_arrSet hk (by decide) (fun _ => rfl) hP hz h0 h1 (by rw [iZ_cl h0 (by omega)] at e1; exact e1) e3) (hS.put e2 e3 (Nat.le_add_right _ _)) hl

theorem x_zast {n : Nat} {o i z : Int} (hd : decode μ.1 pc = .ok (.bastore, 1)) (hk : isK 22 n o) (h0 : 0 ≤ i) (h1 : i < n) (hn : n < 2147483648) (hz : rg z) (hz01 : z = 0 ∨ z = 1) (kk : Ok g μ R F (pc + 1) lv st (up M o i z)) : Ok g μ R F pc lv (iv z :: iv i :: rv g o :: st) M := by
  intro p e s m args below meth c H locs ls hC hP hS hl
  obtain ⟨hx, hb, hr, hml, hown, hts, hlk, hK, hZ, hex⟩ := id hC
  have hc := x_arr hk (by decide) hP
  refine W.zast hx hb hc (hK.2.2.2.1 n _) (fun q => by cases q) (by rw [arrV_size]; exact iZ_in h0 h1 hn) rfl rfl hd (fun H1 e1 e2 e3 => ?_)
  rw [iZ_bool hz01] at e1
  exact kk p e s m args below meth c H1 _ ls hC (x_arrSet hk (by decide) (fun _ => rfl) hP hz h0 h1 (by rw [iZ_cl h0 (by omega)] at e1; exact e1) e3) (hS.put e2 e3 (Nat.le_add_right _ _)) hl

theorem x_alen {t n : Nat} {o : Int} {ty : FieldType} (hd : decode μ.1 pc = .ok (.arraylength, 1)) (hk : isK t n o) (ht : ¬ t < 10) (hty : ∀ (U : State), KK g U → ArrOfT U (g.2.2.2 t) ty) (k : Ok g μ R F (pc + 1) lv (iv n :: st) M) : Ok g μ R F pc lv (rv g o :: st) M := by
  intro p e s m args below meth c H locs ls hC hP hS hl
  obtain ⟨hx, hb, hr, hml, hown, hts, hlk, hK, hZ, hex⟩ := id hC
  have hc := x_arr hk ht hP
  exact W.alen hx hb hc (hty s hK n _) (by rw [arrV_size]; rfl) rfl rfl hd (k p e s m args below meth c H locs ls hC hP hS hl)

end XR
