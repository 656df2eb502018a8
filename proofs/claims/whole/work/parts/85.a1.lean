/-! floats -/
def pFP (P : UInt32 → Prop) (M1 : Mem) : Option Value → Mem → Prop := fun v M' => ∃ x, v = some (.float x) ∧ M' = M1 ∧ P x
def pDP (P : UInt64 → Prop) (M1 : Mem) : Option Value → Mem → Prop := fun v M' => ∃ x, v = some (.double x) ∧ M' = M1 ∧ P x
def pF (P : UInt32 → Mem → Prop) : Option Value → Mem → Prop := fun v M' => ∃ x, v = some (.float x) ∧ P x M'
def pD (P : UInt64 → Mem → Prop) : Option Value → Mem → Prop := fun v M' => ∃ x, v = some (.double x) ∧ P x M'
theorem fq_ok {a b : Int} (hb : rg b) (h0 : b ≠ 0) : vf_n32 (FP.fdiv (FP.i2f (iZ a)) (FP.i2f (iZ b))) := Jvm.Free.Fl.fdiv_out (Jvm.Free.Fl.i2f_fin _).noNaN (Jvm.Free.Fl.i2f_fin _) (Jvm.Free.Fl.i2f_nz (iZ_ne0 hb h0))
theorem dq_ok {a b : Int} (hb : rg b) (h0 : b ≠ 0) : vf_n64 (FP.ddiv (FP.i2d (iZ a)) (FP.i2d (iZ b))) := Jvm.Free.Fl.ddiv_out (Jvm.Free.Fl.i2d_fin _).noNaN (Jvm.Free.Fl.i2d_fin _) (Jvm.Free.Fl.i2d_nz (iZ_ne0 hb h0))
theorem f2d_ok {x : UInt32} (h : vf_n32 x) : vf_n64 (FP.f2d x) := Jvm.Free.Fl.f2d_out h
section XF
variable {g : GG} {μ : MI} {R : Room} {F : List Frame → Array Value → State → State → Prop} {pc : Nat} {lv : List (Nat × Value)} {st : List Value} {M : Mem}
theorem x_i2f {a : Int} (hd : decode μ.1 pc = .ok (.i2f, 1)) (k : Ok g μ R F (pc + 1) lv (.float (FP.i2f (iZ a)) :: st) M) : Ok g μ R F pc lv (iv a :: st) M := by
  intro p e s m args below meth c H locs ls hC hP hS hl
  exact lv_i2f hC.1 hC.2.1 hd (k p e s m args below meth c H locs ls hC hP hS hl)
theorem x_i2d {a : Int} (hd : decode μ.1 pc = .ok (.i2d, 1)) (k : Ok g μ R F (pc + 1) lv (.double (FP.i2d (iZ a)) :: st) M) : Ok g μ R F pc lv (iv a :: st) M := by
  intro p e s m args below meth c H locs ls hC hP hS hl
  exact lv_i2d hC.1 hC.2.1 hd (k p e s m args below meth c H locs ls hC hP hS hl)
theorem x_fdiv {x y : UInt32} (hd : decode μ.1 pc = .ok (.fdiv, 1)) (hn : vf_n32 (FP.fdiv x y)) (k : Ok g μ R F (pc + 1) lv (.float (FP.fdiv x y) :: st) M) : Ok g μ R F pc lv (.float y :: .float x :: st) M := by
  intro p e s m args below meth c H locs ls hC hP hS hl
  exact lv_fdiv hC.1 hC.2.1 hd hn (k p e s m args below meth c H locs ls hC hP hS hl)
theorem x_ddiv {x y : UInt64} (hd : decode μ.1 pc = .ok (.ddiv, 1)) (hn : vf_n64 (FP.ddiv x y)) (k : Ok g μ R F (pc + 1) lv (.double (FP.ddiv x y) :: st) M) : Ok g μ R F pc lv (.double y :: .double x :: st) M := by
  intro p e s m args below meth c H locs ls hC hP hS hl
  exact lv_ddiv hC.1 hC.2.1 hd hn (k p e s m args below meth c H locs ls hC hP hS hl)
theorem x_fconst0 (hd : decode μ.1 pc = .ok (.fconst 0, 1)) (k : Ok g μ R F (pc + 1) lv (.float FP.fconst0 :: st) M) : Ok g μ R F pc lv st M := by
  intro p e s m args below meth c H locs ls hC hP hS hl
  exact lv_fconst0 hC.1 hC.2.1 hd (k p e s m args below meth c H locs ls hC hP hS hl)
theorem x_dconst0 (hd : decode μ.1 pc = .ok (.dconst 0, 1)) (k : Ok g μ R F (pc + 1) lv (.double FP.dconst0 :: st) M) : Ok g μ R F pc lv st M := by
  intro p e s m args below meth c H locs ls hC hP hS hl
  exact lv_dconst0 hC.1 hC.2.1 hd (k p e s m args below meth c H locs ls hC hP hS hl)
theorem x_fret {post : Option Value → Mem → Prop} {x : UInt32} (hd : decode μ.1 pc = .ok (.freturn, 1)) (hr : μ.2.2.2 = some .float) (hq : post (some (.float x)) M) : Ok g μ R (FQ g post) pc lv [.float x] M := by
  intro p e s m args below meth c H locs ls hC hP hS hl
  exact W.fret hC.1 hC.2.1 (hC.2.2.1.trans hr) (fun t ht hW => ⟨⟨_, M, rfl, hq, by rw [ht]; exact hP⟩, hS.F ht⟩) hS.2.2 hd hC.2.2.2.2.2.2.1
theorem x_dret {post : Option Value → Mem → Prop} {x : UInt64} (hd : decode μ.1 pc = .ok (.dreturn, 1)) (hr : μ.2.2.2 = some .double) (hq : post (some (.double x)) M) : Ok g μ R (FQ g post) pc lv [.double x] M := by
  intro p e s m args below meth c H locs ls hC hP hS hl
  exact W.dret hC.1 hC.2.1 (hC.2.2.1.trans hr) (fun t ht hW => ⟨⟨_, M, rfl, hq, by rw [ht]; exact hP⟩, hS.F ht⟩) hS.2.2 hd hC.2.2.2.2.2.2.1
end XF
set_option maxHeartbeats 600000 in
set_option maxRecDepth 100000 in
theorem c_X8_acceptedShare (g : GG) (M : Mem)  (C : CR M) (hst : g.1.stackTraces = false) : Ctx g yX8_acceptedShare cX8_acceptedShare 3 (some .float) 2 [rv g 0] M (pFP (fun x => M 0 12 ≠ 0 ∧ x = FP.fdiv (FP.i2f (iZ (cnt (fun r => M (8 * r + 148) 8 = 97) (M 0 12)))) (FP.i2f (iZ (M 0 12)))) M) (fun E M' => (E = "java/lang/ArithmeticException" ∧ (M 0 12 = 0) ∧ M' = M)) := by
  refine ctx_of (by decide +kernel) (Nat.le_of_ble_eq_true rfl) ?_
  show Ok g mX8_acceptedShare (rmX 2) (FX g (pFP (fun x => M 0 12 ≠ 0 ∧ x = FP.fdiv (FP.i2f (iZ (cnt (fun r => M (8 * r + 148) 8 = 97) (M 0 12)))) (FP.i2f (iZ (M 0 12)))) M) (fun E M' => (E = "java/lang/ArithmeticException" ∧ (M 0 12 = 0) ∧ M' = M))) 0 [(0, rv g 0)] [] M
  have c0 := C.1
  have h_19 : ∀ (n_19 : Nat) (n : Int) (i : Int), (0 ≤ i ∧ i ≤ M 0 12 ∧ M 0 12 ≠ 0) → (n = cnt (fun r => M (8 * r + 148) 8 = 97) i) → (M 0 12 - i).toNat < n_19 → Ok g mX8_acceptedShare (rmX 2) (FX g (pFP (fun x => M 0 12 ≠ 0 ∧ x = FP.fdiv (FP.i2f (iZ (cnt (fun r => M (8 * r + 148) 8 = 97) (M 0 12)))) (FP.i2f (iZ (M 0 12)))) M) (fun E M' => (E = "java/lang/ArithmeticException" ∧ (M 0 12 = 0) ∧ M' = M))) 19 [(0, rv g 0), (1, iv n), (2, iv i)] [] M := by
    intro n_19
    induction n_19 with
    | zero => intro n i j0 j1 hn_19; exact absurd hn_19 (Nat.not_lt_zero _)
    | succ n_19 ih_19 =>
      intro n i j0 j1 hn_19
      refine x_iload_n 2 dX8_acceptedShare_19 rfl rfl ?_
      refine x_aload_n 0 dX8_acceptedShare_20 rfl rfl ?_
      refine x_geti (k := 12) (kI := 12) dX8_acceptedShare_21 fl8_76 k_0 rfl rfl (fun ⟨a1, a1'⟩ => ?_)
      refine x_icmp_ge (tgt := 50) dX8_acceptedShare_24 (by decide) ⟨by omega, by omega⟩ ⟨by omega, by omega⟩ (fun c2 => ?_) (fun c2 => ?_)
      · have e9 : i = M 0 12 := by omega
        subst j1
        subst e9
        refine x_iload_n 1 dX8_acceptedShare_50 rfl rfl ?_
        refine x_i2f dX8_acceptedShare_51 ?_
        refine x_aload_n 0 dX8_acceptedShare_52 rfl rfl ?_
        refine x_geti (k := 12) (kI := 12) dX8_acceptedShare_53 fl8_76 k_0 rfl rfl (fun ⟨a3, a3'⟩ => ?_)
        refine x_i2f dX8_acceptedShare_56 ?_
        refine x_fdiv dX8_acceptedShare_57 (fq_ok ⟨by omega, by omega⟩ (by omega)) ?_
        refine x_toX ?_
        refine x_fret dX8_acceptedShare_58 rfl ?_
        exact ⟨_, rfl, rfl, by omega, rfl⟩
      · have i1 := C.run i (by omega) (by omega)
        refine x_aload_n 0 dX8_acceptedShare_27 rfl rfl ?_
        refine x_getr (k := 3) (d := 9) dX8_acceptedShare_28 fl8_31 k_0 rfl (fun k4 => ?_)
        have k4 : isK 31 40 9 := k4
        show Ok g mX8_acceptedShare (rmX 2) (FX g (pFP (fun x => M 0 12 ≠ 0 ∧ x = FP.fdiv (FP.i2f (iZ (cnt (fun r => M (8 * r + 148) 8 = 97) (M 0 12)))) (FP.i2f (iZ (M 0 12)))) M) (fun E M' => (E = "java/lang/ArithmeticException" ∧ (M 0 12 = 0) ∧ M' = M))) 31 [(0, rv g 0), (1, iv n), (2, iv i)] [rv g 9] M
        refine x_iload_n 2 dX8_acceptedShare_31 rfl rfl ?_
        refine x_aald31 dX8_acceptedShare_32 k4 (by omega) (by omega) (by decide) (fun k5 => ?_)
        have ek5 : 9 + (139 + 8 * i) = 8 * i + 148 := by omega
        rw [ek5] at k5 ⊢
        refine x_geti (k := 8) (kI := 8) dX8_acceptedShare_33 fl8_193 k5 rfl rfl (fun ⟨a6, a6'⟩ => ?_)
        refine x_bipush (97) dX8_acceptedShare_36 rfl ?_
        refine x_icmp_ne (tgt := 44) dX8_acceptedShare_38 (by decide) ⟨by omega, by omega⟩ ⟨by decide, by decide⟩ (fun c7 => ?_) (fun c7 => ?_)
        · refine x_iinc (z := i) (lv' := [(2, iv (i + 1)), (0, rv g 0), (1, iv n)]) 2 dX8_acceptedShare_44 rfl (Nat.le_of_ble_eq_true rfl) rfl ?_
          refine x_goto (tgt := 19) dX8_acceptedShare_47 (by decide) ?_
          refine x_sub [1, 2, 0] rfl ?_
          exact ih_19 _ _ (by omega) (by rw [cnt_f (by omega) (by show ¬ M (8 * i + 148) 8 = 97; omega)]; exact j1) (by omega)
        · refine x_iinc (z := n) (lv' := [(1, iv (n + 1)), (0, rv g 0), (2, iv i)]) 1 dX8_acceptedShare_41 rfl (Nat.le_of_ble_eq_true rfl) rfl ?_
          refine x_iinc (z := i) (lv' := [(2, iv (i + 1)), (1, iv (n + 1)), (0, rv g 0)]) 2 dX8_acceptedShare_44 rfl (Nat.le_of_ble_eq_true rfl) rfl ?_
          refine x_goto (tgt := 19) dX8_acceptedShare_47 (by decide) ?_
          refine x_sub [2, 1, 0] rfl ?_
          exact ih_19 _ _ (by omega) (by rw [cnt_t (by omega) (by show M (8 * i + 148) 8 = 97; omega)]; omega) (by omega)
  refine x_aload_n 0 dX8_acceptedShare_0 rfl rfl ?_
  refine x_geti (k := 12) (kI := 12) dX8_acceptedShare_1 fl8_76 k_0 rfl rfl (fun ⟨a8, a8'⟩ => ?_)
  refine x_if_ne (tgt := 15) dX8_acceptedShare_4 (by decide) ⟨by omega, by omega⟩ (fun c9 => ?_) (fun c9 => ?_)
  · refine x_iconst (0) dX8_acceptedShare_15 rfl ?_
    refine x_istore_n (lv' := [(1, iv 0), (0, rv g 0)]) dX8_acceptedShare_16 rfl (Nat.le_of_ble_eq_true rfl) rfl ?_
    refine x_iconst (0) dX8_acceptedShare_17 rfl ?_
    refine x_istore_n (lv' := [(2, iv 0), (1, iv 0), (0, rv g 0)]) dX8_acceptedShare_18 rfl (Nat.le_of_ble_eq_true rfl) rfl ?_
    refine x_sub [2, 1, 0] rfl ?_
    exact h_19 _ _ _ (by omega) (by exact (cnt_0 _).symm) (Nat.lt_succ_self _)
  · exact x_throw hst ex_292 dX8_acceptedShare_7 dX8_acceptedShare_10 dX8_acceptedShare_11 dX8_acceptedShare_14 (Nat.le_of_ble_eq_true rfl) (Nat.le_of_ble_eq_true rfl) (Nat.le_of_ble_eq_true rfl) (Nat.le_of_ble_eq_true rfl) (⟨rfl, by omega, rfl⟩)

set_option maxHeartbeats 600000 in
set_option maxRecDepth 100000 in
theorem c_X8_meanSteps (g : GG) (M : Mem)  (C : CR M) (hst : g.1.stackTraces = false) : Ctx g yX8_meanSteps cX8_meanSteps 6 (some .double) 3 [rv g 0] M (pDP (fun x => sm (fun r => M (20 * M (8 * r + 148) 5 + 48) 3) (M 0 12) ≠ 0 ∧ x = FP.ddiv (FP.i2d (iZ (sm (fun r => sm (fun t => M (8 * r + 154) t) (M (20 * M (8 * r + 148) 5 + 48) 3)) (M 0 12)))) (FP.i2d (iZ (sm (fun r => M (20 * M (8 * r + 148) 5 + 48) 3) (M 0 12))))) M) (fun E M' => (E = "java/lang/ArithmeticException" ∧ (sm (fun r => M (20 * M (8 * r + 148) 5 + 48) 3) (M 0 12) = 0) ∧ M' = M)) := by
  refine ctx_of (by decide +kernel) (Nat.le_of_ble_eq_true rfl) ?_
  show Ok g mX8_meanSteps (rmX 3) (FX g (pDP (fun x => sm (fun r => M (20 * M (8 * r + 148) 5 + 48) 3) (M 0 12) ≠ 0 ∧ x = FP.ddiv (FP.i2d (iZ (sm (fun r => sm (fun t => M (8 * r + 154) t) (M (20 * M (8 * r + 148) 5 + 48) 3)) (M 0 12)))) (FP.i2d (iZ (sm (fun r => M (20 * M (8 * r + 148) 5 + 48) 3) (M 0 12))))) M) (fun E M' => (E = "java/lang/ArithmeticException" ∧ (sm (fun r => M (20 * M (8 * r + 148) 5 + 48) 3) (M 0 12) = 0) ∧ M' = M))) 0 [(0, rv g 0)] [] M
  have c0 := C.1
  have h_6 : ∀ (n_6 : Nat) (s : Int) (n : Int) (r : Int), (0 ≤ r ∧ r ≤ M 0 12) → (s = sm (fun r => sm (fun t => M (8 * r + 154) t) (M (20 * M (8 * r + 148) 5 + 48) 3)) r) → (n = sm (fun r => M (20 * M (8 * r + 148) 5 + 48) 3) r) → (0 ≤ n ∧ n ≤ 6 * r) → (M 0 12 - r).toNat < n_6 → Ok g mX8_meanSteps (rmX 3) (FX g (pDP (fun x => sm (fun r => M (20 * M (8 * r + 148) 5 + 48) 3) (M 0 12) ≠ 0 ∧ x = FP.ddiv (FP.i2d (iZ (sm (fun r => sm (fun t => M (8 * r + 154) t) (M (20 * M (8 * r + 148) 5 + 48) 3)) (M 0 12)))) (FP.i2d (iZ (sm (fun r => M (20 * M (8 * r + 148) 5 + 48) 3) (M 0 12))))) M) (fun E M' => (E = "java/lang/ArithmeticException" ∧ (sm (fun r => M (20 * M (8 * r + 148) 5 + 48) 3) (M 0 12) = 0) ∧ M' = M))) 6 [(0, rv g 0), (1, iv s), (2, iv n), (3, iv r)] [] M := by
    intro n_6
    induction n_6 with
    | zero => intro s n r j0 j1 j2 j3 hn_6; exact absurd hn_6 (Nat.not_lt_zero _)
    | succ n_6 ih_6 =>
      intro s n r j0 j1 j2 j3 hn_6
      refine x_iload_n 3 dX8_meanSteps_6 rfl rfl ?_
      refine x_aload_n 0 dX8_meanSteps_7 rfl rfl ?_
      refine x_geti (k := 12) (kI := 12) dX8_meanSteps_8 fl8_76 k_0 rfl rfl (fun ⟨a1, a1'⟩ => ?_)
      refine x_icmp_ge (tgt := 68) dX8_meanSteps_11 (by decide) ⟨by omega, by omega⟩ ⟨by omega, by omega⟩ (fun c2 => ?_) (fun c2 => ?_)
      · have e9 : r = M 0 12 := by omega
        subst j1
        subst e9
        refine x_iload_n 2 dX8_meanSteps_68 rfl rfl ?_
        refine x_if_ne (tgt := 80) dX8_meanSteps_69 (by decide) ⟨by omega, by omega⟩ (fun c3 => ?_) (fun c3 => ?_)
        · refine x_iload_n 1 dX8_meanSteps_80 rfl rfl ?_
          refine x_i2d dX8_meanSteps_81 ?_
          refine x_iload_n 2 dX8_meanSteps_82 rfl rfl ?_
          refine x_i2d dX8_meanSteps_83 ?_
          refine x_ddiv dX8_meanSteps_84 (dq_ok ⟨by omega, by omega⟩ (by omega)) ?_
          refine x_toX ?_
          refine x_dret dX8_meanSteps_85 rfl ?_
          exact ⟨_, rfl, rfl, by omega, by rw [← j2]⟩
        · exact x_throw hst ex_292 dX8_meanSteps_72 dX8_meanSteps_75 dX8_meanSteps_76 dX8_meanSteps_79 (Nat.le_of_ble_eq_true rfl) (Nat.le_of_ble_eq_true rfl) (Nat.le_of_ble_eq_true rfl) (Nat.le_of_ble_eq_true rfl) (⟨rfl, by omega, rfl⟩)
      · have i1 := C.run r (by omega) (by omega)
        have i2 := C.prob (M (8 * r + 148) 5) (by omega) (by omega)
        refine x_aload_n 0 dX8_meanSteps_14 rfl rfl ?_
        refine x_aload_n 0 dX8_meanSteps_15 rfl rfl ?_
        refine x_getr (k := 3) (d := 9) dX8_meanSteps_16 fl8_31 k_0 rfl (fun k4 => ?_)
        have k4 : isK 31 40 9 := k4
        show Ok g mX8_meanSteps (rmX 3) (FX g (pDP (fun x => sm (fun r => M (20 * M (8 * r + 148) 5 + 48) 3) (M 0 12) ≠ 0 ∧ x = FP.ddiv (FP.i2d (iZ (sm (fun r => sm (fun t => M (8 * r + 154) t) (M (20 * M (8 * r + 148) 5 + 48) 3)) (M 0 12)))) (FP.i2d (iZ (sm (fun r => M (20 * M (8 * r + 148) 5 + 48) 3) (M 0 12))))) M) (fun E M' => (E = "java/lang/ArithmeticException" ∧ (sm (fun r => M (20 * M (8 * r + 148) 5 + 48) 3) (M 0 12) = 0) ∧ M' = M))) 19 [(0, rv g 0), (1, iv s), (2, iv n), (3, iv r)] [rv g 9, rv g 0] M
        refine x_iload_n 3 dX8_meanSteps_19 rfl rfl ?_
        refine x_aald31 dX8_meanSteps_20 k4 (by omega) (by omega) (by decide) (fun k5 => ?_)
        have ek5 : 9 + (139 + 8 * r) = 8 * r + 148 := by omega
        rw [ek5] at k5 ⊢
        refine x_callVIP (as := [rv g (8 * r + 148)]) (rest := []) dX8_meanSteps_21 vl8_295 k_0 (c_X8_testCountOf g M r (by omega) (by omega) (by omega) (by omega)) rfl rfl (Nat.le_of_ble_eq_true rfl) ⟨Nat.le_of_ble_eq_true rfl, Nat.le_of_ble_eq_true rfl⟩ (fun z6 h7 => ?_)
        have htc := h7
        refine x_istore (lv' := [(4, iv z6), (0, rv g 0), (1, iv s), (2, iv n), (3, iv r)]) dX8_meanSteps_24 (Nat.le_of_ble_eq_true rfl) rfl ?_
        refine x_iconst (0) dX8_meanSteps_26 rfl ?_
        refine x_istore (lv' := [(5, iv 0), (4, iv z6), (0, rv g 0), (1, iv s), (2, iv n), (3, iv r)]) dX8_meanSteps_27 (Nat.le_of_ble_eq_true rfl) rfl ?_
        have h_29 : ∀ (n_29 : Nat) (u : Int) (t : Int) (k : Int), (k = M (20 * M (8 * r + 148) 5 + 48) 3) → (0 ≤ t ∧ t ≤ k) → (u = s + sm (fun t => M (8 * r + 154) t) t) → (k - t).toNat < n_29 → Ok g mX8_meanSteps (rmX 3) (FX g (pDP (fun x => sm (fun r => M (20 * M (8 * r + 148) 5 + 48) 3) (M 0 12) ≠ 0 ∧ x = FP.ddiv (FP.i2d (iZ (sm (fun r => sm (fun t => M (8 * r + 154) t) (M (20 * M (8 * r + 148) 5 + 48) 3)) (M 0 12)))) (FP.i2d (iZ (sm (fun r => M (20 * M (8 * r + 148) 5 + 48) 3) (M 0 12))))) M) (fun E M' => (E = "java/lang/ArithmeticException" ∧ (sm (fun r => M (20 * M (8 * r + 148) 5 + 48) 3) (M 0 12) = 0) ∧ M' = M))) 29 [(0, rv g 0), (1, iv u), (2, iv n), (3, iv r), (4, iv k), (5, iv t)] [] M := by
          intro n_29
          induction n_29 with
          | zero => intro u t k l1 l0 l2 hn_29; exact absurd hn_29 (Nat.not_lt_zero _)
          | succ n_29 ih_29 =>
            intro u t k l1 l0 l2 hn_29
            refine x_iload 5 dX8_meanSteps_29 rfl ?_
            refine x_iload 4 dX8_meanSteps_31 rfl ?_
            refine x_icmp_ge (tgt := 57) dX8_meanSteps_33 (by decide) ⟨by omega, by omega⟩ ⟨by omega, by omega⟩ (fun c9 => ?_) (fun c9 => ?_)
            · refine x_iload_n 2 dX8_meanSteps_57 rfl rfl ?_
              refine x_iload 4 dX8_meanSteps_58 rfl ?_
              refine x_iadd dX8_meanSteps_60 ?_
              refine x_istore_n (lv' := [(2, iv (n + k)), (0, rv g 0), (1, iv u), (3, iv r), (4, iv k), (5, iv t)]) dX8_meanSteps_61 rfl (Nat.le_of_ble_eq_true rfl) rfl ?_
              refine x_iinc (z := r) (lv' := [(3, iv (r + 1)), (2, iv (n + k)), (0, rv g 0), (1, iv u), (4, iv k), (5, iv t)]) 3 dX8_meanSteps_62 rfl (Nat.le_of_ble_eq_true rfl) rfl ?_
              refine x_goto (tgt := 6) dX8_meanSteps_65 (by decide) ?_
              refine x_sub [2, 3, 1, 0] rfl ?_
              exact ih_6 _ _ _ (by omega) (by rw [sm_s (by omega), ← j1, l2, show t = M (20 * M (8 * r + 148) 5 + 48) 3 by omega]) (by rw [sm_s (by omega), ← j2]; omega) (by omega) (by omega)
            · refine x_iload_n 1 dX8_meanSteps_36 rfl rfl ?_
              refine x_aload_n 0 dX8_meanSteps_37 rfl rfl ?_
              refine x_getr (k := 3) (d := 9) dX8_meanSteps_38 fl8_31 k_0 rfl (fun k10 => ?_)
              have k10 : isK 31 40 9 := k10
              show Ok g mX8_meanSteps (rmX 3) (FX g (pDP (fun x => sm (fun r => M (20 * M (8 * r + 148) 5 + 48) 3) (M 0 12) ≠ 0 ∧ x = FP.ddiv (FP.i2d (iZ (sm (fun r => sm (fun t => M (8 * r + 154) t) (M (20 * M (8 * r + 148) 5 + 48) 3)) (M 0 12)))) (FP.i2d (iZ (sm (fun r => M (20 * M (8 * r + 148) 5 + 48) 3) (M 0 12))))) M) (fun E M' => (E = "java/lang/ArithmeticException" ∧ (sm (fun r => M (20 * M (8 * r + 148) 5 + 48) 3) (M 0 12) = 0) ∧ M' = M))) 41 [(0, rv g 0), (1, iv u), (2, iv n), (3, iv r), (4, iv k), (5, iv t)] [rv g 9, iv u] M
              refine x_iload_n 3 dX8_meanSteps_41 rfl rfl ?_
              refine x_aald31 dX8_meanSteps_42 k10 (by omega) (by omega) (by decide) (fun k11 => ?_)
              have ek11 : 9 + (139 + 8 * r) = 8 * r + 148 := by omega
              rw [ek11] at k11 ⊢
              refine x_getr (k := 2) (d := 6) dX8_meanSteps_43 fl8_208 k11 rfl (fun k12 => ?_)
              have ek12 : (8 * r + 148 + 6 : Int) = 8 * r + 154 := by omega
              rw [ek12] at k12 ⊢
              refine x_iload 5 dX8_meanSteps_46 rfl ?_
              refine x_iald dX8_meanSteps_48 k12 (by omega) (by omega) (by decide) (fun ⟨a13, a13'⟩ => ?_)
              refine x_iadd dX8_meanSteps_49 ?_
              refine x_istore_n (lv' := [(1, iv (u + (M (8 * r + 154) t))), (0, rv g 0), (2, iv n), (3, iv r), (4, iv k), (5, iv t)]) dX8_meanSteps_50 rfl (Nat.le_of_ble_eq_true rfl) rfl ?_
              refine x_iinc (z := t) (lv' := [(5, iv (t + 1)), (1, iv (u + (M (8 * r + 154) t))), (0, rv g 0), (2, iv n), (3, iv r), (4, iv k)]) 5 dX8_meanSteps_51 rfl (Nat.le_of_ble_eq_true rfl) rfl ?_
              refine x_goto (tgt := 29) dX8_meanSteps_54 (by decide) ?_
              refine x_sub [2, 1, 3, 4, 5, 0] rfl ?_
              exact ih_29 _ _ _ (by omega) (by omega) (by rw [sm_s (by omega), l2]; omega) (by omega)
        refine x_sub [2, 3, 4, 5, 1, 0] rfl ?_
        exact h_29 _ _ _ _ (by omega) (by omega) (by show _ = _ + 0; omega) (Nat.lt_succ_self _)
  refine x_iconst (0) dX8_meanSteps_0 rfl ?_
  refine x_istore_n (lv' := [(1, iv 0), (0, rv g 0)]) dX8_meanSteps_1 rfl (Nat.le_of_ble_eq_true rfl) rfl ?_
  refine x_iconst (0) dX8_meanSteps_2 rfl ?_
  refine x_istore_n (lv' := [(2, iv 0), (1, iv 0), (0, rv g 0)]) dX8_meanSteps_3 rfl (Nat.le_of_ble_eq_true rfl) rfl ?_
  refine x_iconst (0) dX8_meanSteps_4 rfl ?_
  refine x_istore_n (lv' := [(3, iv 0), (2, iv 0), (1, iv 0), (0, rv g 0)]) dX8_meanSteps_5 rfl (Nat.le_of_ble_eq_true rfl) rfl ?_
  refine x_sub [3, 2, 1, 0] rfl ?_
  exact h_6 _ _ _ _ (by omega) (by rfl) (by rfl) (by omega) (Nat.lt_succ_self _)
