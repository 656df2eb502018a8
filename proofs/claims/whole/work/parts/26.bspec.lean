/-- a step that may be typed -/
def SOK (l a b : Int) : Prop := l = 104 ∨ (0 ≤ a ∧ a ≤ 3 ∧ (l = 105 ∨ l = 111 ∨ (l = 115 ∧ -999 ≤ b ∧ b ≤ 999) ∨ ((l = 106 ∨ l = 110) ∧ 0 ≤ b ∧ b ≤ 99) ∨ ((l = 97 ∨ l = 109 ∨ l = 100) ∧ 0 ≤ b ∧ b ≤ 3)))
/-- the reference in its ranges -/
def RB (M : Mem) : Prop := (0 ≤ M 468 1 ∧ M 468 1 ≤ 20 ∧ 0 ≤ M 468 5 ∧ M 468 5 ≤ 4 ∧ 0 ≤ M 468 6 ∧ M 468 6 ≤ 6 ∧ 0 ≤ M 468 9 ∧ M 468 9 ≤ 5 ∧ 0 ≤ M 468 17 ∧ M 468 17 ≤ 8 ∧ 0 ≤ M 468 18 ∧ M 468 18 ≤ 40 ∧ -1 ≤ M 468 36 ∧ M 468 36 ≤ 999) ∧ (∀ p, 0 ≤ p → p < M 468 9 → 0 ≤ (M 476 (p)) ∧ (M 476 (p)) ≤ 6 ∧ 1 ≤ (M 475 (p)) ∧ (M 475 (p)) ≤ 400 ∧ 0 ≤ (M 474 (p)) ∧ (M 474 (p)) ≤ 3) ∧ (∀ r, 0 ≤ r → r < M 468 18 → 0 ≤ (M 481 (r)) ∧ (M 481 (r)) < M 468 17 ∧ 0 ≤ (M 482 (r)) ∧ (M 482 (r)) < M 468 9 ∧ 0 ≤ (M 483 (r)) ∧ (M 483 (r)) ≤ 999 ∧ 0 ≤ (M 484 (r)) ∧ (M 484 (r)) ≤ 20) ∧ (∀ r t, 0 ≤ r → r < M 468 18 → 0 ≤ t → t < (M 476 ((M 482 (r)))) → ((M 488 (6 * r + t)) = 111 ∨ (M 488 (6 * r + t)) = 119 ∨ (M 488 (6 * r + t)) = 114 ∨ (M 488 (6 * r + t)) = 108 ∨ (M 488 (6 * r + t)) = 116) ∧ 0 ≤ (M 491 (6 * r + t)) ∧ (M 491 (6 * r + t)) ≤ 6 ∧ 0 ≤ (M 489 (6 * r + t)) ∧ (M 489 (6 * r + t)) ≤ 400) ∧ (∀ p t, 0 ≤ p → p < M 468 9 → 0 ≤ t → t < (M 476 (p)) → 0 ≤ (M 478 (6 * p + t)) ∧ (M 478 (6 * p + t)) ≤ 4 ∧ 0 ≤ (M 480 (6 * p + t)) ∧ (M 480 (6 * p + t)) ≤ 6) ∧ (∀ k, 0 ≤ k → k < M 468 1 → SOK (M 469 (k)) (M 470 (k)) (M 471 (k))) ∧ (∀ r k, 0 ≤ r → r < M 468 18 → 0 ≤ k → k < (M 484 (r)) → SOK (M 485 (20 * r + k)) (M 486 (20 * r + k)) (M 487 (20 * r + k))) ∧ (∀ t p, 0 ≤ t → t < M 468 17 → 0 ≤ p → p < 5 → (M 493 (5 * t + p)) = 45 ∨ (M 493 (5 * t + p)) = 111 ∨ (M 493 (5 * t + p)) = 113) ∧ (∀ r q, 0 ≤ r → r ≤ q → q < M 468 18 → (M 483 (r)) ≤ (M 483 (q))) ∧ (∀ r, 0 ≤ r → r < 40 → ((M 496 (r)) = 0 ∨ (M 496 (r)) = 1) ∧ (M 468 18 ≤ r → (M 496 (r)) = 0)) ∧ (0 ≤ M 468 34 ∧ M 468 34 ≤ 100000 ∧ ∀ t p, 0 ≤ t → t < M 468 17 → 0 ≤ p → p < 5 → (M 493 (5 * t + p)) = 113 → 1 ≤ (M 494 (5 * t + p)) ∧ (M 494 (5 * t + p)) ≤ M 468 34)
theorem RB.rng {M : Mem} (I : RB M) : 0 ≤ M 468 1 ∧ M 468 1 ≤ 20 ∧ 0 ≤ M 468 5 ∧ M 468 5 ≤ 4 ∧ 0 ≤ M 468 6 ∧ M 468 6 ≤ 6 ∧ 0 ≤ M 468 9 ∧ M 468 9 ≤ 5 ∧ 0 ≤ M 468 17 ∧ M 468 17 ≤ 8 ∧ 0 ≤ M 468 18 ∧ M 468 18 ≤ 40 ∧ -1 ≤ M 468 36 ∧ M 468 36 ≤ 999 := I.1
theorem RB.prob {M : Mem} (I : RB M) : ∀ p, 0 ≤ p → p < M 468 9 → 0 ≤ (M 476 (p)) ∧ (M 476 (p)) ≤ 6 ∧ 1 ≤ (M 475 (p)) ∧ (M 475 (p)) ≤ 400 ∧ 0 ≤ (M 474 (p)) ∧ (M 474 (p)) ≤ 3 := I.2.1
theorem RB.run {M : Mem} (I : RB M) : ∀ r, 0 ≤ r → r < M 468 18 → 0 ≤ (M 481 (r)) ∧ (M 481 (r)) < M 468 17 ∧ 0 ≤ (M 482 (r)) ∧ (M 482 (r)) < M 468 9 ∧ 0 ≤ (M 483 (r)) ∧ (M 483 (r)) ≤ 999 ∧ 0 ≤ (M 484 (r)) ∧ (M 484 (r)) ≤ 20 := I.2.2.1
theorem RB.res {M : Mem} (I : RB M) : ∀ r t, 0 ≤ r → r < M 468 18 → 0 ≤ t → t < (M 476 ((M 482 (r)))) → ((M 488 (6 * r + t)) = 111 ∨ (M 488 (6 * r + t)) = 119 ∨ (M 488 (6 * r + t)) = 114 ∨ (M 488 (6 * r + t)) = 108 ∨ (M 488 (6 * r + t)) = 116) ∧ 0 ≤ (M 491 (6 * r + t)) ∧ (M 491 (6 * r + t)) ≤ 6 ∧ 0 ≤ (M 489 (6 * r + t)) ∧ (M 489 (6 * r + t)) ≤ 400 := I.2.2.2.1
theorem RB.tst {M : Mem} (I : RB M) : ∀ p t, 0 ≤ p → p < M 468 9 → 0 ≤ t → t < (M 476 (p)) → 0 ≤ (M 478 (6 * p + t)) ∧ (M 478 (6 * p + t)) ≤ 4 ∧ 0 ≤ (M 480 (6 * p + t)) ∧ (M 480 (6 * p + t)) ≤ 6 := I.2.2.2.2.1
theorem RB.stp {M : Mem} (I : RB M) : ∀ k, 0 ≤ k → k < M 468 1 → SOK (M 469 (k)) (M 470 (k)) (M 471 (k)) := I.2.2.2.2.2.1
theorem RB.prg {M : Mem} (I : RB M) : ∀ r k, 0 ≤ r → r < M 468 18 → 0 ≤ k → k < (M 484 (r)) → SOK (M 485 (20 * r + k)) (M 486 (20 * r + k)) (M 487 (20 * r + k)) := I.2.2.2.2.2.2.1
theorem RB.bal {M : Mem} (I : RB M) : ∀ t p, 0 ≤ t → t < M 468 17 → 0 ≤ p → p < 5 → (M 493 (5 * t + p)) = 45 ∨ (M 493 (5 * t + p)) = 111 ∨ (M 493 (5 * t + p)) = 113 := I.2.2.2.2.2.2.2.1
theorem RB.mono {M : Mem} (I : RB M) : ∀ r q, 0 ≤ r → r ≤ q → q < M 468 18 → (M 483 (r)) ≤ (M 483 (q)) := I.2.2.2.2.2.2.2.2.1
theorem RB.opn {M : Mem} (I : RB M) : ∀ r, 0 ≤ r → r < 40 → ((M 496 (r)) = 0 ∨ (M 496 (r)) = 1) ∧ (M 468 18 ≤ r → (M 496 (r)) = 0) := I.2.2.2.2.2.2.2.2.2.1
theorem RB.stamp {M : Mem} (I : RB M) : 0 ≤ M 468 34 ∧ M 468 34 ≤ 100000 ∧ ∀ t p, 0 ≤ t → t < M 468 17 → 0 ≤ p → p < 5 → (M 493 (5 * t + p)) = 113 → 1 ≤ (M 494 (5 * t + p)) ∧ (M 494 (5 * t + p)) ≤ M 468 34 := I.2.2.2.2.2.2.2.2.2.2
theorem up_code {M : Mem} {c o k : Int} (h : o ≠ 468 ∨ k ≠ 0) : up M 468 0 c o k = M o k := up_n (by omega)
theorem RB.code {M : Mem} (I : RB M) (c : Int) : RB (up M 468 0 c) := by
  unfold RB at I ⊢
  simpa (disch := omega) only [up_o, up_k] using I
/-- the test by which a run fails, or -1; its verdict; accepted -/
noncomputable def fz (M : Mem) (r : Int) : Int := lst (fun t => (M 488 (6 * r + t)) ≠ 111) ((M 476 ((M 482 (r)))))
noncomputable def vz (M : Mem) (r : Int) : Int := if fz M r = -1 then 97 else (M 488 (6 * r + fz M r))
def Acc (M : Mem) (r : Int) : Prop := ∀ t, 0 ≤ t → t < (M 476 ((M 482 (r)))) → (M 488 (6 * r + t)) = 111
theorem fz_rng {M : Mem} {r : Int} (h : 0 ≤ (M 476 ((M 482 (r))))) : -1 ≤ fz M r ∧ fz M r < (M 476 ((M 482 (r)))) ∨ fz M r = -1 := by
  rcases lst_range (fun t => (M 488 (6 * r + t)) ≠ 111) h with e | e
  · exact Or.inr e
  · exact Or.inl ⟨by show -1 ≤ lst _ _; omega, e.2⟩
theorem fz_acc {M : Mem} {r : Int} (h : 0 ≤ (M 476 ((M 482 (r))))) : fz M r = -1 ↔ Acc M r := by
  rcases lst_is (fun t => (M 488 (6 * r + t)) ≠ 111) h with ⟨a, b⟩ | ⟨a, b, c, d⟩
  · exact ⟨fun _ t t0 t1 => Classical.byContradiction fun q => b t t0 t1 q, fun _ => a⟩
  · exact ⟨fun e => by change lst _ _ = -1 at e; omega, fun q => absurd (q _ a b) c⟩
theorem vz_acc {M : Mem} (I : RB M) {r : Int} (h0 : 0 ≤ r) (h1 : r < M 468 18) : vz M r = 97 ↔ Acc M r := by
  have q := I.run r h0 h1
  have q2 := I.prob ((M 482 (r))) (by omega) (by omega)
  rw [← fz_acc (by omega)]
  unfold vz
  split
  · rename_i e
    simp [e]
  · rename_i e
    have q3 := fz_rng (M := M) (r := r) (by omega)
    have q4 := I.res r (fz M r) h0 h1 (by omega) (by omega)
    constructor
    · intro e2; omega
    · intro e2; exact absurd e2 e
/-- a team has solved a problem -/
def Sol (M : Mem) (t p : Int) : Prop := ∃ r, 0 ≤ r ∧ r < M 468 18 ∧ (M 481 (r)) = t ∧ (M 482 (r)) = p ∧ Acc M r
def Pnd (M : Mem) (r : Int) : Prop := M 468 36 ≠ -1 ∧ M 468 36 ≤ (M 483 (r)) ∧ (M 496 (r)) = 0
def Lik (M : Mem) (r t q u : Int) : Prop := (M 491 (6 * r + t)) = (M 491 (6 * q + u)) ∧ ∀ k, 0 ≤ k → k < (M 491 (6 * r + t)) → (M 490 (36 * r + 6 * t + k)) = (M 490 (36 * q + 6 * u + k))
/-- how many pending runs of a problem a team has -/
noncomputable def pnd (M : Mem) (t p : Int) : Int := cnt (fun r => (M 481 (r)) = t ∧ (M 482 (r)) = p ∧ Pnd M r) (M 468 18)
/-- no test ahead has a like output -/
def Fst (M : Mem) (r t : Int) : Prop := ∀ q u, 0 ≤ q → q ≤ r → 0 ≤ u → u < (if q = r then t else (M 476 ((M 482 (q))))) → ¬ Lik M r t q u
/-- seen on a board -/
def Vis (M : Mem) (b r : Int) : Prop := ¬ (b ≠ 0 ∧ Pnd M r)
/-- the first accepted run of a team and a problem on a board, among the first n -/
noncomputable def fstR (M : Mem) (b t p n : Int) : Int := lst (fun r => (M 481 (r)) = t ∧ (M 482 (r)) = p ∧ Vis M b r ∧ Acc M r) n
noncomputable def penR (M : Mem) (b t p n : Int) : Int := if fstR M b t p n = -1 then 0 else (M 483 (fstR M b t p n)) + 20 * cnt (fun r => (M 481 (r)) = t ∧ (M 482 (r)) = p ∧ Vis M b r) (fstR M b t p n)
noncomputable def sol1 (M : Mem) (b t p n : Int) : Int := if fstR M b t p n = -1 then 0 else 1
noncomputable def solR (M : Mem) (b t n : Int) : Int := sm (fun p => sol1 M b t p n) (M 468 9)
noncomputable def penS (M : Mem) (b t n : Int) : Int := sm (fun p => penR M b t p n) (M 468 9)
noncomputable def latN (M : Mem) (b t n : Int) : Nat → Int
  | 0 => 0
  | k + 1 => if fstR M b t k n = -1 then latN M b t n k else max (latN M b t n k) ((M 483 (fstR M b t k n)))
noncomputable def latR (M : Mem) (b t n : Int) : Int := latN M b t n (M 468 9).toNat
/-- ahead on a board -/
def Ahd (M : Mem) (b a c : Int) : Prop :=
  solR M b c (M 468 18) < solR M b a (M 468 18) ∨ (solR M b c (M 468 18) = solR M b a (M 468 18) ∧ (penS M b a (M 468 18) < penS M b c (M 468 18) ∨ (penS M b a (M 468 18) = penS M b c (M 468 18) ∧ (latR M b a (M 468 18) < latR M b c (M 468 18) ∨ (latR M b a (M 468 18) = latR M b c (M 468 18) ∧ a < c)))))
/-- how many outputs are kept; how many share one; how many balloons are out; the sum over all outputs -/
noncomputable def kpt (M : Mem) : Int := sm (fun r => cnt (fun t => Fst M r t) ((M 476 ((M 482 (r)))))) (M 468 18)
noncomputable def shr (M : Mem) (r t : Int) : Int := sm (fun q => cnt (fun u => Lik M r t q u) ((M 476 ((M 482 (q)))))) (M 468 18)
noncomputable def outc (M : Mem) (c : Int) : Int := sm (fun t => cnt (fun p => (M 474 (p)) = c ∧ (M 493 (5 * t + p)) = 111) (M 468 9)) (M 468 17)
def ckK (f : Int → Int) (x : Int64) : Nat → Int64
  | 0 => x
  | n + 1 => 31 * ckK f x n + Int64.ofInt (f n)
def ckT (f : Int → Int → Int) (c : Int → Int) (x : Int64) : Nat → Int64
  | 0 => x
  | n + 1 => 31 * ckK (f n) (ckT f c x n) (c n).toNat + 1000
def ckR (f : Int → Int → Int → Int) (c : Int → Int → Int) (d : Int → Int) : Nat → Int64
  | 0 => 7
  | n + 1 => ckT (f n) (c n) (ckR f c d n) (d n).toNat
def cks (M : Mem) : Int64 := ckR (fun r t k => (M 490 (36 * r + 6 * t + k))) (fun r t => (M 491 (6 * r + t))) (fun r => (M 476 ((M 482 (r))))) (M 468 18).toNat
theorem ckK_s {f : Int → Int} {x : Int64} {k : Int} (h : 0 ≤ k) : ckK f x (k + 1).toNat = 31 * ckK f x k.toNat + Int64.ofInt (f k) := by
  rw [show (k + 1).toNat = k.toNat + 1 by omega]; simp only [ckK, Int.toNat_of_nonneg h]
theorem ckT_s {f : Int → Int → Int} {c : Int → Int} {x : Int64} {k : Int} (h : 0 ≤ k) : ckT f c x (k + 1).toNat = 31 * ckK (f k) (ckT f c x k.toNat) (c k).toNat + 1000 := by
  rw [show (k + 1).toNat = k.toNat + 1 by omega]; simp only [ckT, Int.toNat_of_nonneg h]
theorem ckR_s {f : Int → Int → Int → Int} {c : Int → Int → Int} {d : Int → Int} {k : Int} (h : 0 ≤ k) : ckR f c d (k + 1).toNat = ckT (f k) (c k) (ckR f c d k.toNat) (d k).toNat := by
  rw [show (k + 1).toNat = k.toNat + 1 by omega]; simp only [ckR, Int.toNat_of_nonneg h]
theorem fz_code {M : Mem} {c r : Int} : fz (up M 468 0 c) r = fz M r := by unfold fz; simp (disch := omega) only [up_o]
theorem vz_code {M : Mem} {c r : Int} : vz (up M 468 0 c) r = vz M r := by unfold vz; rw [fz_code]; simp (disch := omega) only [up_o]
theorem Acc_code {M : Mem} {c r : Int} : Acc (up M 468 0 c) r = Acc M r := by unfold Acc; simp (disch := omega) only [up_o]
theorem Sol_code {M : Mem} {c t p : Int} : Sol (up M 468 0 c) t p = Sol M t p := by unfold Sol; simp (disch := omega) only [up_o, up_k, Acc_code]
theorem Pnd_code {M : Mem} {c r : Int} : Pnd (up M 468 0 c) r = Pnd M r := by unfold Pnd; simp (disch := omega) only [up_o, up_k]
theorem Lik_code {M : Mem} {c r t q u : Int} : Lik (up M 468 0 c) r t q u = Lik M r t q u := by unfold Lik; simp (disch := omega) only [up_o]
theorem Fst_code {M : Mem} {c r t : Int} : Fst (up M 468 0 c) r t = Fst M r t := by unfold Fst; simp (disch := omega) only [up_o, Lik_code]
theorem pnd_code {M : Mem} {c t p : Int} : pnd (up M 468 0 c) t p = pnd M t p := by unfold pnd; simp (disch := omega) only [up_o, up_k, Pnd_code]
theorem Vis_code {M : Mem} {c b r : Int} : Vis (up M 468 0 c) b r = Vis M b r := by unfold Vis; rw [Pnd_code]
theorem fstR_code {M : Mem} {c b t p n : Int} : fstR (up M 468 0 c) b t p n = fstR M b t p n := by unfold fstR; simp (disch := omega) only [up_o, Vis_code, Acc_code]
theorem penR_code {M : Mem} {c b t p n : Int} : penR (up M 468 0 c) b t p n = penR M b t p n := by unfold penR; simp (disch := omega) only [up_o, fstR_code, Vis_code]
theorem sol1_code {M : Mem} {c b t p n : Int} : sol1 (up M 468 0 c) b t p n = sol1 M b t p n := by unfold sol1; rw [fstR_code]
theorem solR_code {M : Mem} {c b t n : Int} : solR (up M 468 0 c) b t n = solR M b t n := by unfold solR; simp (disch := omega) only [up_k, sol1_code]
theorem penS_code {M : Mem} {c b t n : Int} : penS (up M 468 0 c) b t n = penS M b t n := by unfold penS; simp (disch := omega) only [up_k, penR_code]
theorem latN_code {M : Mem} {c b t n : Int} (k : Nat) : latN (up M 468 0 c) b t n k = latN M b t n k := by
  induction k with
  | zero => rfl
  | succ k ih => simp (disch := omega) only [latN, ih, fstR_code, up_o]
theorem latR_code {M : Mem} {c b t n : Int} : latR (up M 468 0 c) b t n = latR M b t n := by unfold latR; simp (disch := omega) only [up_k, latN_code]
theorem Ahd_code {M : Mem} {c b x y : Int} : Ahd (up M 468 0 c) b x y = Ahd M b x y := by unfold Ahd; simp (disch := omega) only [up_k, solR_code, penS_code, latR_code]
theorem solR_rng {M : Mem} {b t n : Int} (h0 : 0 ≤ M 468 9) (h5 : M 468 9 ≤ 5) : 0 ≤ solR M b t n ∧ solR M b t n ≤ 5 := by
  have h := sm_range (f := fun p => sol1 M b t p n) (c := 1) h0 (fun z _ _ => by show 0 ≤ sol1 M b t z n ∧ sol1 M b t z n ≤ 1; unfold sol1; split <;> omega)
  change 0 ≤ solR M b t n ∧ solR M b t n ≤ _ at h
  omega
theorem penS_rng {M : Mem} (I : RB M) {b t : Int} : 0 ≤ penS M b t (M 468 18) ∧ penS M b t (M 468 18) ≤ 10000 := by
  have i0 := I.rng
  have h := sm_range (f := fun p => penR M b t p (M 468 18)) (c := 2000) (n := M 468 9) (by omega) (fun z _ _ => by
    show 0 ≤ penR M b t z (M 468 18) ∧ penR M b t z (M 468 18) ≤ 2000
    unfold penR
    split
    · omega
    · rename_i e
      have h1 := lst_range (fun r => (M 481 (r)) = t ∧ (M 482 (r)) = z ∧ Vis M b r ∧ Acc M r) (n := M 468 18) (by omega)
      change fstR M b t z (M 468 18) = -1 ∨ (0 ≤ fstR M b t z (M 468 18) ∧ fstR M b t z (M 468 18) < _) at h1
      have h2 := I.run (fstR M b t z (M 468 18)) (by omega) (by omega)
      have h3 := cnt_range (fun r => (M 481 (r)) = t ∧ (M 482 (r)) = z ∧ Vis M b r) (n := fstR M b t z (M 468 18)) (by omega)
      omega)
  change 0 ≤ penS M b t (M 468 18) ∧ penS M b t (M 468 18) ≤ _ at h
  omega
