theorem RB.lay {M M' : Mem} {p t : Int} (I : RB M) (h : LYS M p t M') (p0 : 0 ≤ p) (t0 : 0 ≤ t) (t1 : t < 6) : RB M' := by
  have i0 := I.rng
  have f : ∀ o k, o < 477 ∨ 480 < o → M' o k = M o k := fun o k ho => h.fr ho
  obtain ⟨l1, l2, l3, l4, l5⟩ := h
  obtain ⟨r1, r2, r3, r4, r5, r6, r7, r8, r9, r10, r11⟩ := id I
  unfold RB
  simp (disch := omega) only [f]
  refine ⟨r1, r2, r3, r4, fun q u q0 q1 u0 u1 => ?_, r6, r7, r8, r9, r10, r11⟩
  have hq := r2 q q0 q1
  by_cases e : q = p ∧ u = t
  · rw [e.1, e.2, l1, l2]; omega
  · have h5 := r5 q u q0 q1 u0 u1
    rw [l5 478 _ (by unfold LYf; omega), l5 480 _ (by unfold LYf; omega)]
    exact h5
theorem vz_cg9 {M M' : Mem} (f : ∀ o k, o < 477 ∨ 480 < o → M' o k = M o k) (r : Int) : vz M' r = vz M r := by
  unfold vz fz
  simp (disch := omega) only [f]
theorem LYS.vz {M M' : Mem} {p t : Int} (h : LYS M p t M') (r : Int) : vz M' r = vz M r := vz_cg9 (fun o k ho => h.fr ho) r
theorem LYS.rbb {M M' : Mem} {p t c : Int} {b : BSt} (h : LYS M p t M') (hb : RBb M c b) : RBb M' c b := hb.cong (h.fr (by omega)) (h.fr (by omega)) (h.fr (by omega)) (fun o k ho => h.fr (by omega))
theorem RBb.code {M : Mem} {c z : Int} {b : BSt} (hb : RBb M c b) : RBb (up M 468 0 z) c b := hb.cong (up_k (by omega)) (up_k (by omega)) (up_k (by omega)) (fun o k ho => up_o (by omega))
/-- what a good call of test or fix does in the reference -/
def TSP (M : Mem) (p t a : Int) (b : BSt) (z : Int) (M' : Mem) : Prop := ∃ M1 M2, LYS (up M 468 0 0) p t M1 ∧ RJ M1 p t (M 468 18) M2 ∧ M2 476 p = a ∧ z = cnt (fun r => M 482 r = p ∧ vz M2 r ≠ vz M r) (M 468 18) ∧ RB M2 ∧ RB M1 ∧ TCH M1 p t a ∧ BMV M2 (M 474 p) (fFo (fun u => Sol M2 u p) p (M 468 17) b) 8 M'
