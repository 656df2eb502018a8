/-! the two memories together: the class lies below 468, the reference from there on -/
def TY (M : Mem) : Prop := (M 1 3 = M 468 1 ∧ M 5 2 = M 468 5 ∧ M 5 3 = M 468 6) ∧ (∀ k, 0 ≤ k → k < M 468 1 → M 2 k = M 469 k ∧ M 3 k = M 470 k ∧ M 4 k = M 471 k) ∧ (∀ k, 0 ≤ k → k < M 468 5 → M 6 k = M 472 k) ∧ ∀ k, 0 ≤ k → k < M 468 6 → M 7 k = M 473 k
def CNS (M : Mem) : Prop := (M 0 10 = M 468 9 ∧ M 0 11 = M 468 17 ∧ M 0 12 = M 468 18) ∧ ((M 0 13 = 1000 ∧ M 468 36 = -1 ∧ ∀ r, 0 ≤ r → r < 40 → M 496 r = 0) ∨ (0 ≤ M 468 36 ∧ M 0 13 = M 468 36))
def PRB (M : Mem) : Prop := ∀ p, 0 ≤ p → p < 5 → M (20 * p + 48) 3 = M 476 p ∧ (p < M 468 9 → M (20 * p + 48) 1 = M 474 p ∧ M (20 * p + 48) 2 = M 475 p) ∧ (M 468 9 ≤ p → M 476 p = 0)
def TEQ (M : Mem) (p t : Int) : Prop := M (20 * p + 3 * t + 50) 2 = M 478 (6 * p + t) ∧ M (20 * p + 3 * t + 50) 3 = M 480 (6 * p + t) ∧ (∀ k, 0 ≤ k → k < M 478 (6 * p + t) → M (20 * p + 3 * t + 51) k = M 477 (24 * p + 4 * t + k)) ∧ ∀ k, 0 ≤ k → k < M 480 (6 * p + t) → M (20 * p + 3 * t + 52) k = M 479 (36 * p + 6 * t + k)
def TST (M : Mem) : Prop := ∀ p t, 0 ≤ p → p < M 468 9 → 0 ≤ t → t < M 476 p → TEQ M p t
def REQ (M : Mem) (r : Int) : Prop := (M (8 * r + 148) 4 = M 481 r ∧ M (8 * r + 148) 5 = M 482 r ∧ M (8 * r + 148) 6 = M 483 r) ∧ (M (8 * r + 148) 7 ≠ 0 ↔ Pnd M r) ∧ (M (8 * r + 149) 3 = M 484 r ∧ ∀ k, 0 ≤ k → k < M 484 r → M (8 * r + 150) k = M 485 (20 * r + k) ∧ M (8 * r + 151) k = M 486 (20 * r + k) ∧ M (8 * r + 152) k = M 487 (20 * r + k)) ∧ JNc M (M (20 * M (8 * r + 148) 5 + 48) 3) r ∧ ∀ t, 0 ≤ t → t < M 476 (M 482 r) → RES M r t M
def RNS (M : Mem) : Prop := ∀ r, 0 ≤ r → r < M 468 18 → REQ M r
def SLT (M : Mem) : Prop := ∀ r t, 0 ≤ r → r < 40 → 0 ≤ t → t < 6 → ¬ (r < M 468 18 ∧ t < M 476 (M 482 r)) → M (8 * r + 155) t = -1
/-- a spot's balloon is of the colour c -/
def COL (M : Mem) (c x : Int) : Prop := M 474 (x % 5) = c
def BLC (n : Int) (M : Mem) (c : Int) (q : List Int) : Prop := QL M c q ∧ QB M c q ∧ q.Nodup ∧ M 495 c = M 25 c ∧ 0 ≤ M 25 c ∧ 0 ≤ M 26 c ∧ M 25 c + M 26 c ≤ 20 * n ∧ M 26 c = cnt (fun x => M 18 x = 111 ∧ COL M c x) 40 ∧ (q.length = 0 ∨ M 25 c = 0)
def BALL (n : Int) (q : Int → List Int) (M : Mem) : Prop := (∀ x, 0 ≤ x → x < 40 → M 18 x = 45 ∨ M 18 x = 111 ∨ M 18 x = 113) ∧ (∀ x, 0 ≤ x → x < 40 → 5 * M 468 17 ≤ x ∨ M 468 9 ≤ x % 5 → M 18 x = 45) ∧ (∀ x, 0 ≤ x → x < 5 * M 468 17 → M 493 x = M 18 x) ∧
  (∀ t p, 0 ≤ t → t < M 468 17 → 0 ≤ p → p < M 468 9 → (M 18 (5 * t + p) ≠ 45 ↔ Sol M t p)) ∧ (M 468 35 = M 17 5 ∧ 0 ≤ M 17 5 ∧ M 17 5 ≤ 8 * n ∧ M 468 34 ≤ 8 * n) ∧ ∀ c, 0 ≤ c → c < 4 → BLC n M c (q c)
/-- the class and the reference are alike, behind n calls -/
def JJn (n : Int) (q : Int → List Int) (M : Mem) : Prop := (RB M ∧ CR M ∧ SI M (-1) ∧ DKs M) ∧ (BOK M 27 0 ∧ BOK M 34 1) ∧ (CNS M ∧ TY M ∧ PRB M ∧ TST M ∧ RNS M ∧ SLT M) ∧ BALL n q M
section J1
variable {n : Int} {q : Int → List Int} {M : Mem}
theorem JJn.rb (h : JJn n q M) : RB M := h.1.1
theorem JJn.cr (h : JJn n q M) : CR M := h.1.2.1
theorem JJn.si (h : JJn n q M) : SI M (-1) := h.1.2.2.1
theorem JJn.dk (h : JJn n q M) : DKs M := h.1.2.2.2
theorem JJn.b0 (h : JJn n q M) : BOK M 27 0 := h.2.1.1
theorem JJn.b1 (h : JJn n q M) : BOK M 34 1 := h.2.1.2
theorem JJn.bb (h : JJn n q M) {b : Int} (hb : b = 0 ∨ b = 1) : BOK M (7 * b + 27) b := by
  rcases hb with rfl | rfl
  · exact h.b0
  · exact h.b1
theorem JJn.cns (h : JJn n q M) : CNS M := h.2.2.1.1
theorem JJn.ty (h : JJn n q M) : TY M := h.2.2.1.2.1
theorem JJn.prb (h : JJn n q M) : PRB M := h.2.2.1.2.2.1
theorem JJn.tst (h : JJn n q M) : TST M := h.2.2.1.2.2.2.1
theorem JJn.rns (h : JJn n q M) : RNS M := h.2.2.1.2.2.2.2.1
theorem JJn.slt (h : JJn n q M) : SLT M := h.2.2.1.2.2.2.2.2
theorem JJn.bal (h : JJn n q M) : BALL n q M := h.2.2.2
theorem TY.pg (hT : TY M) (I : RB M) : PG M 1 := by
  obtain ⟨⟨a1, a2, a3⟩, a4, a5, a6⟩ := hT
  have i0 := I.rng
  refine ⟨k_1, by omega, by omega, by omega, fun k k0 k1 => ?_⟩
  obtain ⟨x1, x2, x3⟩ := a4 k k0 (by omega)
  show SOK (M 2 k) (M 3 k) (M 4 k)
  rw [x1, x2, x3]
  exact I.stp k k0 (by omega)
theorem TY.nu (hT : TY M) (I : RB M) : NU M 5 := by
  obtain ⟨⟨a1, a2, a3⟩, a4, a5, a6⟩ := hT
  have i0 := I.rng
  exact ⟨k_5, by omega, by omega, by omega, by omega, by omega⟩
theorem REQ.pg {r : Int} (h : REQ M r) (I : RB M) (r0 : 0 ≤ r) (r1 : r < M 468 18) : PG M (8 * r + 149) := by
  obtain ⟨-, -, ⟨a1, a2⟩, -⟩ := h
  have i0 := I.rng
  have i1 := I.run r r0 r1
  refine ⟨k_prog r0 (by omega), by omega, by omega, by omega, fun k k0 k1 => ?_⟩
  obtain ⟨x1, x2, x3⟩ := a2 k k0 (by omega)
  rw [show 8 * r + 149 + 1 = 8 * r + 150 by omega, show 8 * r + 149 + 2 = 8 * r + 151 by omega, show 8 * r + 149 + 3 = 8 * r + 152 by omega, x1, x2, x3]
  exact I.prg r k r0 r1 k0 (by omega)
theorem TEQ.nu {p t : Int} (h : TEQ M p t) (I : RB M) (p0 : 0 ≤ p) (p1 : p < M 468 9) (t0 : 0 ≤ t) (t1 : t < M 476 p) : NU M (20 * p + 3 * t + 50) := by
  obtain ⟨a1, a2, -⟩ := h
  have i0 := I.rng
  have i1 := I.prob p p0 p1
  have i2 := I.tst p t p0 p1 t0 t1
  exact ⟨k_num p0 (by omega) t0 (by omega), by omega, by omega, by omega, by omega, by omega⟩
/-- what the class keeps of a judging is what the reference keeps -/
def SME (M : Mem) (r t : Int) : Prop := M (8 * r + 153) t = M 488 (6 * r + t) ∧ M (8 * r + 154) t = M 489 (6 * r + t) ∧ (0 ≤ M (8 * r + 155) t ∧ M (8 * r + 155) t < 240) ∧ M 15 (M (8 * r + 155) t) = M 491 (6 * r + t) ∧ (∀ k, 0 ≤ k → k < M 491 (6 * r + t) → M 14 (M (8 * r + 155) t * 6 + k) = M 490 (36 * r + 6 * t + k)) ∧ 0 ≤ M 491 (6 * r + t) ∧ M 491 (6 * r + t) ≤ 6
theorem sme_of {r t p : Int} (hp : M 482 r = p) (hp5 : M (8 * r + 148) 5 = p) (hPG : PG M (8 * r + 149)) (hNU : NU M (20 * p + 3 * t + 50)) (hl : M (20 * p + 48) 2 = M 475 p)
    (h3 : M (8 * r + 149) 3 = M 484 r) (hs : ∀ k, 0 ≤ k → k < M 484 r → M (8 * r + 150) k = M 485 (20 * r + k) ∧ M (8 * r + 151) k = M 486 (20 * r + k) ∧ M (8 * r + 152) k = M 487 (20 * r + k))
    (hT : TEQ M p t) (hD : DK M r t) (hR : RES M r t M) : SME M r t := by
  obtain ⟨t1, t2, t3, t4⟩ := hT
  have e := JA_JR hp hPG hNU hl h3 hs t1 t3
  unfold DK at hD
  rw [hp5, e] at hD
  obtain ⟨-, -, d3, d4, d5, d6, d7, ⟨d8, d9⟩, d10, d11⟩ := hD
  obtain ⟨r1, r2, r3, r4, r5, r6, r7, r8, r9⟩ := hR
  rw [hp] at r4
  have hX : XPa M (20 * p + 3 * t + 50) (JR M r t) ↔ XPo M p t (JR M r t) := by
    unfold XPa XPo
    rw [t2]
    constructor
    · rintro ⟨x1, x2⟩
      exact ⟨x1, fun k k0 k1 => by rw [x2 k k0 k1, show 20 * p + 3 * t + 50 + 2 = 20 * p + 3 * t + 52 by omega]; exact t4 k k0 (by omega)⟩
    · rintro ⟨x1, x2⟩
      exact ⟨x1, fun k k0 k1 => by rw [x2 k k0 k1, show 20 * p + 3 * t + 50 + 2 = 20 * p + 3 * t + 52 by omega]; exact (t4 k k0 (by omega)).symm⟩
  refine ⟨?_, d5.trans r3.symm, ⟨d6, d7⟩, d8.trans r1.symm, fun k k0 k1 => ?_, by omega, by omega⟩
  · unfold JEa at d3
    rw [hX] at d3
    unfold JE at r4
    rcases d3 with ⟨a, b⟩ | ⟨a, a2, b⟩ | ⟨a, a2, b⟩ <;> rcases r4 with ⟨a', b'⟩ | ⟨a', a2', b'⟩ | ⟨a', a2', b'⟩
    · omega
    · omega
    · omega
    · omega
    · omega
    · exact absurd a2 a2'
    · omega
    · exact absurd a2' a2
    · omega
  · rw [r1] at k1
    rw [d9 k k0 k1, r2 k k0 k1]
theorem JJn.run (h : JJn n q M) {r : Int} (r0 : 0 ≤ r) (r1 : r < M 468 18) : (0 ≤ M 481 r ∧ M 481 r < M 468 17) ∧ (0 ≤ M 482 r ∧ M 482 r < M 468 9) ∧ (0 ≤ M 476 (M 482 r) ∧ M 476 (M 482 r) ≤ 6) ∧ M (20 * M 482 r + 48) 3 = M 476 (M 482 r) ∧ M (8 * r + 148) 5 = M 482 r := by
  have i0 := h.rb.rng
  have i1 := h.rb.run r r0 r1
  have i2 := h.rb.prob (M 482 r) (by omega) (by omega)
  have i3 := h.prb (M 482 r) (by omega) (by omega)
  exact ⟨⟨by omega, by omega⟩, ⟨by omega, by omega⟩, ⟨by omega, by omega⟩, i3.1, (h.rns r r0 r1).1.2.1⟩
theorem JJn.sme (h : JJn n q M) {r t : Int} (r0 : 0 ≤ r) (r1 : r < M 468 18) (t0 : 0 ≤ t) (t1 : t < M 476 (M 482 r)) : SME M r t := by
  obtain ⟨a1, a2, a3, a4, a5⟩ := h.run r0 r1
  have i0 := h.rb.rng
  have c := h.cns.1
  have hq := h.rns r r0 r1
  have e := h.prb (M 482 r) a2.1 (by omega)
  exact sme_of rfl a5 (hq.pg h.rb r0 r1) ((h.tst _ t a2.1 a2.2 t0 t1).nu h.rb a2.1 a2.2 t0 t1) (e.2.1 a2.2).2 hq.2.2.1.1 hq.2.2.1.2 (h.tst _ t a2.1 a2.2 t0 t1) (h.dk r t r0 (by omega) t0 (by rw [a5]; omega)) (hq.2.2.2.2 t t0 t1)
theorem JJn.ver (h : JJn n q M) {r : Int} (r0 : 0 ≤ r) (r1 : r < M 468 18) : M (8 * r + 148) 8 = vz M r ∧ M (8 * r + 148) 9 = fz M r := by
  obtain ⟨a1, a2, a3, a4, a5⟩ := h.run r0 r1
  have hq := (h.rns r r0 r1).2.2.2.1
  unfold JNc at hq
  rw [a5, a4] at hq
  have e : ∀ u, 0 ≤ u → u < M 476 (M 482 r) → M (8 * r + 153) u = M 488 (6 * r + u) := fun u u0 u1 => (h.sme r0 r1 u0 u1).1
  refine ⟨?_, ?_⟩
  · rw [hq.1, vz_eq]
    exact VZ.congr a3.1 e
  · rw [hq.2]
    exact lst_congr a3.1 (fun z z0 z1 => by rw [e z z0 z1])
theorem JJn.acc (h : JJn n q M) {r : Int} (r0 : 0 ≤ r) (r1 : r < M 468 18) : M (8 * r + 148) 8 = 97 ↔ Acc M r := by
  rw [(h.ver r0 r1).1]
  exact vz_acc h.rb r0 r1
end J1
