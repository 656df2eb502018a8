theorem CR.cong {M M' : Mem} (C : CR M) (e : ∀ a k, a = 0 ∨ (48 ≤ a ∧ k < 10) → M' a k = M a k) : CR M' := by
  obtain ⟨c1, c2, c3⟩ := C
  refine ⟨?_, fun r r0 r1 => ?_, fun p p0 p1 => ?_⟩
  · rw [e 0 10 (by omega), e 0 11 (by omega), e 0 12 (by omega), e 0 13 (by omega)]; exact c1
  · rw [e 0 12 (by omega)] at r1
    rw [e 0 10 (by omega), e 0 11 (by omega), e _ 4 (by omega), e _ 5 (by omega), e _ 6 (by omega), e _ 7 (by omega), e _ 8 (by omega), e _ 9 (by omega)]
    exact c2 r r0 r1
  · rw [e 0 10 (by omega)] at p1
    rw [e _ 1 (by omega), e _ 2 (by omega), e _ 3 (by omega)]
    exact c3 p p0 p1
theorem RSM.of {M M' : Mem} (e : ∀ a k, a = 0 ∨ 48 ≤ a → M' a k = M a k) : RSM M M' := ⟨e _ _ (by omega), e _ _ (by omega), fun r k r0 r1 k0 k1 => e _ _ (by omega)⟩
theorem BOK.fst {M : Mem} {o q b : Int} (h1 : BOK M o b) (h2 : BOK M q b) {t p : Int} (t0 : 0 ≤ t) (t1 : t < M 0 11) (t2 : M 0 11 ≤ 8) (p0 : 0 ≤ p) (p1 : p < 5) : M (o + 2) (5 * t + p) = M (q + 2) (5 * t + p) := ((h1.2.1 (by omega) t t0 (by omega)).1 p p0 p1).1.trans ((h2.2.1 (by omega) t t0 (by omega)).1 p p0 p1).1.symm
/-- balloons are with those who have solved -/
def EA (M : Mem) : Prop := ∀ t p, 0 ≤ t → t < M 0 11 → 0 ≤ p → p < M 0 10 → (M 18 (5 * t + p) ≠ 45 ↔ M 29 (5 * t + p) ≠ -1)
theorem JA_cong {M M' : Mem} {pr nu lim : Int} (e : ∀ a k, (pr ≤ a ∧ a ≤ pr + 3) ∨ (nu ≤ a ∧ a ≤ nu + 1) → M' a k = M a k) : JA M' pr nu lim = JA M pr nu lim := by
  unfold JA
  simp (disch := omega) only [e]
theorem PG.cong {M M' : Mem} {pr : Int} (h : PG M pr) (e : ∀ a k, pr ≤ a ∧ a ≤ pr + 3 → M' a k = M a k) : PG M' pr := by
  unfold PG at h ⊢
  simp (disch := omega) only [e]
  exact h
theorem NU.cong {M M' : Mem} {nu : Int} (h : NU M nu) (e : ∀ a k, nu ≤ a ∧ a ≤ nu + 2 → M' a k = M a k) : NU M' nu := by
  unfold NU at h ⊢
  simp (disch := omega) only [e]
  exact h
/-- what is kept of the run r by test t is what judging it gives -/
def DK (M : Mem) (r t : Int) : Prop := PG M (8 * r + 149) ∧ NU M (20 * M (8 * r + 148) 5 + 3 * t + 50) ∧ JEa M (20 * M (8 * r + 148) 5 + 3 * t + 50) (JA M (8 * r + 149) (20 * M (8 * r + 148) 5 + 3 * t + 50) (M (20 * M (8 * r + 148) 5 + 48) 2)) (M (8 * r + 153) t) ∧
  (M (8 * r + 153) t = 111 ∨ M (8 * r + 153) t = 119 ∨ M (8 * r + 153) t = 114 ∨ M (8 * r + 153) t = 108 ∨ M (8 * r + 153) t = 116) ∧
  M (8 * r + 154) t = (JA M (8 * r + 149) (20 * M (8 * r + 148) 5 + 3 * t + 50) (M (20 * M (8 * r + 148) 5 + 48) 2)) 5 0 ∧ 0 ≤ M (8 * r + 155) t ∧ M (8 * r + 155) t < 240 ∧
  CT M (M (8 * r + 155) t) ((JA M (8 * r + 149) (20 * M (8 * r + 148) 5 + 3 * t + 50) (M (20 * M (8 * r + 148) 5 + 48) 2)) 2 0) ((JA M (8 * r + 149) (20 * M (8 * r + 148) 5 + 3 * t + 50) (M (20 * M (8 * r + 148) 5 + 48) 2)) 1) ∧
  0 ≤ (JA M (8 * r + 149) (20 * M (8 * r + 148) 5 + 3 * t + 50) (M (20 * M (8 * r + 148) 5 + 48) 2)) 2 0 ∧ (JA M (8 * r + 149) (20 * M (8 * r + 148) 5 + 3 * t + 50) (M (20 * M (8 * r + 148) 5 + 48) 2)) 2 0 ≤ 6
/-- all that is kept -/
def DKs (M : Mem) : Prop := ∀ r t, 0 ≤ r → r < M 0 12 → 0 ≤ t → t < M (20 * M (8 * r + 148) 5 + 48) 3 → DK M r t
theorem DK.ct {M M0 M1 : Mem} {r t : Int} (h : DK M r t) (r0 : 0 ≤ r) (hp : 0 ≤ M (8 * r + 148) 5) (t0 : 0 ≤ t) (f : ∀ o k, ¬ (10 ≤ o ∧ o ≤ 12) → M1 o k = M o k)
    (hE : EXP M0 (8 * r + 149) (20 * M (8 * r + 148) 5 + 3 * t + 50) (M (20 * M (8 * r + 148) 5 + 48) 2) M1) (f0 : ∀ o k, ¬ (10 ≤ o ∧ o ≤ 12) → M0 o k = M o k) : CT M1 (M (8 * r + 155) t) (M1 10 2) (fun k => M1 12 k) := by
  obtain ⟨x1, x2, x3, -⟩ := hE
  have ej : JA M0 (8 * r + 149) (20 * M (8 * r + 148) 5 + 3 * t + 50) (M (20 * M (8 * r + 148) 5 + 48) 2) = JA M (8 * r + 149) (20 * M (8 * r + 148) 5 + 3 * t + 50) (M (20 * M (8 * r + 148) 5 + 48) 2) := JA_cong (fun a k ha => f0 a k (by omega))
  rw [ej] at x2 x3
  obtain ⟨c1, c2⟩ := h.2.2.2.2.2.2.2.1
  refine ⟨by rw [f _ _ (by omega), x2]; exact c1, fun k k0 k1 => ?_⟩
  rw [x2] at k1
  show _ = M1 12 k
  rw [f _ _ (by omega), c2 k k0 k1, x3 k k0 k1]
theorem DK.cong {M M' : Mem} {r t : Int} (h : DK M r t) (r0 : 0 ≤ r) (p0 : 0 ≤ M (8 * r + 148) 5) (t0 : 0 ≤ t) (e : ∀ a k, (14 ≤ a ∧ a ≤ 15) ∨ 48 ≤ a → M' a k = M a k) : DK M' r t := by
  have e5 : M' (8 * r + 148) 5 = M (8 * r + 148) 5 := e _ _ (by omega)
  unfold DK at h ⊢
  rw [e5, e (20 * M (8 * r + 148) 5 + 48) 2 (by omega), JA_cong (M := M) (fun a k ha => e a k (by omega)), e (8 * r + 153) t (by omega), e (8 * r + 154) t (by omega), e (8 * r + 155) t (by omega)]
  obtain ⟨a1, a2, a3, a4, a5, a6, a7, a8, a9⟩ := h
  refine ⟨a1.cong (fun a k ha => e a k (by omega)), a2.cong (fun a k ha => e a k (by omega)), ?_, a4, a5, a6, a7, ?_, a9⟩
  · unfold JEa XPa at a3 ⊢
    simp (disch := omega) only [e]
    exact a3
  · unfold CT at a8 ⊢
    simp (disch := omega) only [e]
    exact a8
theorem DKs.cong {M M' : Mem} (h : DKs M) (hp : ∀ r, 0 ≤ r → r < M 0 12 → 0 ≤ M (8 * r + 148) 5) (e : ∀ a k, a = 0 ∨ (14 ≤ a ∧ a ≤ 15) ∨ 48 ≤ a → M' a k = M a k) : DKs M' := by
  intro r t r0 r1 t0 t1
  rw [e 0 12 (by omega)] at r1
  have h5 := hp r r0 r1
  rw [e (8 * r + 148) 5 (by omega), e _ 3 (by omega)] at t1
  exact (h r t r0 r1 t0 t1).cong r0 h5 t0 (fun a k ha => e a k (by omega))
