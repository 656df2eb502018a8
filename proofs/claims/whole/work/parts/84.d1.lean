theorem nu_ne {p q t : Int} (t0 : 0 ≤ t) (t1 : t < 6) : ¬ (20 * p + 3 * t + 50 ≤ 20 * q + 48 ∧ 20 * q + 48 ≤ 20 * p + 3 * t + 52) := by
  rcases Int.lt_or_le p q with e | e <;> omega
theorem nu_dis {P p u t o : Int} (u0 : 0 ≤ u) (u1 : u < 6) (t0 : 0 ≤ t) (t1 : t < 6) (hn : ¬ (P = p ∧ u = t)) (h : 20 * P + 3 * u + 50 ≤ o ∧ o ≤ 20 * P + 3 * u + 52) : ¬ (20 * p + 3 * t + 50 ≤ o ∧ o ≤ 20 * p + 3 * t + 52) := by
  rcases Int.lt_trichotomy P p with e | e | e
  · omega
  · rcases Int.lt_trichotomy u t with e2 | e2 | e2
    · omega
    · exact absurd ⟨e, e2⟩ hn
    · omega
  · omega
theorem DK.fine {M M' : Mem} {q u p : Int} (h : DK M q u) (hp : M (8 * q + 148) 5 = p)
    (e : ∀ o k, (14 ≤ o ∧ o ≤ 15) ∨ (20 * p + 3 * u + 50 ≤ o ∧ o ≤ 20 * p + 3 * u + 52) ∨ (o = 20 * p + 48 ∧ k = 2) ∨ (8 * q + 148 ≤ o ∧ o ≤ 8 * q + 152 ∧ ¬ (o = 8 * q + 148 ∧ 8 ≤ k)) ∨ (8 * q + 153 ≤ o ∧ o ≤ 8 * q + 155 ∧ k = u) → M' o k = M o k) : DK M' q u := by
  have e5 : M' (8 * q + 148) 5 = p := (e _ _ (by omega)).trans hp
  unfold DK at h ⊢
  rw [hp] at h
  rw [e5, e (20 * p + 48) 2 (by omega), JA_cong (M := M) (fun a k ha => e a k (by omega)), e (8 * q + 153) u (by omega), e (8 * q + 154) u (by omega), e (8 * q + 155) u (by omega)]
  obtain ⟨a1, a2, a3, a4, a5, a6, a7, a8, a9⟩ := h
  refine ⟨a1.cong (fun a k ha => e a k (by omega)), a2.cong (fun a k ha => e a k (by omega)), ?_, a4, a5, a6, a7, ⟨by rw [e 15 _ (by omega)]; exact a8.1, fun k k0 k1 => by rw [e 14 _ (by omega)]; exact a8.2 k k0 k1⟩, a9⟩
  unfold JEa XPa at a3 ⊢
  have x3 := e (20 * p + 3 * u + 50) 3 (by omega)
  have x4 : ∀ k, M' (20 * p + 3 * u + 50 + 2) k = M (20 * p + 3 * u + 50 + 2) k := fun k => e _ k (by omega)
  simp only [x3, x4]
  exact a3
/-- what is typed is laid as the test t of p, which has a tests then -/
def CPY (M : Mem) (p t a : Int) (M2 : Mem) : Prop := (∀ o k, ¬ (20 * p + 3 * t + 50 ≤ o ∧ o ≤ 20 * p + 3 * t + 52) → ¬ (o = 20 * p + 48 ∧ k = 3) → M2 o k = M o k) ∧ M2 (20 * p + 48) 3 = a ∧
  M2 (20 * p + 3 * t + 50) 2 = M 5 2 ∧ M2 (20 * p + 3 * t + 50) 3 = M 5 3 ∧ (∀ j, 0 ≤ j → j < M 5 2 → M2 (20 * p + 3 * t + 51) j = M 6 j) ∧ ∀ j, 0 ≤ j → j < M 5 3 → M2 (20 * p + 3 * t + 52) j = M 7 j
section CPY
variable {M M2 : Mem} {p t a : Int}
theorem CPY.cr (C : CR M) (h : CPY M p t a M2) (p0 : 0 ≤ p) (p1 : p < M 0 10) (t0 : 0 ≤ t) (t1 : t < 6) (a0 : 0 ≤ a ∧ a ≤ 6) : CR M2 := by
  have f := h.1
  obtain ⟨c1, c2, c3⟩ := C
  have f0 : ∀ k, M2 0 k = M 0 k := fun k => f 0 k (by omega) (by omega)
  refine ⟨by rw [f0, f0, f0, f0]; exact c1, fun r r0 r1 => ?_, fun q q0 q1 => ?_⟩
  · rw [f0] at r1
    have e : ∀ k, M2 (8 * r + 148) k = M (8 * r + 148) k := fun k => f _ _ (by omega) (by omega)
    rw [f0, f0, e, e, e, e, e, e]; exact c2 r r0 r1
  · rw [f0] at q1
    have c := c3 q q0 q1
    rw [f (20 * q + 48) 2 (nu_ne t0 t1) (by omega), f (20 * q + 48) 1 (nu_ne t0 t1) (by omega)]
    by_cases e : q = p
    · rw [e, h.2.1]; rw [e] at c; omega
    · rw [f (20 * q + 48) 3 (nu_ne t0 t1) (by omega)]; exact c
theorem CPY.oth (C : CR M) (h : CPY M p t a M2) (p0 : 0 ≤ p) (p1 : p < M 0 10) (t0 : 0 ≤ t) (t1 : t < 6) (ha : ∀ u, 0 ≤ u → u < a → u < M (20 * p + 48) 3 ∨ u = t) (hD : DKs M) : ∀ r u, 0 ≤ r → r < M2 0 12 → 0 ≤ u → u < M2 (20 * M2 (8 * r + 148) 5 + 48) 3 → ¬ (M2 (8 * r + 148) 5 = p ∧ u = t) → DK M2 r u := by
  intro r u r0 r1 u0 u1 hn
  have f := h.1
  have c0 := C.1
  rw [f 0 12 (by omega) (by omega)] at r1
  have c := C.run r r0 r1
  have e5 : M2 (8 * r + 148) 5 = M (8 * r + 148) 5 := f _ _ (by omega) (by omega)
  rw [e5] at u1 hn
  have cp := C.prob (M (8 * r + 148) 5) (by omega) (by omega)
  have u2 : u < M (20 * M (8 * r + 148) 5 + 48) 3 := by
    by_cases e : M (8 * r + 148) 5 = p
    · rw [e, h.2.1] at u1
      rw [e]
      have := ha u u0 u1
      omega
    · rw [f (20 * M (8 * r + 148) 5 + 48) 3 (nu_ne t0 t1) (by omega)] at u1; exact u1
  exact (hD r u r0 r1 u0 u2).fine rfl (fun o k ho => by
    rcases ho with h1 | h1 | h1 | h1 | h1
    · exact f o k (by omega) (by omega)
    · exact f o k (nu_dis u0 (by omega) t0 t1 hn h1) (fun w => nu_ne (p := M (8 * r + 148) 5) (q := p) (t := u) u0 (by omega) ⟨by omega, by omega⟩)
    · rw [h1.1, h1.2]; exact f _ _ (nu_ne t0 t1) (by omega)
    · exact f o k (by omega) (by omega)
    · exact f o k (by omega) (by omega))
theorem CPY.nu (h : CPY M p t a M2) (p0 : 0 ≤ p) (p1 : p < 5) (t0 : 0 ≤ t) (t1 : t < 6) (h5 : NU M 5) : NU M2 (20 * p + 3 * t + 50) := by
  obtain ⟨-, a1, a2, a3, a4, -⟩ := h5
  refine ⟨k_num p0 p1 t0 t1, ?_, ?_, ?_, ?_, by omega⟩
  · rw [h.2.2.1]; exact a1
  · rw [h.2.2.1]; exact a2
  · rw [h.2.2.2.1]; exact a3
  · rw [h.2.2.2.1]; exact a4
end CPY
