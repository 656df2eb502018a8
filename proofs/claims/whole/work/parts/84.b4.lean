section JN2
variable {M M1 : Mem} {p t : Int}
theorem JN.fn (h : JN M p t (M 0 12) M1) {o k : Int} (ho : o < 10 ∨ (16 < o ∧ o < 148)) : M1 o k = M o k := h.fld (by omega) (Or.inl (by omega))
theorem JN.f148 {i : Int} (h : JN M p t i M1) {r k : Int} (r0 : 0 ≤ r) (k0 : k ≠ 8) (k1 : k ≠ 9) : M1 (8 * r + 148) k = M (8 * r + 148) k := h.fld (by omega) (Or.inr (Or.inl ⟨r, rfl, k0, k1⟩))
theorem JN.dks (C : CR M) (h : JN M p t (M 0 12) M1) (hD : ∀ r u, 0 ≤ r → r < M 0 12 → 0 ≤ u → u < M (20 * M (8 * r + 148) 5 + 48) 3 → ¬ (M (8 * r + 148) 5 = p ∧ u = t) → DK M r u) : DKs M1 := by
  have c0 := C.1
  intro r u r0 r1 u0 u1
  rw [h.fn (by omega)] at r1
  have cr := C.run r r0 r1
  have cp := C.prob (M (8 * r + 148) 5) (by omega) (by omega)
  rw [h.f148 r0 (by omega) (by omega), h.fn (o := 20 * M (8 * r + 148) 5 + 48) (k := 3) (by omega)] at u1
  by_cases e : M (8 * r + 148) 5 = p ∧ u = t
  · rw [e.2]; exact (h.2.2.1 r r0 r1 e.1).1
  · exact h.2.2.2.1 r u r0 r1 u0 (by omega) (hD r u r0 r1 u0 u1 e) e
theorem JN.cr (C : CR M) (h : JN M p t (M 0 12) M1) (hD : DKs M1) : CR M1 := by
  have c0 := C.1
  have f0 : ∀ k, M1 0 k = M 0 k := fun k => h.fn (by omega)
  refine ⟨by rw [f0, f0, f0, f0]; exact c0, fun r r0 r1 => ?_, fun q q0 q1 => ?_⟩
  · rw [f0] at r1
    have cr := C.run r r0 r1
    have cp := C.prob (M (8 * r + 148) 5) (by omega) (by omega)
    rw [f0, f0, h.f148 r0 (by omega) (by omega), h.f148 r0 (k := 5) (by omega) (by omega), h.f148 r0 (k := 6) (by omega) (by omega), h.f148 r0 (k := 7) (by omega) (by omega)]
    have e89 : 0 ≤ M1 (8 * r + 148) 8 ∧ M1 (8 * r + 148) 8 < 65536 ∧ -1 ≤ M1 (8 * r + 148) 9 ∧ M1 (8 * r + 148) 9 ≤ 5 := by
      by_cases e : M (8 * r + 148) 5 = p
      · obtain ⟨x1, x2, x3⟩ := h.2.2.1 r r0 r1 e
        rw [e] at cp
        have y := VZ.rng (f := fun q => M1 (8 * r + 153) q) (n := M (20 * p + 48) 3) (by omega) (fun u u0 u1 => by
          have hd := hD r u r0 (by rw [f0]; exact r1) u0 (by rw [h.f148 r0 (by omega) (by omega), h.fn (o := 20 * M (8 * r + 148) 5 + 48) (k := 3) (by omega), e]; exact u1)
          have := hd.2.2.2.1
          show 0 ≤ M1 (8 * r + 153) u ∧ M1 (8 * r + 153) u < 65536
          omega)
        have w := lst_range (fun q => M1 (8 * r + 153) q ≠ 111) (n := M (20 * p + 48) 3) (by omega)
        rw [x2, x3]
        exact ⟨y.1, y.2, by omega, by omega⟩
      · obtain ⟨x1, x2⟩ := h.2.2.2.2 r r0 r1 (fun w => e w.2)
        rw [x1, x2]; omega
    omega
  · rw [f0] at q1
    rw [h.fn (o := 20 * q + 48) (k := 3) (by omega), h.fn (o := 20 * q + 48) (k := 2) (by omega), h.fn (o := 20 * q + 48) (k := 1) (by omega)]
    exact C.prob q q0 q1
end JN2
theorem SI.cong {M M' : Mem} {e : Int} (h : SI M e) (f : ∀ a k, (13 ≤ a ∧ a ≤ 16) ∨ 155 ≤ a → M' a k = M a k) : SI M' e := by
  have hs : ∀ j, 0 ≤ j → sl M' j = sl M j := fun j j0 => f _ _ (by omega)
  obtain ⟨h1, h2, h3, h4, h5⟩ := h
  unfold SI
  simp (disch := omega) only [f]
  refine ⟨fun s s0 s1 => ?_, h2, h3, h4, fun j j0 j1 => ?_⟩
  · rw [h1 s s0 s1]; exact cnt_congr (by omega) (fun j j0 j1 => by rw [hs j j0])
  · rw [hs j j0]; exact h5 j j0 j1
theorem RAb.cong {M M' : Mem} {c : Int} {b : BSt} (h : RAb M c b) (c0 : 0 ≤ c) (c1 : c < 4) (f : ∀ a k, 17 ≤ a ∧ a ≤ 26 → M' a k = M a k) : RAb M' c b := by
  obtain ⟨r1, ⟨r2, r3⟩, r4, r5, r6⟩ := h
  exact ⟨fun x x0 x1 => (f _ _ (by omega)).trans (r1 x x0 x1), ⟨(f _ _ (by omega)).trans r2, fun k x hk => (f _ _ (by omega)).trans (r3 k x hk)⟩, (f _ _ (by omega)).trans r4, (f _ _ (by omega)).trans r5, (f _ _ (by omega)).trans r6⟩
/-- what a good call of test or fix does in the class -/
def JAW (M : Mem) (p t : Int) (b : BSt) (z : Int) (M' : Mem) : Prop := ∃ M1, JN M p t (M 0 12) M1 ∧ z = cnt (fun r => M (8 * r + 148) 5 = p ∧ M1 (8 * r + 148) 8 ≠ M (8 * r + 148) 8) (M 0 12) ∧ CR M1 ∧ DKs M1 ∧ (∀ o k, ¬ (17 ≤ o ∧ o ≤ 40) → M' o k = M1 o k) ∧ BOK M' 27 0 ∧ BOK M' 34 1 ∧
  RAb M' (M (20 * p + 48) 1) (fFo (fun u => M' 29 (5 * u + p) ≠ -1) p (M 0 11) b) ∧ ∀ o k, 17 ≤ o → o ≤ 26 → o ≠ 18 → o ≠ M (20 * p + 48) 1 + 20 → ¬ (k = M (20 * p + 48) 1 ∧ 24 ≤ o) → ¬ (o = 17 ∧ k = 5) → M' o k = M o k
