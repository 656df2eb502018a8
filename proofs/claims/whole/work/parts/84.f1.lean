/-! a run is taken, in the class -/
def SBM (M : Mem) (t p mn : Int) (M2 : Mem) : Prop := (∀ o k, ¬ (8 * M 0 12 + 148 ≤ o ∧ o ≤ 8 * M 0 12 + 152) → ¬ (o = 0 ∧ k = 12) → M2 o k = M o k) ∧ M2 0 12 = M 0 12 + 1 ∧ M2 (8 * M 0 12 + 148) 4 = t ∧ M2 (8 * M 0 12 + 148) 5 = p ∧ M2 (8 * M 0 12 + 148) 6 = mn ∧
  M2 (8 * M 0 12 + 148) 7 = (if M 0 13 ≤ mn then 1 else 0) ∧ M2 (8 * M 0 12 + 149) 3 = M 1 3 ∧ ∀ j, 0 ≤ j → j < M 1 3 → M2 (8 * M 0 12 + 150) j = M 2 j ∧ M2 (8 * M 0 12 + 151) j = M 3 j ∧ M2 (8 * M 0 12 + 152) j = M 4 j
theorem SI.cong2 {M M' : Mem} {e : Int} (h : SI M e) (f : ∀ a k, (13 ≤ a ∧ a ≤ 16) → M' a k = M a k) (g : ∀ r k, 0 ≤ r → M' (8 * r + 155) k = M (8 * r + 155) k) : SI M' e := by
  have hs : ∀ j, 0 ≤ j → sl M' j = sl M j := fun j j0 => by
    unfold sl
    rw [show 155 + 8 * (j / 6) = 8 * (j / 6) + 155 by omega]
    exact g _ _ (by omega)
  obtain ⟨h1, h2, h3, h4, h5⟩ := h
  unfold SI
  simp (disch := omega) only [f]
  refine ⟨fun s s0 s1 => ?_, h2, h3, h4, fun j j0 j1 => ?_⟩
  · rw [h1 s s0 s1]; exact cnt_congr (by omega) (fun j j0 j1 => by rw [hs j j0])
  · rw [hs j j0]; exact h5 j j0 j1
section SBM
variable {M M2 M3 : Mem} {t p mn : Int}
theorem SBM.pg (h : SBM M t p mn M2) (n0 : 0 ≤ M 0 12) (n1 : M 0 12 < 40) (hP : PG M 1) : PG M2 (8 * M 0 12 + 149) := by
  obtain ⟨a1, a2, a3, a4, a5, a6, a7, a8⟩ := h
  obtain ⟨-, b1, b2, -, b4⟩ := hP
  refine ⟨k_prog n0 n1, by rw [a7]; exact b1, by rw [a7]; exact b2, by omega, fun k k0 k1 => ?_⟩
  rw [a7] at k1
  obtain ⟨d1, d2, d3⟩ := a8 k k0 k1
  rw [show 8 * M 0 12 + 149 + 1 = 8 * M 0 12 + 150 by omega, show 8 * M 0 12 + 149 + 2 = 8 * M 0 12 + 151 by omega, show 8 * M 0 12 + 149 + 3 = 8 * M 0 12 + 152 by omega, d1, d2, d3]
  exact b4 k k0 k1
theorem SBM.si (h : SBM M t p mn M2) (n0 : 0 ≤ M 0 12) (hI : SI M (-1)) : SI M2 (-1) := hI.cong2 (fun a k ha => h.1 a k (by omega) (by omega)) (fun r k r0 => h.1 _ k (by omega) (by omega))
theorem SBM.dks (C : CR M) (h : SBM M t p mn M2) (p0 : 0 ≤ p) (p1 : p < M 0 10) (hD : DKs M) (hJ : JBA M2 (M 0 12) (M (20 * p + 48) 3) M3) (n1 : M 0 12 < 40) : DKs M3 := by
  obtain ⟨a1, a2, a3, a4, a5, a6, a7, a8⟩ := h
  obtain ⟨j1, j2, j3, j4, j5, j6⟩ := hJ
  have c0 := C.1
  intro r u r0 r1 u0 u1
  rw [j1 0 12 (by omega) (by omega) (by omega), a2] at r1
  by_cases e : r = M 0 12
  · rw [e] at u1 ⊢
    have e5 : M3 (8 * M 0 12 + 148) 5 = p := (j1 _ _ (by omega) (by omega) (by omega)).trans a4
    rw [e5, j1 _ _ (by omega) (by omega) (by omega), a1 _ _ (by omega) (by omega)] at u1
    exact j3 u u0 u1
  · have c := C.run r r0 (by omega)
    have cp := C.prob (M (8 * r + 148) 5) (by omega) (by omega)
    have e5 : M2 (8 * r + 148) 5 = M (8 * r + 148) 5 := a1 _ _ (by omega) (by omega)
    have e6 : M3 (8 * r + 148) 5 = M (8 * r + 148) 5 := (j1 _ _ (by omega) (by omega) (by omega)).trans e5
    rw [e6, j1 _ _ (by omega) (by omega) (by omega), a1 _ _ (by omega) (by omega)] at u1
    have d := hD r u r0 (by omega) u0 u1
    have d2 : DK M2 r u := d.fine rfl (fun o k ho => a1 o k (by omega) (by omega))
    exact j4 r u r0 (by omega) u0 (by omega) (by rw [e5]; omega) (by rw [e5]; omega) e d2
end SBM
