theorem SBM.cr {M M2 M3 : Mem} {t p mn : Int} (C : CR M) (h : SBM M t p mn M2) (hJ : JBA M2 (M 0 12) (M (20 * p + 48) 3) M3) (t0 : 0 ≤ t) (t1 : t < M 0 11) (p0 : 0 ≤ p) (p1 : p < M 0 10) (m0 : 0 ≤ mn) (m1 : mn ≤ 999) (n1 : M 0 12 < 40) : CR M3 := by
  obtain ⟨a1, a2, a3, a4, a5, a6, a7, a8⟩ := h
  obtain ⟨j1, j2, j3, j4, j5, j6⟩ := hJ
  have c0 := C.1
  have cp := C.prob p p0 p1
  have f0 : ∀ k, k ≠ 12 → M3 0 k = M 0 k := fun k hk => (j1 _ _ (by omega) (by omega) (by omega)).trans (a1 _ _ (by omega) (by omega))
  have f12 : M3 0 12 = M 0 12 + 1 := (j1 _ _ (by omega) (by omega) (by omega)).trans a2
  refine ⟨by rw [f0 10 (by omega), f0 11 (by omega), f12, f0 13 (by omega)]; omega, fun r r0 r1 => ?_, fun q q0 q1 => ?_⟩
  · rw [f12] at r1
    rw [f0 10 (by omega), f0 11 (by omega)]
    by_cases e : r = M 0 12
    · rw [e, j1 _ 4 (by omega) (by omega) (by omega), j1 _ 5 (by omega) (by omega) (by omega), j1 _ 6 (by omega) (by omega) (by omega), j1 _ 7 (by omega) (by omega) (by omega), a3, a4, a5, j5, j6]
      have h7 : 0 ≤ M2 (8 * M 0 12 + 148) 7 ∧ M2 (8 * M 0 12 + 148) 7 ≤ 1 := by rw [a6]; split <;> omega
      have y := VZ.rng (f := fun q => M3 (8 * M 0 12 + 153) q) (n := M (20 * p + 48) 3) (by omega) (fun u u0 u1 => by
        have := (j3 u u0 u1).2.2.2.1
        show 0 ≤ M3 (8 * M 0 12 + 153) u ∧ M3 (8 * M 0 12 + 153) u < 65536
        omega)
      have w := lst_range (fun q => M3 (8 * M 0 12 + 153) q ≠ 111) (n := M (20 * p + 48) 3) (by omega)
      exact ⟨t0, t1, p0, p1, m0, m1, h7.1, h7.2, y.1, y.2, by omega, by omega⟩
    · have c := C.run r r0 (by omega)
      have g : ∀ k, M3 (8 * r + 148) k = M (8 * r + 148) k := fun k => (j1 _ _ (by omega) (by omega) (by omega)).trans (a1 _ _ (by omega) (by omega))
      rw [g, g, g, g, g, g]
      exact c
  · rw [f0 10 (by omega)] at q1
    have g : ∀ k, M3 (20 * q + 48) k = M (20 * q + 48) k := fun k => (j1 _ _ (by omega) (by omega) (by omega)).trans (a1 _ _ (by omega) (by omega))
    rw [g, g, g]
    exact C.prob q q0 q1
