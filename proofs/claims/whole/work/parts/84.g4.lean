/-- the class's judging and the reference's come to the same, where programs and numbers are the same -/
theorem JA_JR {M : Mem} {r t p : Int} (hp : M 482 r = p) (hPG : PG M (8 * r + 149)) (hNU : NU M (20 * p + 3 * t + 50)) (hl : M (20 * p + 48) 2 = M 475 p)
    (h3 : M (8 * r + 149) 3 = M 484 r) (hs : ∀ k, 0 ≤ k → k < M 484 r → M (8 * r + 150) k = M 485 (20 * r + k) ∧ M (8 * r + 151) k = M 486 (20 * r + k) ∧ M (8 * r + 152) k = M 487 (20 * r + k))
    (h2 : M (20 * p + 3 * t + 50) 2 = M 478 (6 * p + t)) (hi : ∀ k, 0 ≤ k → k < M 478 (6 * p + t) → M (20 * p + 3 * t + 51) k = M 477 (24 * p + 4 * t + k)) :
    JA M (8 * r + 149) (20 * p + 3 * t + 50) (M (20 * p + 48) 2) = JR M r t := by
  obtain ⟨-, b1, b2, -, b4⟩ := hPG
  obtain ⟨-, a1, a2, -⟩ := hNU
  unfold JA JR
  rw [hp, hl, h3, h2, show 8 * r + 149 + 1 = 8 * r + 150 by omega, show 8 * r + 149 + 2 = 8 * r + 151 by omega, show 8 * r + 149 + 3 = 8 * r + 152 by omega, show 20 * p + 3 * t + 50 + 1 = 20 * p + 3 * t + 51 by omega]
  refine prun_congr (fun k k0 k1 => ?_) hi _ _ (Int.le_refl 0) (by show (0 : Int) ≤ _; omega) (Int.le_refl 0) (by show (0 : Int) ≤ _; omega)
  obtain ⟨d1, d2, d3⟩ := hs k k0 k1
  have h9 := b4 k k0 (by omega)
  rw [show 8 * r + 149 + 1 = 8 * r + 150 by omega, show 8 * r + 149 + 2 = 8 * r + 151 by omega, show 8 * r + 149 + 3 = 8 * r + 152 by omega] at h9
  unfold SOK at h9
  exact ⟨d1, d2, d3, fun w => by omega⟩
