/-- what is typed is laid as a test -/
def LYf (p t o k : Int) : Prop := ((o = 478 ∨ o = 480) ∧ k = 6 * p + t) ∨ (o = 477 ∧ 24 * p + 4 * t ≤ k ∧ k < 24 * p + 4 * t + 4) ∨ (o = 479 ∧ 36 * p + 6 * t ≤ k ∧ k < 36 * p + 6 * t + 6)
def LYS (M : Mem) (p t : Int) (M' : Mem) : Prop := M' 478 (6 * p + t) = M 468 5 ∧ M' 480 (6 * p + t) = M 468 6 ∧ (∀ k, 0 ≤ k → k < M 468 5 → M' 477 (24 * p + 4 * t + k) = M 472 k) ∧ (∀ k, 0 ≤ k → k < M 468 6 → M' 479 (36 * p + 6 * t + k) = M 473 k) ∧ ∀ o k, ¬ LYf p t o k → M' o k = M o k
theorem LYS.fr {M M' : Mem} {p t o k : Int} (h : LYS M p t M') (ho : o < 477 ∨ 480 < o) : M' o k = M o k := h.2.2.2.2 o k (by unfold LYf; omega)
theorem up_same {M : Mem} {o k : Int} : up M o k (M o k) = M := by
  funext x y
  unfold up
  split
  · rename_i h; rw [h.1, h.2]
  · rfl
theorem GB.cong {M M' : Mem} (G : GB M) (e17 : M' 468 17 = M 468 17) (e9 : M' 468 9 = M 468 9) (e474 : ∀ p, M' 474 p = M 474 p) (e493 : ∀ p, M' 493 p = M 493 p) : GB M' := by
  unfold GB at G ⊢
  simp only [e17, e9, e474, e493]
  exact G
theorem STA.cong {M M' : Mem} (G : STA M) (e17 : M' 468 17 = M 468 17) (e34 : M' 468 34 = M 468 34) (e494 : ∀ p, M' 494 p = M 494 p) (e493 : ∀ p, M' 493 p = M 493 p) : STA M' := by
  unfold STA at G ⊢
  simp only [e17, e34, e494, e493]
  exact G
theorem QB.cong {M M' : Mem} {c : Int} {q : List Int} (G : QB M c q) (e17 : M' 468 17 = M 468 17) (e9 : M' 468 9 = M 468 9) (e474 : ∀ p, M' 474 p = M 474 p) (e494 : ∀ p, M' 494 p = M 494 p) (e493 : ∀ p, M' 493 p = M 493 p) : QB M' c q := by
  unfold QB WQ at G ⊢
  simp only [e17, e9, e474, e494, e493]
  exact G
theorem RBb.more {M : Mem} {c m z : Int} {b : BSt} (h : RBb M c b) : RBb (up (up M 468 0 z) 495 c (M 495 c + m)) c (b.1, b.2.1, b.2.2.1 + m, b.2.2.2.1, b.2.2.2.2) := by
  obtain ⟨r1, r2, r3, r4⟩ := h
  refine ⟨fun x x0 x1 => ?_, r2.cong ?_ ?_ ?_ ?_ ?_, ?_, ?_⟩
  · simp (disch := omega) only [up_o, up_k] at x1 ⊢; exact r1 x x0 x1
  all_goals simp (disch := omega) only [up_o, up_k, up_s, implies_true]
  · show _ = b.2.2.1 + m
    omega
  · exact r4
