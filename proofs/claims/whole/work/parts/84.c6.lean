theorem RAb.more {M : Mem} {c m : Int} {b : BSt} (h : RAb M c b) (c0 : 0 ≤ c ∧ c < 4) : RAb (up M 25 c (M 25 c + m)) c (b.1, b.2.1, b.2.2.1 + m, b.2.2.2.1, b.2.2.2.2) := by
  obtain ⟨r1, ⟨r2, r3⟩, r4, r5, r6⟩ := h
  refine ⟨fun x x0 x1 => ?_, ⟨?_, fun k x hk => ?_⟩, ?_, ?_, ?_⟩
  · rw [up_o (by omega)]; exact r1 x x0 x1
  · rw [up_o (by omega)]; exact r2
  · rw [up_o (by omega)]; exact r3 k x hk
  · rw [up_s]; show _ = b.2.2.1 + m; omega
  · rw [up_o (by omega)]; exact r5
  · rw [up_o (by omega)]; exact r6
theorem CR.team {M : Mem} (C : CR M) (h : M 0 11 < 8) : CR (up M 0 11 (M 0 11 + 1)) := by
  obtain ⟨c1, c2, c3⟩ := C
  refine ⟨?_, fun r r0 r1 => ?_, fun p p0 p1 => ?_⟩
  · simp (disch := omega) only [up_k, up_s]; omega
  · rw [up_k (by omega)] at r1
    have := c2 r r0 r1
    simp (disch := omega) only [up_o, up_k, up_s]
    omega
  · rw [up_k (by omega)] at p1
    simp (disch := omega) only [up_o]
    exact c3 p p0 p1
