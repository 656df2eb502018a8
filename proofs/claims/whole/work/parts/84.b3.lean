/-! judging anew, in the class -/
def JNf (M : Mem) (p t o k : Int) : Prop := ∃ r, 0 ≤ r ∧ r < M 0 12 ∧ M (8 * r + 148) 5 = p ∧ ((8 * r + 153 ≤ o ∧ o ≤ 8 * r + 155 ∧ k = t) ∨ (o = 8 * r + 148 ∧ (k = 8 ∨ k = 9)))
def JNc (M1 : Mem) (n r : Int) : Prop := M1 (8 * r + 148) 8 = VZ (fun q => M1 (8 * r + 153) q) n ∧ M1 (8 * r + 148) 9 = lst (fun q => M1 (8 * r + 153) q ≠ 111) n
def JN (M : Mem) (p t i : Int) (M1 : Mem) : Prop := (∀ o k, ¬ (10 ≤ o ∧ o ≤ 16) → ¬ JNf M p t o k → M1 o k = M o k) ∧ SI M1 (-1) ∧
  (∀ r, 0 ≤ r → r < i → M (8 * r + 148) 5 = p → DK M1 r t ∧ JNc M1 (M (20 * p + 48) 3) r) ∧
  (∀ r u, 0 ≤ r → r < M 0 12 → 0 ≤ u → u < 6 → DK M r u → ¬ (M (8 * r + 148) 5 = p ∧ u = t) → DK M1 r u) ∧
  ∀ r, 0 ≤ r → r < M 0 12 → ¬ (r < i ∧ M (8 * r + 148) 5 = p) → M1 (8 * r + 148) 8 = M (8 * r + 148) 8 ∧ M1 (8 * r + 148) 9 = M (8 * r + 148) 9
section JN
variable {M M1 M2 : Mem} {p t i : Int}
theorem JN.ini (hI : SI M (-1)) : JN M p t 0 M := ⟨fun _ _ _ _ => rfl, hI, fun r _ _ => by omega, fun r u _ _ _ _ h _ => h, fun r _ _ _ => ⟨rfl, rfl⟩⟩
theorem JN.skip (h : JN M p t i M1) (hi : M (8 * i + 148) 5 ≠ p) : JN M p t (i + 1) M1 := by
  obtain ⟨a1, a2, a3, a4, a5⟩ := h
  refine ⟨a1, a2, fun r r0 r1 hp => ?_, a4, fun r r0 r1 hn => a5 r r0 r1 (fun w => hn ⟨by omega, w.2⟩)⟩
  rcases Int.lt_or_eq_of_le (show r ≤ i by omega) with e | e
  · exact a3 r r0 e hp
  · rw [e] at hp; exact absurd hp hi
theorem JN.fld (h : JN M p t i M1) {o k : Int} (ho : o < 10 ∨ 16 < o) (hk : o < 148 ∨ (∃ r, o = 8 * r + 148 ∧ k ≠ 8 ∧ k ≠ 9) ∨ (∃ r, 8 * r + 149 ≤ o ∧ o ≤ 8 * r + 152)) : M1 o k = M o k := by
  refine h.1 o k (by omega) ?_
  rintro ⟨q, q0, q1, -, w⟩
  rcases hk with e | ⟨r, e, e2⟩ | ⟨r, e⟩ <;> omega
theorem JN.step (C : CR M) (h : JN M p t i M1) (i0 : 0 ≤ i) (i1 : i < M 0 12) (hi : M (8 * i + 148) 5 = p) (t0 : 0 ≤ t) (t1 : t < M (20 * p + 48) 3) (hPG : PG M1 (8 * i + 149)) (hNU : NU M1 (20 * p + 3 * t + 50))
    (hg : JG M1 i t (8 * i + 149) (20 * p + 3 * t + 50) (M1 (20 * p + 48) 2) M2) : JN M p t (i + 1) (up (up M2 (8 * i + 148) 8 (VZ (fun q => M2 (8 * i + 153) q) (M (20 * p + 48) 3))) (8 * i + 148) 9 (lst (fun q => M2 (8 * i + 153) q ≠ 111) (M (20 * p + 48) 3))) := by
  have c0 := C.1
  have ci := C.run i i0 i1
  have cp := C.prob p (by omega) (by omega)
  have ef : ∀ o k, ¬ (10 ≤ o ∧ o ≤ 16) → ¬ (8 * i + 153 ≤ o ∧ o ≤ 8 * i + 155 ∧ k = t) → M2 o k = M1 o k := hg.1
  have h5 : ∀ r, M1 (8 * r + 148) 5 = M (8 * r + 148) 5 → M1 (8 * r + 148) 5 = M (8 * r + 148) 5 := fun r h => h
  have hfl := fun r => h.fld (o := 8 * r + 148) (k := 5)
  have hd : DK M2 i t := hg.dk i0 (by omega) t0 (by omega) (by rw [h.fld (by omega) (Or.inr (Or.inl ⟨i, rfl, by omega, by omega⟩))]; exact hi) hPG hNU (by omega)
  obtain ⟨a1, a2, a3, a4, a5⟩ := id h
  have f5 : ∀ r, 0 ≤ r → M1 (8 * r + 148) 5 = M (8 * r + 148) 5 := fun r r0 => h.fld (by omega) (Or.inr (Or.inl ⟨r, rfl, by omega, by omega⟩))
  have g5 : ∀ r, 0 ≤ r → M2 (8 * r + 148) 5 = M (8 * r + 148) 5 := fun r r0 => (ef _ _ (by omega) (by omega)).trans (f5 r r0)
  refine ⟨fun o k h1 h2 => ?_, hg.2.1.con i0, fun r r0 r1 hp => ?_, fun r u r0 r1 u0 u1 hdk hn => ?_, fun r r0 r1 hn => ?_⟩
  · have h3 : ¬ ((8 * i + 153 ≤ o ∧ o ≤ 8 * i + 155 ∧ k = t) ∨ (o = 8 * i + 148 ∧ (k = 8 ∨ k = 9))) := fun w => h2 ⟨i, i0, i1, hi, w⟩
    rw [up_n (by omega), up_n (by omega), ef o k h1 (by omega)]
    exact a1 o k h1 h2
  · have cr := C.run r r0 (by omega)
    rcases Int.lt_or_eq_of_le (show r ≤ i by omega) with e | e
    · obtain ⟨x1, x2, x3⟩ := a3 r r0 e hp
      have y1 : DK M2 r t := hg.oth x1 i0 r0 (by omega) t0 (by omega) t0 (by omega) (by rw [f5 r r0]; omega) (by rw [f5 r r0]; omega) (by omega)
      refine ⟨y1.con i0 r0 t0 (by omega) (by rw [g5 r r0]; omega) (by rw [g5 r r0]; omega), ?_, ?_⟩
      · rw [up_o (by omega), up_o (by omega), ef _ _ (by omega) (by omega), x2]
        exact VZ.congr (by omega) (fun q _ _ => by rw [up_o (by omega), up_o (by omega), ef _ _ (by omega) (by omega)])
      · rw [up_o (by omega), up_o (by omega), ef _ _ (by omega) (by omega), x3]
        exact lst_congr (by omega) (fun q _ _ => by rw [up_o (by omega), up_o (by omega), ef _ _ (by omega) (by omega)])
    · subst e
      refine ⟨hd.con i0 i0 t0 (by omega) (by rw [g5 r r0]; omega) (by rw [g5 r r0]; omega), ?_, ?_⟩
      · rw [up_k (by omega), up_s]
        exact VZ.congr (by omega) (fun q _ _ => by rw [up_o (by omega), up_o (by omega)])
      · rw [up_s]
        exact lst_congr (by omega) (fun q _ _ => by rw [up_o (by omega), up_o (by omega)])
  · have cr := C.run r r0 r1
    have x1 := a4 r u r0 r1 u0 u1 hdk hn
    have y1 : DK M2 r u := hg.oth x1 i0 r0 (by omega) t0 (by omega) u0 u1 (by rw [f5 r r0]; omega) (by rw [f5 r r0]; omega) (fun w => hn ⟨by rw [w.1]; exact hi, w.2⟩)
    exact y1.con i0 r0 u0 u1 (by rw [g5 r r0]; omega) (by rw [g5 r r0]; omega)
  · have e : r ≠ i := fun w => hn ⟨by omega, by rw [w]; exact hi⟩
    rw [up_o (by omega), up_o (by omega), up_o (by omega), up_o (by omega), ef _ _ (by omega) (by omega), ef _ _ (by omega) (by omega)]
    exact a5 r r0 r1 (fun w => hn ⟨by omega, w.2⟩)
theorem VZ.rng {f : Int → Int} {n : Int} (hn : 0 ≤ n) (h : ∀ u, 0 ≤ u → u < n → 0 ≤ f u ∧ f u < 65536) : 0 ≤ VZ f n ∧ VZ f n < 65536 := by
  unfold VZ
  split
  · omega
  · rename_i w
    have := lst_range (fun t => f t ≠ 111) hn
    exact h _ (by omega) (by omega)
end JN
