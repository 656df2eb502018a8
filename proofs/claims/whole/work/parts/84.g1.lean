/-! who has a balloon behind a judging -/
theorem SVo_45 {b : BSt} {x : Int} (h : QN b) : (SVo b).1 x = 45 ↔ b.1 x = 45 := by
  show (if x ∈ b.2.1.take (svN b.2.2.1 b.2.1) then (111 : Int) else b.1 x) = 45 ↔ _
  split
  · rename_i w
    have := (h.2 x (List.mem_of_mem_take w)).2.2
    omega
  · exact Iff.rfl
theorem TKo_45 {b : BSt} {x y : Int} (h : TRI b) : (TKo x b).1 y = 45 ↔ y = x ∨ b.1 y = 45 := by
  have hx := h x
  unfold TKo
  split
  · show st1 b.1 x 45 y = 45 ↔ _
    unfold st1
    split
    · rename_i e; simp [e]
    · rename_i e; simp [e]
  · split
    · show st1 b.1 x 45 y = 45 ↔ _
      unfold st1
      split
      · rename_i e; simp [e]
      · rename_i e; simp [e]
    · constructor
      · intro w; exact Or.inr w
      · rintro (w | w)
        · rw [w]; omega
        · exact w
theorem SNo_45 {b : BSt} {x y : Int} (h : QN b) (x0 : 0 ≤ x) (x1 : x < 40) (hx : b.1 x = 45) : (SNo x b).1 y = 45 ↔ y ≠ x ∧ b.1 y = 45 := by
  unfold SNo
  rw [SVo_45 (h.add x0 x1 hx)]
  show st1 b.1 x 113 y = 45 ↔ _
  unfold st1
  split
  · rename_i e; simp [e]
  · rename_i e; simp [e]
theorem fTk_45 {sol : Int → Prop} {p k u : Int} {b : BSt} (h : QS k b) (u0 : 0 ≤ u) : ∀ n : Nat, (fTk sol p b n).1 (5 * u + p) = 45 ↔ (b.1 (5 * u + p) = 45 ∨ (u < n ∧ ¬ sol u)) := by
  intro n
  induction n with
  | zero =>
    show b.1 _ = 45 ↔ _
    constructor
    · intro w; exact Or.inl w
    · rintro (w | w)
      · exact w
      · omega
  | succ n ih =>
    show (@ite BSt (sol n) (Classical.propDecidable _) (fTk sol p b n) (TKo (5 * n + p) (fTk sol p b n))).1 _ = 45 ↔ _
    split
    · rename_i hs
      rw [ih]
      constructor
      · rintro (w | ⟨w, w2⟩)
        · exact Or.inl w
        · exact Or.inr ⟨by omega, w2⟩
      · rintro (w | ⟨w, w2⟩)
        · exact Or.inl w
        · refine Or.inr ⟨?_, w2⟩
          rcases Int.lt_or_le u n with e | e
          · exact e
          · have e2 : u = n := by omega
            rw [e2] at w2
            exact absurd hs w2
    · rename_i hs
      rw [TKo_45 (h.fTk n).2.2, ih]
      constructor
      · rintro (w | w | ⟨w, w2⟩)
        · have e2 : u = n := by omega
          exact Or.inr ⟨by omega, by rw [e2]; exact hs⟩
        · exact Or.inl w
        · exact Or.inr ⟨by omega, w2⟩
      · rintro (w | ⟨w, w2⟩)
        · exact Or.inr (Or.inl w)
        · rcases Int.lt_or_le u n with e | e
          · exact Or.inr (Or.inr ⟨e, w2⟩)
          · exact Or.inl (by omega)
theorem fSn_45 {sol : Int → Prop} {p k u : Int} {b : BSt} (h : QS k b) (p0 : 0 ≤ p) (p1 : p < 5) (u0 : 0 ≤ u) : ∀ n : Nat, n ≤ 8 → ((fSn sol p b n).1 (5 * u + p) = 45 ↔ (b.1 (5 * u + p) = 45 ∧ ¬ (u < n ∧ sol u))) := by
  intro n
  induction n with
  | zero =>
    intro _
    show b.1 _ = 45 ↔ _
    constructor
    · intro w; exact ⟨w, fun e => by omega⟩
    · intro w; exact w.1
  | succ n ih =>
    intro hn
    have ih := ih (by omega)
    show (@ite BSt (sol n ∧ (fSn sol p b n).1 (5 * n + p) = 45) (Classical.propDecidable _) (SNo (5 * n + p) (fSn sol p b n)) (fSn sol p b n)).1 _ = 45 ↔ _
    split
    · rename_i hs
      rw [SNo_45 (h.fSn p0 p1 n (by omega)).1 (by omega) (by omega) hs.2, ih]
      constructor
      · rintro ⟨w, w1, w2⟩
        refine ⟨w1, fun e => w2 ⟨?_, e.2⟩⟩
        omega
      · rintro ⟨w1, w2⟩
        refine ⟨fun e => w2 ⟨by omega, ?_⟩, w1, fun e => w2 ⟨by omega, e.2⟩⟩
        have e2 : u = n := by omega
        rw [e2]
        exact hs.1
    · rename_i hs
      rw [ih]
      constructor
      · rintro ⟨w1, w2⟩
        refine ⟨w1, fun e => ?_⟩
        rcases Int.lt_or_le u n with e2 | e2
        · exact w2 ⟨e2, e.2⟩
        · have e3 : u = n := by omega
          refine hs ⟨by rw [← e3]; exact e.2, ?_⟩
          rw [← e3]
          exact ih.mpr ⟨w1, w2⟩
      · rintro ⟨w1, w2⟩
        exact ⟨w1, fun e => w2 ⟨by omega, e.2⟩⟩
/-- behind a judging the balloons are with those who have solved -/
theorem fFo_45 {sol : Int → Prop} {p T u : Int} {b : BSt} (h : QS 50000 b) (p0 : 0 ≤ p) (p1 : p < 5) (T0 : 0 ≤ T) (T1 : T ≤ 8) (u0 : 0 ≤ u) (u1 : u < T) (hb : sol u ∨ True) : (fFo sol p T b).1 (5 * u + p) ≠ 45 ↔ sol u := by
  unfold fFo
  have h1 := (h.fTk (sol := sol) (p := p) T.toNat).sv
  rw [Ne, fSn_45 h1 p0 p1 u0 T.toNat (by omega), SVo_45 (h.fTk T.toNat).1, fTk_45 h u0]
  constructor
  · intro w
    refine Classical.byContradiction fun hs => w ⟨Or.inr ⟨by omega, hs⟩, fun e => hs e.2⟩
  · intro hs w
    exact w.2 ⟨by omega, hs⟩
