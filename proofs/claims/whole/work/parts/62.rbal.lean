/-! balloons of a colour, in the reference -/
/-- a spot of a colour; who waits there -/
def CP (M : Mem) (c x : Int) : Prop := 0 ≤ x ∧ x < 5 * M 468 17 ∧ x % 5 < M 468 9 ∧ M 474 (x % 5) = c
def WQ (M : Mem) (c x : Int) : Prop := M 493 x = 113 ∧ x % 5 < M 468 9 ∧ M 474 (x % 5) = c
def QB (M : Mem) (c : Int) (q : List Int) : Prop := (∀ x, x ∈ q ↔ (0 ≤ x ∧ x < 5 * M 468 17 ∧ WQ M c x)) ∧ q.Pairwise (fun x y => M 494 x < M 494 y)
/-- stamps -/
def STA (M : Mem) : Prop := ∀ x, 0 ≤ x → x < 5 * M 468 17 → M 493 x = 113 → 1 ≤ M 494 x ∧ M 494 x ≤ M 468 34
def RBb (M : Mem) (c : Int) (b : BSt) : Prop := (∀ x, 0 ≤ x → x < 5 * M 468 17 → M 493 x = b.1 x) ∧ QB M c b.2.1 ∧ M 495 c = b.2.2.1 ∧ M 468 35 = b.2.2.2.1
def cdx (x : Int) : Int := 10 * (x / 5) + x % 5
theorem cdx_sp {x : Int} (h : 0 ≤ x) : 5 * (cdx x / 10) + cdx x % 10 = x := by unfold cdx; omega
theorem cdx_t {x : Int} (h : 0 ≤ x) : cdx x / 10 = x / 5 := by unfold cdx; omega
theorem cdx_0 {x : Int} (h : 0 ≤ x) (h2 : x < 40) : 0 ≤ cdx x ∧ cdx x < 80 ∧ cdx x % 10 < 5 := by unfold cdx; omega
/-- the least stamp above `l` among the first `n` spots -/
def MN (M : Mem) (c l f n : Int) : Prop := (f = -1 ∧ ∀ x, 0 ≤ x → x < n → ¬ (WQ M c x ∧ l < M 494 x)) ∨
  (∃ x, 0 ≤ x ∧ x < n ∧ x < 40 ∧ WQ M c x ∧ l < M 494 x ∧ f = cdx x ∧ ∀ y, 0 ≤ y → y < n → WQ M c y → l < M 494 y → M 494 x ≤ M 494 y)
theorem MN.ini {M : Mem} {c l : Int} : MN M c l (-1) 0 := Or.inl ⟨rfl, fun x _ _ => by omega⟩
theorem MN.gap {M : Mem} {c l f n m : Int} (h : MN M c l f n) (hnm : n ≤ m) (hg : ∀ x, n ≤ x → x < m → ¬ (WQ M c x ∧ l < M 494 x)) : MN M c l f m := by
  rcases h with ⟨a, b⟩ | ⟨x, x0, x1, x2, x3, x4, x5, x6⟩
  · refine Or.inl ⟨a, fun x x0 x1 => ?_⟩
    rcases Int.lt_or_le x n with w | w
    · exact b x x0 w
    · exact hg x w x1
  · refine Or.inr ⟨x, x0, by omega, x2, x3, x4, x5, fun y y0 y1 y2 y3 => ?_⟩
    rcases Int.lt_or_le y n with w | w
    · exact x6 y y0 w y2 y3
    · exact absurd ⟨y2, y3⟩ (hg y w y1)
theorem MN.one {M : Mem} {c l f n : Int} (h : MN M c l f n) (hg : ¬ (WQ M c n ∧ l < M 494 n)) : MN M c l f (n + 1) := h.gap (by omega) (fun x x0 x1 => by rw [show x = n by omega]; exact hg)
theorem MN.rng {M : Mem} {c l f n : Int} (h : MN M c l f n) : f = -1 ∨ (0 ≤ f ∧ f < 80 ∧ f % 10 < 5 ∧ 0 ≤ f % 10 ∧ 0 ≤ f / 10 ∧ f / 10 < 8) := by
  rcases h with ⟨a, b⟩ | ⟨x, x0, x1, x2, x3, x4, x5, x6⟩
  · exact Or.inl a
  · have := cdx_0 x0 x2
    omega
theorem MN.take {M : Mem} {c l f n : Int} (h : MN M c l f n) (n0 : 0 ≤ n) (n1 : n < 40) (hw : WQ M c n) (hl : l < M 494 n) (hf : f = -1 ∨ M 494 n < M 494 (5 * (f / 10) + f % 10)) : MN M c l (cdx n) (n + 1) := by
  refine Or.inr ⟨n, n0, by omega, n1, hw, hl, rfl, fun y y0 y1 y2 y3 => ?_⟩
  rcases Int.lt_or_eq_of_le (show y ≤ n by omega) with w | w
  · rcases h with ⟨a, b⟩ | ⟨x, x0, x1, x2, x3, x4, x5, x6⟩
    · exact absurd ⟨y2, y3⟩ (b y y0 w)
    · rcases hf with e | e
      · have := cdx_0 x0 x2; omega
      · rw [x5, cdx_sp x0] at e
        have := x6 y y0 w y2 y3
        omega
  · rw [w]; exact Int.le_refl _
theorem MN.keep {M : Mem} {c l f n : Int} (h : MN M c l f n) (hf : f ≠ -1) (hf2 : M 494 (5 * (f / 10) + f % 10) ≤ M 494 n) : MN M c l f (n + 1) := by
  rcases h with ⟨a, b⟩ | ⟨x, x0, x1, x2, x3, x4, x5, x6⟩
  · exact absurd a hf
  · refine Or.inr ⟨x, x0, by omega, x2, x3, x4, x5, fun y y0 y1 y2 y3 => ?_⟩
    rw [x5, cdx_sp x0] at hf2
    rcases Int.lt_or_eq_of_le (show y ≤ n by omega) with w | w
    · exact x6 y y0 w y2 y3
    · rw [w]; exact hf2
/-- the first `i` who wait are passed -/
def PSD (M : Mem) (q : List Int) (i l f : Int) : Prop := 0 ≤ i ∧ i ≤ (q.length : Int) ∧ ((i = 0 ∧ l = 0 ∧ f = 0) ∨ (∃ x, 0 < i ∧ q[(i - 1).toNat]? = some x ∧ l = M 494 x ∧ f = cdx x))
theorem pw_at {M : Mem} {q : List Int} (h : q.Pairwise (fun x y => M 494 x < M 494 y)) {i j : Nat} {x y : Int} (hx : q[i]? = some x) (hy : q[j]? = some y) (hij : i < j) : M 494 x < M 494 y := by
  obtain ⟨h1, rfl⟩ := List.getElem?_eq_some_iff.mp hx
  obtain ⟨h2, rfl⟩ := List.getElem?_eq_some_iff.mp hy
  exact List.pairwise_iff_getElem.mp h i j h1 h2 hij
theorem QB.st {M : Mem} {c : Int} {q : List Int} (h : QB M c q) (hs : STA M) {x : Int} (hx : x ∈ q) : 1 ≤ M 494 x ∧ M 494 x ≤ M 468 34 := by
  obtain ⟨a, b, d⟩ := (h.1 x).mp hx
  exact hs x a b d.1
theorem QB.next {M : Mem} {c : Int} {q : List Int} {i l f f2 : Int} (h : QB M c q) (hs : STA M) (hT : M 468 17 ≤ 8) (hp : PSD M q i l f) (hm : MN M c l f2 (5 * M 468 17)) :
    (f2 = -1 ∧ i = q.length) ∨ (f2 ≠ -1 ∧ i < q.length ∧ ∃ x, q[i.toNat]? = some x ∧ f2 = cdx x ∧ 0 ≤ x ∧ x < 40 ∧ M 494 (5 * (f2 / 10) + f2 % 10) = M 494 x) := by
  obtain ⟨i0, i1, hp⟩ := hp
  have hgt : ∀ (k : Nat) (y : Int), q[k]? = some y → (i ≤ k ↔ l < M 494 y) := by
    intro k y hy
    have hy1 := h.st hs (List.mem_of_getElem? hy)
    rcases hp with ⟨a, b, -⟩ | ⟨x, a, b, d, -⟩
    · subst a b
      constructor
      · intro _; omega
      · intro _; omega
    · subst d
      constructor
      · intro e; exact pw_at h.2 b hy (by omega)
      · intro e
        rcases Int.lt_or_le (k : Int) i with w | w
        · rcases Nat.lt_or_ge k (i - 1).toNat with w2 | w2
          · have := pw_at h.2 hy b w2; omega
          · have e2 : k = (i - 1).toNat := by omega
            rw [e2, b] at hy
            simp at hy
            subst hy
            omega
        · exact w
  rcases hm with ⟨a, b⟩ | ⟨x, x0, x1, x2, x3, x4, x5, x6⟩
  · left
    refine ⟨a, ?_⟩
    rcases Int.lt_or_le i q.length with w | w
    · exfalso
      have hl : i.toNat < q.length := by omega
      have hy := List.getElem?_eq_getElem hl
      obtain ⟨y0, y1, y2⟩ := (h.1 _).mp (List.mem_of_getElem? hy)
      exact b _ y0 y1 ⟨y2, (hgt _ _ hy).mp (by omega)⟩
    · omega
  · right
    have hxq : x ∈ q := (h.1 x).mpr ⟨x0, x1, x3⟩
    obtain ⟨j, hj, hj2⟩ := List.mem_iff_getElem.mp hxq
    have hjx : q[j]? = some x := by rw [← hj2]; exact List.getElem?_eq_getElem hj
    have hij := (hgt j x hjx).mpr x4
    refine ⟨?_, by omega, x, ?_, x5, x0, x2, ?_⟩
    · have := cdx_0 x0 x2; omega
    · rcases Int.lt_or_eq_of_le hij with w | w
      · exfalso
        have hl : i.toNat < q.length := by omega
        have hy := List.getElem?_eq_getElem hl
        obtain ⟨y0, y1, y2⟩ := (h.1 _).mp (List.mem_of_getElem? hy)
        have e1 := x6 _ y0 y1 y2 ((hgt _ _ hy).mp (by omega))
        have e2 := pw_at h.2 hy hjx (by omega)
        omega
      · rw [show i.toNat = j by omega]; exact hjx
    · rw [x5, cdx_sp x0]
theorem PSD.next {M : Mem} {q : List Int} {i l f x : Int} (h : PSD M q i l f) (hx : q[i.toNat]? = some x) : PSD M q (i + 1) (M 494 x) (cdx x) := by
  obtain ⟨i0, i1, -⟩ := h
  have hl := (List.getElem?_eq_some_iff.mp hx).1
  exact ⟨by omega, by omega, Or.inr ⟨x, by omega, by rw [show (i + 1 - 1).toNat = i.toNat by omega]; exact hx, rfl, rfl⟩⟩
/-- where a reading of who waits ends -/
def WA (q : List Int) (k z : Int) : Prop := (0 ≤ k ∧ k < q.length ∧ ∃ x, q[k.toNat]? = some x ∧ z = cdx x ∧ 0 ≤ x ∧ x < 40) ∨ (q.length ≤ k ∧ z = -1)
def GB (M : Mem) : Prop := 0 ≤ M 468 17 ∧ M 468 17 ≤ 8 ∧ 0 ≤ M 468 9 ∧ M 468 9 ≤ 5 ∧ (∀ p, 0 ≤ p → p < M 468 9 → 0 ≤ M 474 p ∧ M 474 p ≤ 3) ∧ ∀ x, 0 ≤ x → x < 5 * M 468 17 → M 493 x = 45 ∨ M 493 x = 111 ∨ M 493 x = 113
