/-- a queue in the class's memory -/
def QL (M : Mem) (c : Int) (q : List Int) : Prop := M 24 c = (q.length : Int) ∧ ∀ (k : Nat) (x : Int), q[k]? = some x → M (c + 20) (k : Int) = x
def RAb (M : Mem) (c : Int) (b : BSt) : Prop := (∀ x, 0 ≤ x → x < 40 → M 18 x = b.1 x) ∧ QL M c b.2.1 ∧ M 25 c = b.2.2.1 ∧ M 17 5 = b.2.2.2.1 ∧ M 26 c = b.2.2.2.2
/-- what the balloons of the colour c may change -/
def FRb (M : Mem) (c : Int) (M' : Mem) : Prop := ∀ o k, o ≠ 18 → o ≠ c + 20 → ¬ (k = c ∧ 24 ≤ o ∧ o ≤ 26) → ¬ (o = 17 ∧ k = 5) → M' o k = M o k
theorem FRb.rfl' {M : Mem} {c : Int} : FRb M c M := fun _ _ _ _ _ _ => rfl
theorem FRb.trans {M M1 M2 : Mem} {c : Int} (h1 : FRb M c M1) (h2 : FRb M1 c M2) : FRb M c M2 := fun o k a b d e => (h2 o k a b d e).trans (h1 o k a b d e)
def DQ (M : Mem) (c f n : Int) (M' : Mem) : Prop := (∀ o k, o ≠ c + 20 → ¬ (o = 24 ∧ k = c) → M' o k = M o k) ∧ M' 24 c = M 24 c - n ∧ (∀ j, 0 ≤ j → j < f → M' (c + 20) j = M (c + 20) j) ∧ ∀ j, f ≤ j → j + n < M 24 c → M' (c + 20) j = M (c + 20) (j + n)
theorem QL.at {M : Mem} {c : Int} {q : List Int} (h : QL M c q) {s : Int} (s0 : 0 ≤ s) (s1 : s < M 24 c) : ∃ x, q[s.toNat]? = some x ∧ M (c + 20) s = x := by
  have h1 := h.1
  have hl : s.toNat < q.length := by omega
  refine ⟨q[s.toNat], List.getElem?_eq_getElem hl, ?_⟩
  have := h.2 s.toNat _ (List.getElem?_eq_getElem hl)
  rwa [Int.toNat_of_nonneg s0] at this
theorem QL.dropN {M M' : Mem} {c n : Int} {q : List Int} (h : QL M c q) (n0 : 0 ≤ n) (n1 : n ≤ M 24 c) (hd : DQ M c 0 n M') : QL M' c (q.drop n.toNat) := by
  have h1 := h.1
  obtain ⟨d1, d2, d3, d4⟩ := hd
  refine ⟨by rw [List.length_drop, d2]; omega, fun k x hk => ?_⟩
  rw [List.getElem?_drop] at hk
  have hl := (List.getElem?_eq_some_iff.mp hk).1
  rw [d4 k (by omega) (by omega), ← h.2 _ x hk]
  congr 1
  omega
theorem QL.leave {M M' : Mem} {c i x : Int} {q : List Int} (h : QL M c q) (hn : q.Nodup) (i0 : 0 ≤ i) (i1 : i < M 24 c) (hx : M (c + 20) i = x) (hd : DQ M c i 1 M') : QL M' c (q.filter (fun y => decide (y ≠ x))) := by
  have h1 := h.1
  obtain ⟨d1, d2, d3, d4⟩ := hd
  obtain ⟨y, hy, hy2⟩ := h.at i0 i1
  rw [hx] at hy2
  subst hy2
  rw [← leave_eq q x i.toNat hn hy]
  have hl : i.toNat < q.length := by omega
  refine ⟨by rw [List.length_append, List.length_take, List.length_drop, d2]; omega, fun k z hk => ?_⟩
  rcases Nat.lt_or_ge k i.toNat with e | e
  · rw [List.getElem?_append_left (by rw [List.length_take]; omega), List.getElem?_take_of_lt e] at hk
    rw [d3 k (by omega) (by omega)]
    exact h.2 k z hk
  · rw [List.getElem?_append_right (by rw [List.length_take]; omega), List.getElem?_drop, List.length_take] at hk
    have hl2 := (List.getElem?_eq_some_iff.mp hk).1
    rw [d4 k (by omega) (by omega), ← h.2 _ z hk]
    congr 1
    omega
theorem mem_take_s {q : List Int} {k : Nat} {x y : Int} (h : q[k]? = some x) : y ∈ q.take (k + 1) ↔ y ∈ q.take k ∨ y = x := by
  rw [List.take_succ, h]
  simp
