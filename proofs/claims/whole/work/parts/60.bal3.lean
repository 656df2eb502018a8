/-- what is counted stays small -/
def BND (k : Int) (b : BSt) : Prop := (-k ≤ b.2.2.1 ∧ b.2.2.1 ≤ k) ∧ (-k ≤ b.2.2.2.1 ∧ b.2.2.2.1 ≤ k) ∧ (-k ≤ b.2.2.2.2 ∧ b.2.2.2.2 ≤ k)
def TRI (b : BSt) : Prop := ∀ x, b.1 x = 45 ∨ b.1 x = 111 ∨ b.1 x = 113
theorem BND.sv {k : Int} {b : BSt} (h : BND k b) (hq : QN b) : BND (k + 40) (SVo b) := by
  obtain ⟨a, c, d⟩ := h
  have h1 := hq.len
  have h2 : svN b.2.2.1 b.2.1 ≤ 40 := by unfold svN; omega
  refine ⟨?_, ?_, ?_⟩
  · show -(k + 40) ≤ b.2.2.1 - _ ∧ b.2.2.1 - _ ≤ k + 40
    omega
  · show -(k + 40) ≤ b.2.2.2.1 ∧ b.2.2.2.1 ≤ k + 40
    omega
  · show -(k + 40) ≤ b.2.2.2.2 + _ ∧ b.2.2.2.2 + _ ≤ k + 40
    omega
theorem BND.mono {k k2 : Int} {b : BSt} (h : BND k b) (hk : k ≤ k2) : BND k2 b := by
  obtain ⟨a, c, d⟩ := h
  exact ⟨by omega, by omega, by omega⟩
theorem BND.tk {k x : Int} {b : BSt} (h : BND k b) : BND (k + 1) (TKo x b) := by
  obtain ⟨a, c, d⟩ := id h
  unfold TKo
  split
  · refine ⟨?_, ?_, ?_⟩
    · show -(k + 1) ≤ b.2.2.1 + 1 ∧ b.2.2.1 + 1 ≤ k + 1
      omega
    · show -(k + 1) ≤ b.2.2.2.1 + 1 ∧ b.2.2.2.1 + 1 ≤ k + 1
      omega
    · show -(k + 1) ≤ b.2.2.2.2 - 1 ∧ b.2.2.2.2 - 1 ≤ k + 1
      omega
  · split
    · exact h.mono (by omega)
    · exact h.mono (by omega)
theorem TRI.s1 {b : BSt} {q : List Int} {r : Int × Int × Int} {x v : Int} (h : TRI b) (hv : v = 45 ∨ v = 111 ∨ v = 113) : TRI (st1 b.1 x v, q, r) := by
  intro y
  show st1 _ _ _ _ = 45 ∨ st1 _ _ _ _ = 111 ∨ st1 _ _ _ _ = 113
  unfold st1
  split
  · exact hv
  · exact h y
theorem TRI.sv {b : BSt} (h : TRI b) : TRI (SVo b) := by
  intro y
  show (if _ then _ else _) = (45 : Int) ∨ (if _ then _ else _) = (111 : Int) ∨ (if _ then _ else _) = (113 : Int)
  split
  · exact Or.inr (Or.inl rfl)
  · exact h y
theorem TRI.tk {b : BSt} {x : Int} (h : TRI b) : TRI (TKo x b) := by
  unfold TKo
  split
  · exact h.s1 (Or.inl rfl)
  · split
    · exact h.s1 (Or.inl rfl)
    · exact h
/-- sound balloons of a colour -/
def QS (k : Int) (b : BSt) : Prop := QN b ∧ BND k b ∧ TRI b
theorem QS.sv {k : Int} {b : BSt} (h : QS k b) : QS (k + 40) (SVo b) := ⟨h.1.sv, h.2.1.sv h.1, h.2.2.sv⟩
theorem QS.tk {k x : Int} {b : BSt} (h : QS k b) : QS (k + 1) (TKo x b) := ⟨h.1.tk, h.2.1.tk, h.2.2.tk⟩
theorem QS.add {k x : Int} {b : BSt} (h : QS k b) (x0 : 0 ≤ x) (x1 : x < 40) (hx : b.1 x = 45) : QS k (st1 b.1 x 113, b.2.1 ++ [x], b.2.2) := ⟨h.1.add x0 x1 hx, h.2.1, h.2.2.s1 (Or.inr (Or.inr rfl))⟩
theorem QS.sn {k x : Int} {b : BSt} (h : QS k b) (x0 : 0 ≤ x) (x1 : x < 40) (hx : b.1 x = 45) : QS (k + 40) (SNo x b) := (h.add x0 x1 hx).sv
theorem QS.mono {k k2 : Int} {b : BSt} (h : QS k b) (hk : k ≤ k2) : QS k2 b := ⟨h.1, h.2.1.mono hk, h.2.2⟩
theorem QN.full {b : BSt} {x : Int} (h : QN b) (x0 : 0 ≤ x) (x1 : x < 40) (hx : b.1 x = 45) : b.2.1.length < 40 := by
  have := (h.add x0 x1 hx).len
  simp at this
  omega
theorem QS.fTk {sol : Int → Prop} {p k : Int} {b : BSt} (h : QS k b) : ∀ n : Nat, QS (k + n) (fTk sol p b n) := by
  intro n
  induction n with
  | zero => exact h.mono (by omega)
  | succ n ih =>
    show QS _ (@ite BSt _ (Classical.propDecidable _) _ _)
    split
    · exact ih.mono (by omega)
    · exact ih.tk.mono (by omega)
theorem QS.fSn {sol : Int → Prop} {p k : Int} {b : BSt} (h : QS k b) (p0 : 0 ≤ p) (p1 : p < 5) : ∀ n : Nat, n ≤ 8 → QS (k + 40 * n) (fSn sol p b n) := by
  intro n
  induction n with
  | zero => intro _; exact h.mono (by omega)
  | succ n ih =>
    intro hn
    show QS _ (@ite BSt _ (Classical.propDecidable _) _ _)
    split
    · rename_i w
      exact ((ih (by omega)).sn (by omega) (by omega) w.2).mono (by omega)
    · exact (ih (by omega)).mono (by omega)
theorem QL.gone {M : Mem} {c x : Int} {q : List Int} (h : QL M c q) (hx : ∀ j, 0 ≤ j → j < M 24 c → M (c + 20) j ≠ x) : q.filter (fun y => decide (y ≠ x)) = q := by
  refine List.filter_eq_self.mpr (fun y hy => ?_)
  obtain ⟨k, hk, rfl⟩ := List.mem_iff_getElem.mp hy
  have h1 := h.2 k _ (List.getElem?_eq_getElem hk)
  have h2 := hx k (by omega) (by have := h.1; omega)
  simp
  intro w
  exact h2 (h1.trans w)
theorem QL.snoc {M M' : Mem} {c x : Int} {q : List Int} (h : QL M c q) (h1 : M' 24 c = M 24 c + 1) (h2 : ∀ j, 0 ≤ j → j < M 24 c → M' (c + 20) j = M (c + 20) j) (h3 : M' (c + 20) (M 24 c) = x) : QL M' c (q ++ [x]) := by
  have h0 := h.1
  refine ⟨by rw [h1, List.length_append, h0]; simp, fun k y hk => ?_⟩
  rcases Nat.lt_or_ge k q.length with e | e
  · rw [List.getElem?_append_left e] at hk
    rw [h2 k (by omega) (by omega)]
    exact h.2 k y hk
  · rw [List.getElem?_append_right e] at hk
    have h4 := (List.getElem?_eq_some_iff.mp hk).1
    simp at h4
    have h5 : k = q.length := by omega
    subst h5
    simp at hk
    rw [← hk, ← h0]
    exact h3
theorem BND.bs {k : Int} {b : BSt} (h : BND k b) (hk : k ≤ 1000000 := by decide) : -1000000 ≤ b.2.2.1 ∧ b.2.2.1 ≤ 1000000 ∧ -1000000 ≤ b.2.2.2.2 ∧ b.2.2.2.2 ≤ 1000000 := by
  obtain ⟨a, c, d⟩ := h
  omega
