/-! balloons of a colour: the states by spots, who waits, how many are in stock, were called back, are out -/
abbrev BSt : Type := (Int → Int) × List Int × Int × Int × Int
def st1 (f : Int → Int) (x v : Int) : Int → Int := fun y => if y = x then v else f y
def svN (k : Int) (q : List Int) : Nat := min q.length k.toNat
def SVo (b : BSt) : BSt := (fun x => if x ∈ b.2.1.take (svN b.2.2.1 b.2.1) then 111 else b.1 x, b.2.1.drop (svN b.2.2.1 b.2.1), b.2.2.1 - (svN b.2.2.1 b.2.1 : Int), b.2.2.2.1, b.2.2.2.2 + (svN b.2.2.1 b.2.1 : Int))
def TKo (x : Int) (b : BSt) : BSt := if b.1 x = 111 then (st1 b.1 x 45, b.2.1, b.2.2.1 + 1, b.2.2.2.1 + 1, b.2.2.2.2 - 1) else if b.1 x = 113 then (st1 b.1 x 45, b.2.1.filter (fun y => decide (y ≠ x)), b.2.2) else b
def SNo (x : Int) (b : BSt) : BSt := SVo (st1 b.1 x 113, b.2.1 ++ [x], b.2.2)
noncomputable def fTk (sol : Int → Prop) (p : Int) (b : BSt) : Nat → BSt
  | 0 => b
  | n + 1 => @ite BSt (sol n) (Classical.propDecidable _) (fTk sol p b n) (TKo (5 * n + p) (fTk sol p b n))
noncomputable def fSn (sol : Int → Prop) (p : Int) (b : BSt) : Nat → BSt
  | 0 => b
  | n + 1 => @ite BSt (sol n ∧ (fSn sol p b n).1 (5 * n + p) = 45) (Classical.propDecidable _) (SNo (5 * n + p) (fSn sol p b n)) (fSn sol p b n)
/-- what a judging anew does to the balloons of problem p, of this colour -/
noncomputable def fFo (sol : Int → Prop) (p T : Int) (b : BSt) : BSt := fSn sol p (SVo (fTk sol p b T.toNat)) T.toNat
theorem fTk_t {sol : Int → Prop} {p n : Int} {b : BSt} (hn : 0 ≤ n) (h : sol n) : fTk sol p b (n + 1).toNat = fTk sol p b n.toNat := by
  rw [show (n + 1).toNat = n.toNat + 1 by omega]
  show @ite BSt _ (Classical.propDecidable _) _ _ = _
  rw [Int.toNat_of_nonneg hn, if_pos h]
theorem fTk_f {sol : Int → Prop} {p n : Int} {b : BSt} (hn : 0 ≤ n) (h : ¬ sol n) : fTk sol p b (n + 1).toNat = TKo (5 * n + p) (fTk sol p b n.toNat) := by
  rw [show (n + 1).toNat = n.toNat + 1 by omega]
  show @ite BSt _ (Classical.propDecidable _) _ _ = _
  rw [Int.toNat_of_nonneg hn, if_neg h]
theorem fSn_t {sol : Int → Prop} {p n : Int} {b : BSt} (hn : 0 ≤ n) (h : sol n) (h2 : (fSn sol p b n.toNat).1 (5 * n + p) = 45) : fSn sol p b (n + 1).toNat = SNo (5 * n + p) (fSn sol p b n.toNat) := by
  rw [show (n + 1).toNat = n.toNat + 1 by omega]
  show @ite BSt _ (Classical.propDecidable _) _ _ = _
  rw [Int.toNat_of_nonneg hn, if_pos ⟨h, h2⟩]
theorem fSn_f {sol : Int → Prop} {p n : Int} {b : BSt} (hn : 0 ≤ n) (h : ¬ (sol n ∧ (fSn sol p b n.toNat).1 (5 * n + p) = 45)) : fSn sol p b (n + 1).toNat = fSn sol p b n.toNat := by
  rw [show (n + 1).toNat = n.toNat + 1 by omega]
  show @ite BSt _ (Classical.propDecidable _) _ _ = _
  rw [Int.toNat_of_nonneg hn, if_neg h]
/-- who waits is of a kind, and each once -/
def QN (b : BSt) : Prop := b.2.1.Nodup ∧ (∀ x ∈ b.2.1, 0 ≤ x ∧ x < 40 ∧ b.1 x = 113)
theorem nodup_len (m : Nat) : ∀ q : List Int, q.Nodup → (∀ x ∈ q, 0 ≤ x ∧ x < m) → q.length ≤ m := by
  induction m with
  | zero =>
    intro q _ h
    cases q with
    | nil => exact Nat.le_refl _
    | cons x q => have := h x List.mem_cons_self; omega
  | succ m ih =>
    intro q hn h
    have h1 := ih (q.filter (fun y => decide (y ≠ (m : Int)))) (hn.filter _) (fun x hx => by
      obtain ⟨a, b⟩ := List.mem_filter.mp hx
      have := h x a
      simp at b
      omega)
    have h2 : q.length ≤ (q.filter (fun y => decide (y ≠ (m : Int)))).length + 1 := by
      clear ih h h1
      induction q with
      | nil => simp
      | cons x q ih2 =>
        obtain ⟨hx, hq⟩ := List.nodup_cons.mp hn
        by_cases e : x = (m : Int)
        · have e2 : q.filter (fun y => decide (y ≠ (m : Int))) = q := List.filter_eq_self.mpr (fun y hy => by simp; intro w; rw [w, ← e] at hy; exact hx hy)
          rw [List.filter_cons, if_neg (by simp [e]), e2]
          simp
        · have := ih2 hq
          simp [List.filter_cons, e] at *
          omega
    omega
/-- leaving a queue -/
theorem leave_eq (q : List Int) (x : Int) : ∀ i : Nat, q.Nodup → q[i]? = some x → q.take i ++ q.drop (i + 1) = q.filter (fun y => decide (y ≠ x)) := by
  induction q with
  | nil => intro i _ h; simp at h
  | cons y q ih =>
    intro i hn h
    obtain ⟨hy, hq⟩ := List.nodup_cons.mp hn
    cases i with
    | zero =>
      simp at h
      subst h
      have e2 : q.filter (fun z => decide (z ≠ y)) = q := List.filter_eq_self.mpr (fun z hz => by simp; intro w; rw [w] at hz; exact hy hz)
      simp only [List.take_zero, List.nil_append, List.drop_succ_cons, List.drop_zero, List.filter_cons]
      simp [e2]
      exact e2.symm.trans (by simp)
    | succ i =>
      simp at h
      have hne : y ≠ x := fun w => by rw [w] at hy; exact hy (List.mem_of_getElem? h)
      simp only [List.take_succ_cons, List.drop_succ_cons, List.cons_append, List.filter_cons]
      rw [ih i hq h]
      simp [hne]
theorem QN.sv {b : BSt} (h : QN b) : QN (SVo b) := by
  obtain ⟨h1, h2⟩ := h
  refine ⟨h1.sublist (List.drop_sublist _ _), fun x hx => ?_⟩
  have hm := List.mem_of_mem_drop hx
  obtain ⟨a, c, d⟩ := h2 x hm
  refine ⟨a, c, ?_⟩
  show (if _ then _ else _) = _
  rw [if_neg]
  · exact d
  · intro hy
    have h3 : (b.2.1.take (svN b.2.2.1 b.2.1) ++ b.2.1.drop (svN b.2.2.1 b.2.1)).Nodup := by rw [List.take_append_drop]; exact h1
    exact (List.nodup_append.mp h3).2.2 x hy x hx rfl
theorem QN.tk {b : BSt} {x : Int} (h : QN b) : QN (TKo x b) := by
  obtain ⟨h1, h2⟩ := h
  unfold TKo
  by_cases e : b.1 x = 111
  · rw [if_pos e]
    refine ⟨h1, fun y hy => ?_⟩
    obtain ⟨a, c, d⟩ := h2 y hy
    refine ⟨a, c, ?_⟩
    show st1 _ _ _ _ = _
    unfold st1
    rw [if_neg (fun w => by rw [w] at d; omega)]
    exact d
  · rw [if_neg e]
    by_cases e2 : b.1 x = 113
    · rw [if_pos e2]
      refine ⟨h1.filter _, fun y hy => ?_⟩
      obtain ⟨hy1, hy2⟩ := List.mem_filter.mp hy
      obtain ⟨a, c, d⟩ := h2 y hy1
      refine ⟨a, c, ?_⟩
      show st1 _ _ _ _ = _
      unfold st1
      simp at hy2
      rw [if_neg hy2]
      exact d
    · rw [if_neg e2]; exact ⟨h1, h2⟩
theorem QN.add {b : BSt} {x : Int} (h : QN b) (x0 : 0 ≤ x) (x1 : x < 40) (hx : b.1 x = 45) : QN (st1 b.1 x 113, b.2.1 ++ [x], b.2.2) := by
  obtain ⟨h1, h2⟩ := h
  refine ⟨List.nodup_append.mpr ⟨h1, by simp, fun a ha c hc => ?_⟩, fun y hy => ?_⟩
  · simp at hc
    rw [hc]
    intro w
    rw [w] at ha
    have := (h2 x ha).2.2
    omega
  · rcases List.mem_append.mp hy with w | w
    · obtain ⟨a, c, d⟩ := h2 y w
      refine ⟨a, c, ?_⟩
      show st1 _ _ _ _ = _
      unfold st1
      split
      · rfl
      · exact d
    · simp at w
      subst w
      refine ⟨x0, x1, ?_⟩
      show st1 _ _ _ _ = _
      unfold st1
      rw [if_pos rfl]
theorem QN.len {b : BSt} (h : QN b) : b.2.1.length ≤ 40 := nodup_len 40 b.2.1 h.1 (fun x hx => ⟨(h.2 x hx).1, (h.2 x hx).2.1⟩)
