theorem mx_1 : MXw RX1 71 := ⟨inr17 _ (List.mem_of_getElem? (i := 21) rfl), inr17 _ (List.mem_of_getElem? (i := 22) rfl), inr17 _ (List.mem_of_getElem? (i := 23) rfl), inr18 _ (List.mem_of_getElem? (i := 0) rfl)⟩
def AHa (M : Mem) (o a b : Int) : Prop := M (o + 3) b < M (o + 3) a ∨ (M (o + 3) b = M (o + 3) a ∧ (M (o + 4) a < M (o + 4) b ∨ (M (o + 4) a = M (o + 4) b ∧ (M (o + 5) a < M (o + 5) b ∨ (M (o + 5) a = M (o + 5) b ∧ a < b)))))
theorem AHa.tr {M : Mem} {o a b c : Int} (h1 : AHa M o a b) (h2 : AHa M o b c) : AHa M o a c := by unfold AHa at *; omega
theorem AHa.tot {M : Mem} {o a b : Int} (h : a ≠ b) (h1 : ¬ AHa M o a b) : AHa M o b a := by unfold AHa at *; omega
theorem AHa.asym {M : Mem} {o a b : Int} (h : AHa M o a b) : ¬ AHa M o b a := by unfold AHa at *; omega
/-- the first k places of the order are the first k teams, as they rank -/
def ORD (M : Mem) (o k : Int) : Prop := (∀ i, 0 ≤ i → i < k → 0 ≤ M (o + 6) i ∧ M (o + 6) i < k) ∧ (∀ i j, 0 ≤ i → i < j → j < k → AHa M o (M (o + 6) i) (M (o + 6) j)) ∧ ∀ t, 0 ≤ t → t < k → ∃ i, 0 ≤ i ∧ i < k ∧ M (o + 6) i = t
theorem AHa.cong {M M' : Mem} {o a b : Int} (h : ∀ q k, (q = o + 3 ∨ q = o + 4 ∨ q = o + 5) → M' q k = M q k) : AHa M' o a b ↔ AHa M o a b := by
  unfold AHa
  rw [h (o + 3) a (by omega), h (o + 3) b (by omega), h (o + 4) a (by omega), h (o + 4) b (by omega), h (o + 5) a (by omega), h (o + 5) b (by omega)]
theorem ORD.ins {M M' : Mem} {o k i : Int} (hO : ORD M o k) (i0 : 0 ≤ i) (i1 : i ≤ k) (hf : ∀ q j, (q = o + 3 ∨ q = o + 4 ∨ q = o + 5) → M' q j = M q j) (h1 : ∀ j, 0 ≤ j → j < i → M' (o + 6) j = M (o + 6) j) (h2 : M' (o + 6) i = k) (h3 : ∀ j, i < j → j ≤ k → M' (o + 6) j = M (o + 6) (j - 1)) (h4 : ∀ j, i ≤ j → j < k → AHa M o k (M (o + 6) j)) (h5 : 0 < i → ¬ AHa M o k (M (o + 6) (i - 1))) : ORD M' o (k + 1) := by
  obtain ⟨a1, a2, a3⟩ := hO
  have hc : ∀ a b, AHa M' o a b ↔ AHa M o a b := fun a b => AHa.cong hf
  have hlow : ∀ j, 0 ≤ j → j < i → AHa M o (M (o + 6) j) k := fun j j0 j1 => by
    have h6 := a1 (i - 1) (by omega) (by omega)
    have h7 : AHa M o (M (o + 6) (i - 1)) k := AHa.tot (by omega) (h5 (by omega))
    rcases Int.lt_or_eq_of_le (show j ≤ i - 1 by omega) with e | e
    · exact (a2 j (i - 1) j0 e (by omega)).tr h7
    · rw [e]; exact h7
  refine ⟨fun j j0 j1 => ?_, fun x y x0 xy y1 => ?_, fun t t0 t1 => ?_⟩
  · rcases Int.lt_or_le j i with e | e
    · rw [h1 j j0 e]; have := a1 j j0 (by omega); omega
    · rcases Int.lt_or_eq_of_le e with e2 | e2
      · rw [h3 j e2 (by omega)]; have := a1 (j - 1) (by omega) (by omega); omega
      · rw [← e2, h2]; omega
  · rw [hc]
    rcases Int.lt_or_le y i with e | e
    · rw [h1 x x0 (by omega), h1 y (by omega) e]; exact a2 x y x0 xy (by omega)
    · rcases Int.lt_or_eq_of_le e with e2 | e2
      · rw [h3 y e2 (by omega)]
        rcases Int.lt_or_le x i with f | f
        · rw [h1 x x0 f]
          rcases Int.lt_or_eq_of_le (show x ≤ y - 1 by omega) with w | w
          · exact a2 x (y - 1) x0 w (by omega)
          · omega
        · rcases Int.lt_or_eq_of_le f with f2 | f2
          · rw [h3 x f2 (by omega)]; exact a2 (x - 1) (y - 1) (by omega) (by omega) (by omega)
          · rw [← f2, h2]; exact h4 (y - 1) (by omega) (by omega)
      · rw [← e2, h2, h1 x x0 (by omega)]; exact hlow x x0 (by omega)
  · rcases Int.lt_or_eq_of_le (show t ≤ k by omega) with e | e
    · obtain ⟨j, j0, j1, j2⟩ := a3 t t0 e
      rcases Int.lt_or_le j i with f | f
      · exact ⟨j, j0, by omega, by rw [h1 j j0 f]; exact j2⟩
      · exact ⟨j + 1, by omega, by omega, by rw [h3 (j + 1) (by omega) (by omega), show j + 1 - 1 = j by omega]; exact j2⟩
    · exact ⟨i, i0, by omega, by rw [h2, e]⟩
theorem BI.ini {M : Mem} {o : Int} {tm pb mn : Int → Int} {vs ac : Int → Prop} (h1 : ∀ s, 0 ≤ s → s < 40 → M (o + 1) s = 0 ∧ M (o + 2) s = -1) (h2 : ∀ t, 0 ≤ t → t < 8 → M (o + 3) t = 0 ∧ M (o + 4) t = 0 ∧ M (o + 5) t = 0) : BI M o tm pb mn vs ac 0 := by
  have hF : ∀ t p, gF tm pb vs ac t p 0 = -1 := fun t p => by
    rcases gF_rng (tm := tm) (pb := pb) (vs := vs) (ac := ac) (t := t) (p := p) (n := 0) (by omega) with h | h
    · exact h
    · omega
  intro t t0 t1
  obtain ⟨a, b, c⟩ := h2 t t0 t1
  refine ⟨fun p p0 p1 => ?_, ?_, ?_, ?_⟩
  · obtain ⟨d, e⟩ := h1 (5 * t + p) (by omega) (by omega)
    rw [hF, if_pos rfl, if_pos rfl, d, e]
    exact ⟨rfl, (cnt_0 _).symm⟩
  · rw [a]; unfold s5 gS; simp only [hF, if_true]; rfl
  · rw [b]; unfold s5 gP; simp only [hF, if_true]; rfl
  · rw [c]; unfold m5 gM; simp only [hF, if_true]; rfl
theorem BI.rng {M : Mem} {o n : Int} {tm pb mn : Int → Int} {vs ac : Int → Prop} (h : BI M o tm pb mn vs ac n) (n0 : 0 ≤ n) (n1 : n ≤ 40) (hm : ∀ r, 0 ≤ r → r < n → 0 ≤ mn r ∧ mn r ≤ 999) {t : Int} (t0 : 0 ≤ t) (t1 : t < 8) : 0 ≤ M (o + 3) t ∧ M (o + 3) t ≤ 5 ∧ 0 ≤ M (o + 4) t ∧ M (o + 4) t ≤ 10000 ∧ 0 ≤ M (o + 5) t ∧ M (o + 5) t ≤ 999 ∧ ∀ p, 0 ≤ p → p < 5 → 0 ≤ M (o + 1) (5 * t + p) ∧ M (o + 1) (5 * t + p) ≤ 40 ∧ -1 ≤ M (o + 2) (5 * t + p) ∧ M (o + 2) (5 * t + p) ≤ 999 := by
  obtain ⟨h1, h2, h3, h4⟩ := h t t0 t1
  have hF : ∀ p, gF tm pb vs ac t p n = -1 ∨ (0 ≤ gF tm pb vs ac t p n ∧ gF tm pb vs ac t p n < n) := fun p => gF_rng n0
  have hS : ∀ p, 0 ≤ gS tm pb vs ac t p n ∧ gS tm pb vs ac t p n ≤ 1 := fun p => by unfold gS; split <;> omega
  have hP : ∀ p, 0 ≤ gP tm pb mn vs ac t p n ∧ gP tm pb mn vs ac t p n ≤ 2000 := fun p => by
    unfold gP
    split
    · omega
    · rename_i e
      have w := hF p
      have := hm _ (show 0 ≤ gF tm pb vs ac t p n by omega) (by omega)
      have := cnt_range (fun r => tm r = t ∧ pb r = p ∧ vs r) (n := gF tm pb vs ac t p n) (by omega)
      unfold gC
      omega
  have hM : ∀ p, 0 ≤ gM tm pb mn vs ac t p n ∧ gM tm pb mn vs ac t p n ≤ 999 := fun p => by
    unfold gM
    split
    · omega
    · rename_i e
      have w := hF p
      exact hm _ (by omega) (by omega)
  rw [h2, h3, h4]
  simp only [s5, m5]
  refine ⟨?_, ?_, ?_, ?_, ?_, ?_, fun p p0 p1 => ?_⟩
  · have := hS 0; have := hS 1; have := hS 2; have := hS 3; have := hS 4; omega
  · have := hS 0; have := hS 1; have := hS 2; have := hS 3; have := hS 4; omega
  · have := hP 0; have := hP 1; have := hP 2; have := hP 3; have := hP 4; omega
  · have := hP 0; have := hP 1; have := hP 2; have := hP 3; have := hP 4; omega
  · have := hM 0; have := hM 1; have := hM 2; have := hM 3; have := hM 4; omega
  · have := hM 0; have := hM 1; have := hM 2; have := hM 3; have := hM 4; omega
  · obtain ⟨e1, e2⟩ := h1 p p0 p1
    rw [e1, e2]
    have w := hF p
    split
    · have := cnt_range (fun r => tm r = t ∧ pb r = p ∧ vs r) (n := n) n0
      unfold gC; omega
    · have := cnt_range (fun r => tm r = t ∧ pb r = p ∧ vs r) (n := gF tm pb vs ac t p n) (by omega)
      have := hm (gF tm pb vs ac t p n) (by omega) (by omega)
      unfold gC; omega
