theorem cnt_one {P Q : Int → Prop} {n j : Int} (h0 : 0 ≤ j) (h1 : j < n) (he : ∀ i, 0 ≤ i → i < n → i ≠ j → (P i ↔ Q i)) (hp : ¬ P j) (hq : Q j) : cnt Q n = cnt P n + 1 := by
  have hn : 0 ≤ n := by omega
  have h := int_ind (C := fun k => k ≤ n → cnt Q k = cnt P k + (if j < k then 1 else 0)) n hn (fun _ => by rw [cnt_0, cnt_0, if_neg (by omega)]; omega) (fun z z0 z1 ih hz => by
    by_cases e : z = j
    · rw [e] at ih ⊢
      rw [cnt_t h0 hq, cnt_f h0 hp, ih (by omega), if_neg (by omega), if_pos (by omega)]; omega
    · have e2 := he z z0 z1 e
      by_cases hz' : P z
      · rw [cnt_t z0 (e2.mp hz'), cnt_t z0 hz', ih (by omega)]
        by_cases q : j < z
        · rw [if_pos q, if_pos (by omega)]; try omega
        · rw [if_neg q, if_neg (by omega)]; try omega
      · rw [cnt_f z0 (fun w => hz' (e2.mpr w)), cnt_f z0 hz', ih (by omega)]
        by_cases q : j < z
        · rw [if_pos q, if_pos (by omega)]
        · rw [if_neg q, if_neg (by omega)])
  have := h (Int.le_refl _)
  rwa [if_pos h1] at this
theorem sm_le {f h : Int → Int} {n : Int} (hn : 0 ≤ n) (e : ∀ z, 0 ≤ z → z < n → f z ≤ h z) : sm f n ≤ sm h n := by
  refine int_ind (C := fun k => k ≤ n → sm f k ≤ sm h k) n hn (fun _ => by rw [sm_0, sm_0]; omega) (fun z z0 z1 ih hz => ?_) (Int.le_refl _)
  rw [sm_s z0, sm_s z0]
  have := ih (by omega)
  have := e z z0 z1
  omega
theorem sm_add {f h : Int → Int} {n : Int} (hn : 0 ≤ n) : sm (fun z => f z + h z) n = sm f n + sm h n := by
  refine int_ind (C := fun k => sm (fun z => f z + h z) k = sm f k + sm h k) n hn (by rw [sm_0, sm_0, sm_0]; omega) (fun z z0 z1 ih => ?_)
  rw [sm_s z0, sm_s z0, sm_s z0, ih]
  omega
theorem sm_ind {a n : Int} (hn : 0 ≤ n) : sm (fun z => if a = z then 1 else 0) n ≤ 1 := by
  refine Int.le_trans (int_ind (C := fun k => sm (fun z => if a = z then 1 else 0) k ≤ (if 0 ≤ a ∧ a < k then 1 else 0)) n hn (by show sm _ 0 ≤ _; rw [sm_0, if_neg (by omega)]; omega) (fun z z0 z1 ih => ?_)) (by split <;> omega)
  show sm _ (z + 1) ≤ _
  rw [sm_s z0]
  by_cases e : a = z
  · rw [if_neg (by omega)] at ih
    rw [if_pos e, if_pos (by omega)]
    omega
  · rw [if_neg e]
    by_cases q : 0 ≤ a ∧ a < z
    · rw [if_pos q] at ih
      rw [if_pos (by omega)]
      omega
    · rw [if_neg q] at ih
      rw [if_neg (by omega)]
      omega
theorem sm_const {c n : Int} (hn : 0 ≤ n) : sm (fun _ => c) n = c * n := by
  refine int_ind (C := fun k => sm (fun _ => c) k = c * k) n hn (by rw [sm_0]; omega) (fun z z0 z1 ih => ?_)
  rw [sm_s z0, ih, Int.mul_add, Int.mul_one]
/-- every j falls to one s at most -/
theorem pigeon (P : Int → Prop) (f : Int → Int) {n m : Int} (hn : 0 ≤ n) (hm : 0 ≤ m) : sm (fun s => cnt (fun j => P j ∧ f j = s) n) m ≤ cnt P n := by
  refine int_ind (C := fun n => sm (fun s => cnt (fun j => P j ∧ f j = s) n) m ≤ cnt P n) n hn (by rw [sm_congr (h := fun _ => 0) hm (fun z _ _ => cnt_0 _), sm_const hm, cnt_0]; omega) (fun z z0 z1 ih => ?_)
  by_cases hp : P z
  · rw [cnt_t z0 hp]
    have e : sm (fun s => cnt (fun j => P j ∧ f j = s) (z + 1)) m = sm (fun s => cnt (fun j => P j ∧ f j = s) z + (if f z = s then 1 else 0)) m := sm_congr hm (fun s _ _ => by
      by_cases q : f z = s
      · show cnt _ _ = cnt _ _ + (if f z = s then 1 else 0)
        rw [cnt_t z0 ⟨hp, q⟩, if_pos q]
      · show cnt _ _ = cnt _ _ + (if f z = s then 1 else 0)
        rw [cnt_f z0 (fun w => q w.2), if_neg q]; omega)
    rw [e, sm_add hm]
    have := sm_ind (a := f z) hm
    omega
  · rw [cnt_f z0 hp]
    have e : sm (fun s => cnt (fun j => P j ∧ f j = s) (z + 1)) m = sm (fun s => cnt (fun j => P j ∧ f j = s) z) m := sm_congr hm (fun s _ _ => cnt_f z0 (fun w => hp w.1))
    rw [e]
    exact ih
/-- the slot of the j-th of all tests of all runs -/
def sl (M : Mem) (j : Int) : Int := M (155 + 8 * (j / 6)) (j % 6)
/-- the store, but for the test e, whose slot is not counted -/
def SI (M : Mem) (e : Int) : Prop := (∀ s, 0 ≤ s → s < 240 → M 16 s = cnt (fun j => j ≠ e ∧ sl M j = s) 240) ∧ M 13 3 = cnt (fun s => 0 < M 16 s) 240 ∧
  (∀ s q, 0 ≤ s → s < 240 → 0 ≤ q → q < 240 → 0 < M 16 s → 0 < M 16 q → s ≠ q → ¬ (M 15 s = M 15 q ∧ ∀ k, 0 ≤ k → k < M 15 s → M 14 (s * 6 + k) = M 14 (q * 6 + k))) ∧
  (∀ s, 0 ≤ s → s < 240 → 0 < M 16 s → 0 ≤ M 15 s ∧ M 15 s ≤ 6) ∧ ∀ j, 0 ≤ j → j < 240 → sl M j = -1 ∨ (0 ≤ sl M j ∧ sl M j < 240)
theorem SI.users {M : Mem} {e : Int} (h : SI M e) {s : Int} (h0 : 0 ≤ s) (h1 : s < 240) : 0 ≤ M 16 s ∧ M 16 s ≤ 240 := by
  rw [h.1 s h0 h1]
  exact cnt_range _ (by omega)
/-- with one test left out, a slot is free -/
theorem SI.free {M : Mem} {e : Int} (h : SI M e) (e0 : 0 ≤ e) (e1 : e < 240) : ∃ s, 0 ≤ s ∧ s < 240 ∧ M 16 s = 0 := by
  refine Classical.byContradiction fun q => ?_
  have h1 : ∀ s, 0 ≤ s → s < 240 → 1 ≤ cnt (fun j => j ≠ e ∧ sl M j = s) 240 := fun s s0 s1 => by
    have u := h.users s0 s1
    rw [← h.1 s s0 s1]
    rcases Int.lt_or_eq_of_le u.1 with w | w
    · omega
    · exact absurd ⟨s, s0, s1, w.symm⟩ q
  have h2 := pigeon (fun j => j ≠ e) (sl M) (n := 240) (m := 240) (by omega) (by omega)
  have h3 : sm (fun _ => (1 : Int)) 240 ≤ sm (fun s => cnt (fun j => j ≠ e ∧ sl M j = s) 240) 240 := sm_le (by omega) h1
  rw [sm_const (by omega)] at h3
  have h4 := cnt_one (P := fun j => j ≠ e) (Q := fun _ => True) (n := 240) e0 e1 (fun i _ _ hi => ⟨fun _ => trivial, fun _ => hi⟩) (fun w => w rfl) trivial
  have h5 := cnt_range (fun _ => True) (n := 240) (by omega)
  omega
/-- how many values there are: the first places of each -/
theorem firsts (f : Int → Int) (V : Int → Prop) {n m : Int} (hn : 0 ≤ n) (hm : 0 ≤ m) (hr : ∀ j, 0 ≤ j → j < n → V j → 0 ≤ f j ∧ f j < m) :
    cnt (fun j => V j ∧ ∀ i, 0 ≤ i → i < j → V i → f i ≠ f j) n = cnt (fun s => ∃ j, 0 ≤ j ∧ j < n ∧ V j ∧ f j = s) m := by
  refine int_ind (C := fun k => k ≤ n → cnt (fun j => V j ∧ ∀ i, 0 ≤ i → i < j → V i → f i ≠ f j) k = cnt (fun s => ∃ j, 0 ≤ j ∧ j < k ∧ V j ∧ f j = s) m) n hn (fun _ => by rw [cnt_0, cnt_none hm (fun z _ _ => by rintro ⟨j, a, b, _⟩; omega)]) (fun z z0 z1 ih hz => ?_) (Int.le_refl _)
  by_cases hv : V z ∧ ∀ i, 0 ≤ i → i < z → V i → f i ≠ f z
  · rw [cnt_t z0 hv, ih (by omega)]
    have hz2 := hr z z0 z1 hv.1
    refine (cnt_one (j := f z) hz2.1 hz2.2 (fun i _ _ hi => ?_) ?_ ⟨z, z0, by omega, hv.1, rfl⟩).symm
    · constructor
      · rintro ⟨j, a, b, c, d⟩; exact ⟨j, a, by omega, c, d⟩
      · rintro ⟨j, a, b, c, d⟩
        rcases Int.lt_or_eq_of_le (show j ≤ z by omega) with w | w
        · exact ⟨j, a, w, c, d⟩
        · subst w; exact absurd d.symm hi
    · rintro ⟨j, a, b, c, d⟩
      exact hv.2 j a b c d
  · rw [cnt_f z0 hv, ih (by omega)]
    refine cnt_congr hm (fun s _ _ => ?_)
    constructor
    · rintro ⟨j, a, b, c, d⟩; exact ⟨j, a, by omega, c, d⟩
    rintro ⟨j, a, b, c, d⟩
    rcases Int.lt_or_eq_of_le (show j ≤ z by omega) with w | w
    · exact ⟨j, a, w, c, d⟩
    · subst w
      refine Classical.byContradiction fun q => hv ⟨c, fun i i0 i1 vi fi => q ⟨i, i0, i1, vi, fi.trans d⟩⟩
def CT (M : Mem) (s n : Int) (f : Int → Int) : Prop := M 15 s = n ∧ ∀ k, 0 ≤ k → k < n → M 14 (s * 6 + k) = f k
