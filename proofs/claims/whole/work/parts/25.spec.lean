/-! counting, the least, sums: over the numbers from 0 -/
noncomputable def cntN (P : Int → Prop) : Nat → Int
  | 0 => 0
  | n + 1 => cntN P n + @ite Int (P n) (Classical.propDecidable _) 1 0
noncomputable def cnt (P : Int → Prop) (z : Int) : Int := cntN P z.toNat
theorem cnt_0 (P : Int → Prop) : cnt P 0 = 0 := rfl
theorem cnt_t {P : Int → Prop} {z : Int} (h0 : 0 ≤ z) (h : P z) : cnt P (z + 1) = cnt P z + 1 := by
  unfold cnt
  rw [show (z + 1).toNat = z.toNat + 1 by omega]
  show cntN P z.toNat + _ = _
  rw [Int.toNat_of_nonneg h0, if_pos h]
theorem cnt_f {P : Int → Prop} {z : Int} (h0 : 0 ≤ z) (h : ¬ P z) : cnt P (z + 1) = cnt P z := by
  unfold cnt
  rw [show (z + 1).toNat = z.toNat + 1 by omega]
  show cntN P z.toNat + _ = _
  rw [Int.toNat_of_nonneg h0, if_neg h]
  omega
theorem int_ind {C : Int → Prop} (n : Int) (hn : 0 ≤ n) (h0 : C 0) (hs : ∀ z, 0 ≤ z → z < n → C z → C (z + 1)) : C n := by
  have h : ∀ k : Nat, (k : Int) ≤ n → C k := by
    intro k
    induction k with
    | zero => intro _; exact h0
    | succ k ih =>
      intro hk
      have := hs k (by omega) (by omega) (ih (by omega))
      rw [show ((k + 1 : Nat) : Int) = (k : Int) + 1 by omega]
      exact this
  have := h n.toNat (by omega)
  rwa [Int.toNat_of_nonneg hn] at this
theorem cnt_range (P : Int → Prop) {n : Int} (hn : 0 ≤ n) : 0 ≤ cnt P n ∧ cnt P n ≤ n := by
  refine int_ind (C := fun n => 0 ≤ cnt P n ∧ cnt P n ≤ n) n hn (by rw [cnt_0]; omega) (fun z h0 h1 ih => ?_)
  by_cases h : P z
  · rw [cnt_t h0 h]; omega
  · rw [cnt_f h0 h]; omega
theorem cnt_congr {P Q : Int → Prop} {n : Int} (hn : 0 ≤ n) (h : ∀ z, 0 ≤ z → z < n → (P z ↔ Q z)) : cnt P n = cnt Q n := by
  refine int_ind (C := fun k => k ≤ n → cnt P k = cnt Q k) n hn (fun _ => by rw [cnt_0, cnt_0]) (fun z h0 h1 ih hz => ?_) (Int.le_refl _)
  by_cases hp : P z
  · rw [cnt_t h0 hp, cnt_t h0 ((h z h0 h1).mp hp), ih (by omega)]
  · rw [cnt_f h0 hp, cnt_f h0 (fun q => hp ((h z h0 h1).mpr q)), ih (by omega)]
theorem cnt_none {P : Int → Prop} {n : Int} (hn : 0 ≤ n) (h : ∀ z, 0 ≤ z → z < n → ¬ P z) : cnt P n = 0 := by
  refine int_ind (C := fun k => k ≤ n → cnt P k = 0) n hn (fun _ => cnt_0 _) (fun z h0 h1 ih hz => ?_) (Int.le_refl _)
  rw [cnt_f h0 (h z h0 h1), ih (by omega)]
theorem cnt_some {P : Int → Prop} {n z : Int} (h0 : 0 ≤ z) (h1 : z < n) (h : P z) : 0 < cnt P n := by
  have hn : 0 ≤ n := by omega
  refine int_ind (C := fun k => z < k → 0 < cnt P k) n hn (fun q => by omega) (fun k k0 k1 ih hz => ?_) h1
  have hr := cnt_range P k0
  by_cases hk : P k
  · rw [cnt_t k0 hk]; omega
  · rw [cnt_f k0 hk]
    rcases Int.lt_or_eq_of_le (show z ≤ k by omega) with e | e
    · exact ih e
    · subst e; exact absurd h hk
theorem cnt_pos {P : Int → Prop} {n : Int} (hn : 0 ≤ n) : 0 < cnt P n ↔ ∃ z, 0 ≤ z ∧ z < n ∧ P z := by
  constructor
  · intro h
    refine Classical.byContradiction fun q => ?_
    rw [cnt_none hn (fun z z0 z1 hz => q ⟨z, z0, z1, hz⟩)] at h
    omega
  · rintro ⟨z, z0, z1, hz⟩
    exact cnt_some z0 z1 hz
/-- the least number below n with P, or -1 -/
def isLst (P : Int → Prop) (n z : Int) : Prop := (z = -1 ∧ ∀ q, 0 ≤ q → q < n → ¬ P q) ∨ (0 ≤ z ∧ z < n ∧ P z ∧ ∀ q, 0 ≤ q → q < z → ¬ P q)
theorem isLst.uniq {P : Int → Prop} {n z w : Int} (h1 : isLst P n z) (h2 : isLst P n w) : z = w := by
  rcases h1 with ⟨a, b⟩ | ⟨a, b, c, d⟩ <;> rcases h2 with ⟨a', b'⟩ | ⟨a', b', c', d'⟩
  · omega
  · exact absurd c' (b w a' b')
  · exact absurd c (b' z a b)
  · rcases Int.lt_or_le z w with e | e
    · exact absurd c (d' z a e)
    · rcases Int.lt_or_le w z with e2 | e2
      · exact absurd c' (d w a' e2)
      · omega
theorem isLst.ex (P : Int → Prop) {n : Int} (hn : 0 ≤ n) : ∃ z, isLst P n z := by
  refine int_ind (C := fun n => ∃ z, isLst P n z) n hn ⟨-1, Or.inl ⟨rfl, fun q h0 h1 => by omega⟩⟩ (fun k k0 k1 ih => ?_)
  obtain ⟨z, h | ⟨a, b, c, d⟩⟩ := ih
  · by_cases hk : P k
    · exact ⟨k, Or.inr ⟨k0, by omega, hk, h.2⟩⟩
    · refine ⟨-1, Or.inl ⟨rfl, ext_lt h.2 hk⟩⟩
  · exact ⟨z, Or.inr ⟨a, by omega, c, d⟩⟩
noncomputable def lst (P : Int → Prop) (n : Int) : Int := @dite Int (∃ z, isLst P n z) (Classical.propDecidable _) (fun h => Classical.choose h) (fun _ => -1)
theorem lst_is (P : Int → Prop) {n : Int} (hn : 0 ≤ n) : isLst P n (lst P n) := by
  unfold lst
  rw [dif_pos (isLst.ex P hn)]
  exact Classical.choose_spec (isLst.ex P hn)
theorem lst_eq {P : Int → Prop} {n z : Int} (hn : 0 ≤ n) (h : isLst P n z) : lst P n = z := (lst_is P hn).uniq h
theorem lst_range (P : Int → Prop) {n : Int} (hn : 0 ≤ n) : lst P n = -1 ∨ (0 ≤ lst P n ∧ lst P n < n) := by
  rcases lst_is P hn with h | h
  · exact Or.inl h.1
  · exact Or.inr ⟨h.1, h.2.1⟩
theorem lst_congr {P Q : Int → Prop} {n : Int} (hn : 0 ≤ n) (h : ∀ z, 0 ≤ z → z < n → (P z ↔ Q z)) : lst P n = lst Q n := by
  refine lst_eq hn ?_
  rcases lst_is Q hn with ⟨a, b⟩ | ⟨a, b, c, d⟩
  · exact Or.inl ⟨a, fun q q0 q1 hq => b q q0 q1 ((h q q0 q1).mp hq)⟩
  · exact Or.inr ⟨a, b, (h _ a b).mpr c, fun q q0 q1 hq => d q q0 q1 ((h q q0 (by omega)).mp hq)⟩
/-! sums -/
def sumN (f : Int → Int) : Nat → Int
  | 0 => 0
  | n + 1 => sumN f n + f n
def sm (f : Int → Int) (z : Int) : Int := sumN f z.toNat
theorem sm_0 (f : Int → Int) : sm f 0 = 0 := rfl
theorem sm_s {f : Int → Int} {z : Int} (h0 : 0 ≤ z) : sm f (z + 1) = sm f z + f z := by
  unfold sm
  rw [show (z + 1).toNat = z.toNat + 1 by omega]
  show sumN f z.toNat + _ = _
  rw [Int.toNat_of_nonneg h0]
theorem sm_congr {f h : Int → Int} {n : Int} (hn : 0 ≤ n) (e : ∀ z, 0 ≤ z → z < n → f z = h z) : sm f n = sm h n := by
  refine int_ind (C := fun k => k ≤ n → sm f k = sm h k) n hn (fun _ => by rw [sm_0, sm_0]) (fun z h0 h1 ih hz => ?_) (Int.le_refl _)
  rw [sm_s h0, sm_s h0, ih (by omega), e z h0 h1]
theorem sm_range {f : Int → Int} {n c : Int} (hn : 0 ≤ n) (h : ∀ z, 0 ≤ z → z < n → 0 ≤ f z ∧ f z ≤ c) : 0 ≤ sm f n ∧ sm f n ≤ c * n := by
  refine int_ind (C := fun k => k ≤ n → 0 ≤ sm f k ∧ sm f k ≤ c * k) n hn (fun _ => by rw [sm_0]; omega) (fun z h0 h1 ih hz => ?_) (Int.le_refl _)
  rw [sm_s h0, Int.mul_add, Int.mul_one]
  have := ih (by omega)
  have := h z h0 h1
  omega
theorem sm_5 {f : Int → Int} {n : Int} (h0 : 0 ≤ n) (h5 : n ≤ 5) (hz : ∀ p, n ≤ p → p < 5 → f p = 0) : sm f n = f 0 + f 1 + f 2 + f 3 + f 4 := by
  rcases (show n = 0 ∨ n = 1 ∨ n = 2 ∨ n = 3 ∨ n = 4 ∨ n = 5 by omega) with rfl | rfl | rfl | rfl | rfl | rfl
  · rw [hz 0 (by omega) (by omega), hz 1 (by omega) (by omega), hz 2 (by omega) (by omega), hz 3 (by omega) (by omega), hz 4 (by omega) (by omega)]; rfl
  · rw [hz 1 (by omega) (by omega), hz 2 (by omega) (by omega), hz 3 (by omega) (by omega), hz 4 (by omega) (by omega)]; show 0 + f 0 = _; omega
  · rw [hz 2 (by omega) (by omega), hz 3 (by omega) (by omega), hz 4 (by omega) (by omega)]; show 0 + f 0 + f 1 = _; omega
  · rw [hz 3 (by omega) (by omega), hz 4 (by omega) (by omega)]; show 0 + f 0 + f 1 + f 2 = _; omega
  · rw [hz 4 (by omega) (by omega)]; show 0 + f 0 + f 1 + f 2 + f 3 = _; omega
  · show 0 + f 0 + f 1 + f 2 + f 3 + f 4 = _; omega
