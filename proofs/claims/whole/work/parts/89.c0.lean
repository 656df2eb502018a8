/-! behind the constructors: the memory is that of a fresh pair -/
theorem M0_rg (o k : Int) : rg (M0i o k) := by
  unfold M0i
  repeat' split
  all_goals exact ⟨by omega, by omega⟩
theorem hp_of {g : GG} {H : Heap} (h : HV g 499 (VI g) H) : HP g M0i H := by
  refine ⟨fun o k _ => M0_rg o k, fun o h0 h1 => ?_⟩
  have h2 := h.2 o.toNat (by omega)
  have e : ((o.toNat : Nat) : Int) = o := Int.toNat_of_nonneg h0
  unfold VI at h2
  rw [e] at h2
  exact h2
/-- the kinds that hold no value but 0 at a place -/
theorem M0_0 {o k : Int} (h1 : o ≠ 18) (h2 : ¬ (148 ≤ o ∧ o < 468 ∧ o % 8 = 3)) (h3 : k ≠ 2 ∧ k ≠ 8 ∧ k ≠ 9 ∧ k ≠ 6 ∧ k ≠ 13 ∧ k ≠ 36) : M0i o k = 0 := by
  unfold M0i
  rw [if_neg h1, if_neg h2, if_neg (by omega), if_neg (by omega), if_neg (by omega), if_neg (by omega), if_neg (by omega), if_neg (by omega)]
theorem M0_c {o k : Int} (h1 : o ≠ 18) (h2 : ¬ (148 ≤ o ∧ o < 468 ∧ o % 8 = 3)) (h3 : (kd o).1 ≠ 4 ∧ (kd o).1 ≠ 6 ∧ (kd o).1 ≠ 2) (h4 : o ≠ 0 ∧ o ≠ 468) : M0i o k = 0 := by
  unfold M0i
  rw [if_neg h1, if_neg h2, if_neg (by omega), if_neg (by omega), if_neg (by omega), if_neg (by omega), if_neg (by omega), if_neg (by omega)]
theorem M0_18 (k : Int) : M0i 18 k = 45 := rfl
theorem M0_sl {o k : Int} (h : 148 ≤ o ∧ o < 468 ∧ o % 8 = 3) : M0i o k = -1 := by
  unfold M0i
  rw [if_neg (by omega), if_pos h]
theorem kd_r : ∀ o : Int, 13 ≤ o → o ≤ 26 → (kd o).1 ≠ 4 ∧ (kd o).1 ≠ 6 ∧ (kd o).1 ≠ 2 := by
  intro o h1 h2
  have h : ∀ n, n < 27 → 13 ≤ n → (kdN n).1 ≠ 4 ∧ (kdN n).1 ≠ 6 ∧ (kdN n).1 ≠ 2 := by decide +kernel
  exact h o.toNat (by omega) (by omega)
theorem kd_m : ∀ o : Int, 469 ≤ o → o ≤ 496 → (kd o).1 ≠ 4 ∧ (kd o).1 ≠ 6 ∧ (kd o).1 ≠ 2 := by
  intro o h1 h2
  have h : ∀ n, n < 497 → 469 ≤ n → (kdN n).1 ≠ 4 ∧ (kdN n).1 ≠ 6 ∧ (kdN n).1 ≠ 2 := by decide +kernel
  exact h o.toNat (by omega) (by omega)
theorem M0_b {o k : Int} (h0 : 13 ≤ o) (h1 : o ≤ 26) (h2 : o ≠ 18) : M0i o k = 0 := M0_c h2 (by omega) (kd_r o h0 h1) (by omega)
theorem M0_m {o k : Int} (h0 : 469 ≤ o) (h1 : o ≤ 496) : M0i o k = 0 := M0_c (by omega) (by omega) (kd_m o h0 h1) (by omega)
theorem jj0 : JJn 0 (fun _ => []) M0i := by
  have e11 : M0i 0 11 = 0 := rfl
  have e10 : M0i 0 10 = 0 := rfl
  have e12 : M0i 0 12 = 0 := rfl
  have e13 : M0i 0 13 = 1000 := rfl
  have f1 : M0i 468 1 = 0 := rfl
  have f5 : M0i 468 5 = 0 := rfl
  have f6 : M0i 468 6 = 0 := rfl
  have f9 : M0i 468 9 = 0 := rfl
  have f17 : M0i 468 17 = 0 := rfl
  have f18 : M0i 468 18 = 0 := rfl
  have f34 : M0i 468 34 = 0 := rfl
  have f35 : M0i 468 35 = 0 := rfl
  have f36 : M0i 468 36 = -1 := rfl
  have slM : ∀ j, 0 ≤ j → j < 240 → sl M0i j = -1 := fun j j0 j1 => by
    unfold sl
    exact M0_sl (by omega)
  refine ⟨⟨?_, ?_, ?_, ?_⟩, ⟨?_, ?_⟩, ⟨?_, ?_, ?_, ?_, ?_, ?_⟩, ?_⟩
  · refine ⟨by omega, fun p p0 p1 => by omega, fun r r0 r1 => by omega, fun r t r0 r1 => by omega, fun p t p0 p1 => by omega, fun k k0 k1 => by omega, fun r k r0 r1 => by omega, fun t p t0 t1 => by omega, fun r q r0 rq q1 => by omega, fun r r0 r1 => ⟨Or.inl (M0_m (by omega) (by omega)), fun _ => M0_m (by omega) (by omega)⟩, by omega, by omega, fun t p t0 t1 => by omega⟩
  · exact ⟨by omega, fun r r0 r1 => by omega, fun p p0 p1 => by omega⟩
  · have z16 : ∀ s, M0i 16 s = 0 := fun s => M0_b (by omega) (by omega) (by omega)
    refine ⟨fun s s0 s1 => ?_, ?_, fun s q s0 s1 q0 q1 h => ?_, fun s s0 s1 h => ?_, fun j j0 j1 => Or.inl (slM j j0 j1)⟩
    · rw [z16, cnt_none (by omega)]
      intro j j0 j1 h
      have := slM j j0 j1
      omega
    · rw [M0_b (by omega) (by omega) (by omega), cnt_none (by omega)]
      intro s s0 s1 h
      rw [z16] at h
      omega
    · rw [z16] at h; omega
    · rw [z16] at h; omega
  · intro r t r0 r1; omega
  · exact ⟨rfl, fun h => by omega, fun i i0 i1 => by omega, fun i j i0 ij j1 => by omega, fun t t0 t1 => by omega⟩
  · exact ⟨rfl, fun h => by omega, fun i i0 i1 => by omega, fun i j i0 ij j1 => by omega, fun t t0 t1 => by omega⟩
  · exact ⟨⟨rfl, rfl, rfl⟩, Or.inl ⟨rfl, rfl, fun r r0 r1 => M0_m (by omega) (by omega)⟩⟩
  · exact ⟨⟨rfl, rfl, rfl⟩, fun k k0 k1 => by omega, fun k k0 k1 => by omega, fun k k0 k1 => by omega⟩
  · intro p p0 p1
    have e : M0i 476 p = 0 := M0_m (by omega) (by omega)
    exact ⟨by rw [e, M0_0 (by omega) (by omega) (by omega)], fun h => by omega, fun _ => e⟩
  · intro p t p0 p1; omega
  · intro r r0 r1; omega
  · intro r t r0 r1 t0 t1 _
    exact M0_sl (by omega)
  · refine ⟨fun x x0 x1 => Or.inl (M0_18 x), fun x x0 x1 _ => M0_18 x, fun x x0 x1 => by omega, fun t p t0 t1 => by omega, ⟨rfl, by decide, by decide, by decide⟩, fun c c0 c1 => ⟨⟨?_, fun k x h => by simp at h⟩, ⟨fun x => ?_, List.Pairwise.nil⟩, List.nodup_nil, ?_, ?_, ?_, ?_, ?_, Or.inl rfl⟩⟩
    · rw [M0_b (by omega) (by omega) (by omega)]; rfl
    · constructor
      · intro h; cases h
      · rintro ⟨a, b, -⟩; omega
    · rw [M0_m (by omega) (by omega), M0_b (by omega) (by omega) (by omega)]
    · rw [M0_b (by omega) (by omega) (by omega)]; omega
    · rw [M0_b (by omega) (by omega) (by omega)]; omega
    · rw [M0_b (by omega) (by omega) (by omega), M0_b (by omega) (by omega) (by omega)]; omega
    · rw [M0_b (by omega) (by omega) (by omega), cnt_none (by omega)]
      rintro x x0 x1 ⟨h, -⟩
      rw [M0_18] at h
      omega
