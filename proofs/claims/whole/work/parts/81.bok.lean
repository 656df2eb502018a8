section BF
variable {tm pb mn tm' pb' mn' : Int → Int} {vs ac vs' ac' : Int → Prop} {n : Int}
theorem gF_fun {t p : Int} (n0 : 0 ≤ n) (e : ∀ r, 0 ≤ r → r < n → tm r = tm' r ∧ pb r = pb' r ∧ mn r = mn' r ∧ (vs r ↔ vs' r) ∧ (ac r ↔ ac' r)) : gF tm pb vs ac t p n = gF tm' pb' vs' ac' t p n :=
  lst_congr n0 (fun z z0 z1 => by obtain ⟨a, b, c, d, f⟩ := e z z0 z1; rw [a, b, d, f])
theorem gC_fun {t p : Int} (n0 : 0 ≤ n) (e : ∀ r, 0 ≤ r → r < n → tm r = tm' r ∧ pb r = pb' r ∧ mn r = mn' r ∧ (vs r ↔ vs' r) ∧ (ac r ↔ ac' r)) : gC tm pb vs t p n = gC tm' pb' vs' t p n :=
  cnt_congr n0 (fun z z0 z1 => by obtain ⟨a, b, c, d, f⟩ := e z z0 z1; rw [a, b, d])
theorem BI.fun {M : Mem} {o : Int} (h : BI M o tm pb mn vs ac n) (n0 : 0 ≤ n) (e : ∀ r, 0 ≤ r → r < n → tm r = tm' r ∧ pb r = pb' r ∧ mn r = mn' r ∧ (vs r ↔ vs' r) ∧ (ac r ↔ ac' r)) : BI M o tm' pb' mn' vs' ac' n := by
  intro t t0 t1
  obtain ⟨h1, h2, h3, h4⟩ := h t t0 t1
  have hF : ∀ p, gF tm pb vs ac t p n = gF tm' pb' vs' ac' t p n := fun p => gF_fun n0 e
  have hr : ∀ p, gF tm' pb' vs' ac' t p n = -1 ∨ (0 ≤ gF tm' pb' vs' ac' t p n ∧ gF tm' pb' vs' ac' t p n < n) := fun p => gF_rng n0
  have hC : ∀ p m, 0 ≤ m → m ≤ n → gC tm pb vs t p m = gC tm' pb' vs' t p m := fun p m m0 m1 => gC_fun m0 (fun r r0 r1 => e r r0 (by omega))
  refine ⟨fun p p0 p1 => ?_, ?_, ?_, ?_⟩
  · obtain ⟨a, b⟩ := h1 p p0 p1
    rw [a, b, hF p]
    rcases hr p with w | w
    · rw [if_pos w, if_pos w, if_pos w]
      exact ⟨rfl, hC p n n0 (Int.le_refl _)⟩
    · rw [if_neg (by omega), if_neg (by omega), if_neg (by omega)]
      exact ⟨(e _ w.1 w.2).2.2.1, hC p _ w.1 (by omega)⟩
  · rw [h2]
    exact s5_same (fun p _ _ => by unfold gS; rw [hF p])
  · rw [h3]
    refine s5_same (fun p _ _ => ?_)
    unfold gP
    rw [hF p]
    rcases hr p with w | w
    · rw [if_pos w, if_pos w]
    · rw [if_neg (by omega), if_neg (by omega), (e _ w.1 w.2).2.2.1, hC p _ w.1 (by omega)]
  · rw [h4]
    refine m5_same (fun p _ _ => ?_)
    unfold gM
    rw [hF p]
    rcases hr p with w | w
    · rw [if_pos w, if_pos w]
    · rw [if_neg (by omega), if_neg (by omega), (e _ w.1 w.2).2.2.1]
end BF
theorem ORD.inj {M : Mem} {o k i j : Int} (h : ORD M o k) (i0 : 0 ≤ i) (i1 : i < k) (j0 : 0 ≤ j) (j1 : j < k) (e : M (o + 6) i = M (o + 6) j) : i = j := by
  rcases Int.lt_trichotomy i j with w | w | w
  · have := h.2.1 i j i0 w j1
    rw [e] at this
    exact absurd this (AHa.asym this)
  · exact w
  · have := h.2.1 j i j0 w i1
    rw [e] at this
    exact absurd this (AHa.asym this)
theorem ORD.uniq {M : Mem} {o q k : Int} (h1 : ORD M o k) (h2 : ORD M q k) (ha : ∀ a b, 0 ≤ a → a < k → 0 ≤ b → b < k → (AHa M o a b ↔ AHa M q a b)) : ∀ n : Nat, ∀ i : Int, 0 ≤ i → i < k → i < n → M (o + 6) i = M (q + 6) i := by
  intro n
  induction n with
  | zero => intro i _ _ _; omega
  | succ n ih =>
    intro i i0 i1 i2
    have r1 := h1.1 i i0 i1
    have r2 := h2.1 i i0 i1
    refine Classical.byContradiction fun hne => ?_
    obtain ⟨a, a0, a1, a2⟩ := h2.2.2 (M (o + 6) i) r1.1 r1.2
    obtain ⟨b, b0, b1, b2⟩ := h1.2.2 (M (q + 6) i) r2.1 r2.2
    have ga : i < a := by
      rcases Int.lt_trichotomy a i with w | w | w
      · have e := ih a a0 a1 (by omega)
        rw [a2] at e
        have := h1.inj a0 a1 i0 i1 e
        omega
      · rw [w] at a2; exact absurd a2.symm hne
      · exact w
    have gb : i < b := by
      rcases Int.lt_trichotomy b i with w | w | w
      · have e := ih b b0 b1 (by omega)
        rw [b2] at e
        have := h2.inj i0 i1 b0 b1 e
        omega
      · rw [w] at b2; exact absurd b2 hne
      · exact w
    have x1 := h2.2.1 i a i0 ga a1
    have x2 := h1.2.1 i b i0 gb b1
    rw [a2] at x1
    rw [b2] at x2
    exact AHa.asym x2 ((ha _ _ r2.1 r2.2 r1.1 r1.2).mpr x1)
/-- a board is that of the runs as they stand -/
def BOK (M : Mem) (o b : Int) : Prop := M o 6 = M 0 11 ∧ (0 < M 0 11 → BI M o (aT M) (aB M) (aM M) (aV M b) (aA M) (M 0 12)) ∧ ORD M o (M 0 11)
theorem ORD.cong {M M' : Mem} {o k : Int} (h : ORD M o k) (e : ∀ a j, o ≤ a ∧ a ≤ o + 6 → M' a j = M a j) : ORD M' o k := by
  obtain ⟨h1, h2, h3⟩ := h
  refine ⟨fun i i0 i1 => by rw [e _ _ (by omega)]; exact h1 i i0 i1, fun i j i0 ij j1 => ?_, fun t t0 t1 => ?_⟩
  · rw [e _ _ (by omega), e _ _ (by omega)]
    exact (AHa.cong (fun q k hq => e q k (by omega))).mpr (h2 i j i0 ij j1)
  · obtain ⟨i, i0, i1, i2⟩ := h3 t t0 t1
    exact ⟨i, i0, i1, by rw [e _ _ (by omega)]; exact i2⟩
/-- what boards read of the runs is the same -/
def RSM (M M' : Mem) : Prop := M' 0 11 = M 0 11 ∧ M' 0 12 = M 0 12 ∧ ∀ r k, 0 ≤ r → r < M 0 12 → 4 ≤ k → k ≤ 8 → M' (8 * r + 148) k = M (8 * r + 148) k
theorem RSM.fns {M M' : Mem} (h : RSM M M') (b : Int) : ∀ r, 0 ≤ r → r < M 0 12 → aT M r = aT M' r ∧ aB M r = aB M' r ∧ aM M r = aM M' r ∧ (aV M b r ↔ aV M' b r) ∧ (aA M r ↔ aA M' r) := by
  intro r r0 r1
  obtain ⟨-, -, f⟩ := h
  unfold aT aB aM aV aA
  rw [f r 4 r0 r1 (by omega) (by omega), f r 5 r0 r1 (by omega) (by omega), f r 6 r0 r1 (by omega) (by omega), f r 7 r0 r1 (by omega) (by omega), f r 8 r0 r1 (by omega) (by omega)]
  exact ⟨rfl, rfl, rfl, Iff.rfl, Iff.rfl⟩
theorem BOK.cong {M M' : Mem} {o b : Int} (h : BOK M o b) (n0 : 0 ≤ M 0 12) (e : ∀ a j, o ≤ a ∧ a ≤ o + 6 → M' a j = M a j) (hr : RSM M M') : BOK M' o b := by
  obtain ⟨h1, h2, h3⟩ := h
  refine ⟨by rw [e _ _ (by omega), hr.1]; exact h1, fun hT => ?_, by rw [hr.1]; exact h3.cong e⟩
  rw [hr.1] at hT
  rw [hr.2.1]
  exact ((h2 hT).cong (fun a k ha => e a k (by omega))).fun n0 (hr.fns b)
theorem RC.bok {M M' : Mem} {o b : Int} (h : RC M o (M 0 12) (M 0 11) b M') (n0 : 0 ≤ M 0 12) (ho : 17 < o ∧ o ≤ 41) : BOK M' o b := by
  obtain ⟨f, h1, h2, h3⟩ := h
  have hr : RSM M M' := ⟨f _ _ (by omega), f _ _ (by omega), fun r k r0 r1 k0 k1 => f _ _ (by omega)⟩
  refine ⟨by rw [h1, hr.1], fun _ => ?_, by rw [hr.1]; exact h3⟩
  rw [hr.2.1]
  exact h2.fun n0 (hr.fns b)
theorem BOK.like {M : Mem} {o q b : Int} (h1 : BOK M o b) (h2 : BOK M q b) (hT : M 0 11 ≤ 8) : LIK M o q := by
  have e : ∀ t, 0 ≤ t → t < M 0 11 → M (o + 3) t = M (q + 3) t ∧ M (o + 4) t = M (q + 4) t ∧ M (o + 5) t = M (q + 5) t := fun t t0 t1 => by
    obtain ⟨-, a2, a3, a4⟩ := h1.2.1 (by omega) t t0 (by omega)
    obtain ⟨-, b2, b3, b4⟩ := h2.2.1 (by omega) t t0 (by omega)
    exact ⟨a2.trans b2.symm, a3.trans b3.symm, a4.trans b4.symm⟩
  refine ⟨h1.1.trans h2.1.symm, fun i i0 i1 => ?_⟩
  rw [h1.1] at i1
  refine ⟨h1.2.2.uniq h2.2.2 (fun a c a0 a1 c0 c1 => ?_) (i + 1).toNat i i0 i1 (by omega), (e i i0 (by omega)).1, (e i i0 (by omega)).2.1⟩
  unfold AHa
  obtain ⟨x1, x2, x3⟩ := e a a0 (by omega)
  obtain ⟨y1, y2, y3⟩ := e c c0 (by omega)
  rw [x1, x2, x3, y1, y2, y3]
