/-! boards, ranks, what is pending: alike -/
section J2
variable {n : Int} {q : Int → List Int} {M : Mem}
theorem JJn.fst (h : JJn n q M) {b t p m : Int} (m0 : 0 ≤ m) (m1 : m ≤ M 468 18) : gF (aT M) (aB M) (aV M b) (aA M) t p m = fstR M b t p m :=
  lst_congr m0 (fun r r0 r1 => by
    obtain ⟨⟨x1, x2, x3⟩, x4, -⟩ := h.rns r r0 (by omega)
    show (M (8 * r + 148) 4 = t ∧ M (8 * r + 148) 5 = p ∧ ¬ (b ≠ 0 ∧ M (8 * r + 148) 7 ≠ 0) ∧ M (8 * r + 148) 8 = 97) ↔ (M 481 r = t ∧ M 482 r = p ∧ ¬ (b ≠ 0 ∧ Pnd M r) ∧ Acc M r)
    rw [x1, x2, x4, h.acc r0 (by omega)])
theorem JJn.gct (h : JJn n q M) {b t p m : Int} (m0 : 0 ≤ m) (m1 : m ≤ M 468 18) : gC (aT M) (aB M) (aV M b) t p m = cnt (fun r => M 481 r = t ∧ M 482 r = p ∧ Vis M b r) m :=
  cnt_congr m0 (fun r r0 r1 => by
    obtain ⟨⟨x1, x2, x3⟩, x4, -⟩ := h.rns r r0 (by omega)
    show (M (8 * r + 148) 4 = t ∧ M (8 * r + 148) 5 = p ∧ ¬ (b ≠ 0 ∧ M (8 * r + 148) 7 ≠ 0)) ↔ (M 481 r = t ∧ M 482 r = p ∧ ¬ (b ≠ 0 ∧ Pnd M r))
    rw [x1, x2, x4])
theorem JJn.fno (h : JJn n q M) {b t p m : Int} (m0 : 0 ≤ m) (m1 : m ≤ M 468 18) (hp : M 468 9 ≤ p) : fstR M b t p m = -1 :=
  lst_eq m0 (Or.inl ⟨rfl, fun r r0 r1 w => by have := (h.run r0 (by omega)).2.1.2; have := w.2.1; omega⟩)
theorem fstR_rng {b t p m : Int} (m0 : 0 ≤ m) : fstR M b t p m = -1 ∨ (0 ≤ fstR M b t p m ∧ fstR M b t p m < m) := lst_range _ m0
theorem JJn.bgS (h : JJn n q M) {b t p : Int} : gS (aT M) (aB M) (aV M b) (aA M) t p (M 468 18) = sol1 M b t p (M 468 18) := by
  have i0 := h.rb.rng
  unfold gS sol1
  rw [h.fst (by omega) (Int.le_refl _)]
theorem JJn.bgP (h : JJn n q M) {b t p : Int} : gP (aT M) (aB M) (aM M) (aV M b) (aA M) t p (M 468 18) = penR M b t p (M 468 18) := by
  have i0 := h.rb.rng
  unfold gP penR
  rw [h.fst (by omega) (Int.le_refl _)]
  rcases fstR_rng (M := M) (b := b) (t := t) (p := p) (m := M 468 18) (by omega) with e | e
  · rw [if_pos e, if_pos e]
  · rw [if_neg (by omega), if_neg (by omega), h.gct e.1 (by omega)]
    have x := (h.rns _ e.1 e.2).1.2.2
    show M (8 * fstR M b t p (M 468 18) + 148) 6 + _ = _
    rw [x]
theorem JJn.bgM (h : JJn n q M) {b t p : Int} : gM (aT M) (aB M) (aM M) (aV M b) (aA M) t p (M 468 18) = if fstR M b t p (M 468 18) = -1 then 0 else M 483 (fstR M b t p (M 468 18)) := by
  have i0 := h.rb.rng
  unfold gM
  rw [h.fst (by omega) (Int.le_refl _)]
  rcases fstR_rng (M := M) (b := b) (t := t) (p := p) (m := M 468 18) (by omega) with e | e
  · rw [if_pos e, if_pos e]
  · rw [if_neg (by omega), if_neg (by omega)]
    exact (h.rns _ e.1 e.2).1.2.2
theorem JJn.sol (h : JJn n q M) {o b t : Int} (hB : BOK M o b) (t0 : 0 ≤ t) (t1 : t < M 468 17) : M (o + 3) t = solR M b t (M 468 18) := by
  have i0 := h.rb.rng
  have c := h.cns.1
  have e := (hB.2.1 (by omega) t t0 (by omega)).2.1
  rw [c.2.2] at e
  rw [e]
  unfold solR s5
  rw [sm_5 (by omega) (by omega) (fun p p0 p1 => by show sol1 M b t p _ = 0; unfold sol1; rw [h.fno (by omega) (Int.le_refl _) p0, if_pos rfl])]
  simp only [h.bgS]
theorem JJn.pen (h : JJn n q M) {o b t : Int} (hB : BOK M o b) (t0 : 0 ≤ t) (t1 : t < M 468 17) : M (o + 4) t = penS M b t (M 468 18) := by
  have i0 := h.rb.rng
  have c := h.cns.1
  have e := (hB.2.1 (by omega) t t0 (by omega)).2.2.1
  rw [c.2.2] at e
  rw [e]
  unfold penS s5
  rw [sm_5 (by omega) (by omega) (fun p p0 p1 => by show penR M b t p _ = 0; unfold penR; rw [h.fno (by omega) (Int.le_refl _) p0, if_pos rfl])]
  simp only [h.bgP]
theorem latN_s (h : JJn n q M) {b t : Int} (k : Nat) : 0 ≤ latN M b t (M 468 18) k ∧ latN M b t (M 468 18) (k + 1) = max (latN M b t (M 468 18) k) (if fstR M b t k (M 468 18) = -1 then 0 else M 483 (fstR M b t k (M 468 18))) := by
  have i0 := h.rb.rng
  have h0 : ∀ k : Nat, 0 ≤ latN M b t (M 468 18) k := by
    intro k
    induction k with
    | zero => exact Int.le_refl 0
    | succ k ih =>
      simp only [latN]
      split
      · exact ih
      · exact Int.le_trans ih (Int.le_max_left _ _)
  refine ⟨h0 k, ?_⟩
  have := h0 k
  simp only [latN]
  split
  · rw [Int.max_eq_left this]
  · rfl
theorem JJn.lat (h : JJn n q M) {o b t : Int} (hB : BOK M o b) (t0 : 0 ≤ t) (t1 : t < M 468 17) : M (o + 5) t = latR M b t (M 468 18) := by
  have i0 := h.rb.rng
  have c := h.cns.1
  have e := (hB.2.1 (by omega) t t0 (by omega)).2.2.2
  rw [c.2.2] at e
  rw [e]
  unfold latR m5
  simp only [h.bgM]
  have z : ∀ p, M 468 9 ≤ p → (if fstR M b t p (M 468 18) = -1 then 0 else M 483 (fstR M b t p (M 468 18))) = 0 := fun p p0 => by rw [h.fno (by omega) (Int.le_refl _) p0, if_pos rfl]
  have f0 : ∀ p, 0 ≤ (if fstR M b t p (M 468 18) = -1 then 0 else M 483 (fstR M b t p (M 468 18))) := fun p => by
    rcases fstR_rng (M := M) (b := b) (t := t) (p := p) (m := M 468 18) (by omega) with e | e
    · rw [if_pos e]; omega
    · rw [if_neg (by omega)]
      have := h.rb.run _ e.1 e.2
      omega
  have l0 : latN M b t (M 468 18) 0 = 0 := rfl
  have l1 := (latN_s h (b := b) (t := t) 0).2
  have l2 := (latN_s h (b := b) (t := t) 1).2
  have l3 := (latN_s h (b := b) (t := t) 2).2
  have l4 := (latN_s h (b := b) (t := t) 3).2
  have l5 := (latN_s h (b := b) (t := t) 4).2
  have f00 := f0 0
  have f01 := f0 1
  have f02 := f0 2
  have f03 := f0 3
  have f04 := f0 4
  have z0 := z 0
  have z1 := z 1
  have z2 := z 2
  have z3 := z 3
  have z4 := z 4
  simp only [Int.natCast_zero, Int.natCast_one, show ((2 : Nat) : Int) = 2 from rfl, show ((3 : Nat) : Int) = 3 from rfl, show ((4 : Nat) : Int) = 4 from rfl, show (0 : Nat) + 1 = 1 from rfl, show (1 : Nat) + 1 = 2 from rfl, show (2 : Nat) + 1 = 3 from rfl, show (3 : Nat) + 1 = 4 from rfl, show (4 : Nat) + 1 = 5 from rfl] at l1 l2 l3 l4 l5
  generalize (if fstR M b t 0 (M 468 18) = -1 then 0 else M 483 (fstR M b t 0 (M 468 18))) = g0 at *
  generalize (if fstR M b t 1 (M 468 18) = -1 then 0 else M 483 (fstR M b t 1 (M 468 18))) = g1 at *
  generalize (if fstR M b t 2 (M 468 18) = -1 then 0 else M 483 (fstR M b t 2 (M 468 18))) = g2 at *
  generalize (if fstR M b t 3 (M 468 18) = -1 then 0 else M 483 (fstR M b t 3 (M 468 18))) = g3 at *
  generalize (if fstR M b t 4 (M 468 18) = -1 then 0 else M 483 (fstR M b t 4 (M 468 18))) = g4 at *
  rcases (show (M 468 9).toNat = 0 ∨ (M 468 9).toNat = 1 ∨ (M 468 9).toNat = 2 ∨ (M 468 9).toNat = 3 ∨ (M 468 9).toNat = 4 ∨ (M 468 9).toNat = 5 by omega) with w | w | w | w | w | w <;> rw [w] <;> omega
theorem JJn.ahd (h : JJn n q M) {o b x y : Int} (hB : BOK M o b) (x0 : 0 ≤ x) (x1 : x < M 468 17) (y0 : 0 ≤ y) (y1 : y < M 468 17) : AHa M o x y ↔ Ahd M b x y := by
  unfold AHa Ahd
  rw [h.sol hB x0 x1, h.sol hB y0 y1, h.pen hB x0 x1, h.pen hB y0 y1, h.lat hB x0 x1, h.lat hB y0 y1]
theorem cnt_all {P : Int → Prop} {n : Int} (hn : 0 ≤ n) (h : ∀ z, 0 ≤ z → z < n → P z) : cnt P n = n := by
  refine int_ind (C := fun k => k ≤ n → cnt P k = k) n hn (fun _ => cnt_0 _) (fun z h0 h1 ih hz => ?_) (Int.le_refl _)
  rw [cnt_t h0 (h z h0 h1), ih (by omega)]
/-- a team's rank is its place -/
theorem JJn.rnk (h : JJn n q M) {o b i t : Int} (hB : BOK M o b) (i0 : 0 ≤ i) (i1 : i < M 468 17) (hi : M (o + 6) i = t) : cnt (fun x => x ≠ t ∧ Ahd M b x t) (M 468 17) = i := by
  have r0 := h.rb.rng
  have c := h.cns.1
  obtain ⟨o1, o2, o3⟩ := hB.2.2
  have hO := hB.2.2
  rw [c.2.1] at o1 o2 o3 hO
  have ht := o1 i i0 i1
  rw [hi] at ht
  have e := firsts (fun j => M (o + 6) j) (fun _ => True) (n := i) (m := M 468 17) i0 (by omega) (fun j j0 j1 _ => o1 j j0 (by omega))
  rw [cnt_all i0 (fun z z0 z1 => ⟨trivial, fun j j0 j1 _ w => by have := hO.inj j0 (by omega) z0 (by omega) w; omega⟩)] at e
  refine Eq.trans (cnt_congr (by omega) (fun x x0 x1 => ?_)) e.symm
  constructor
  · rintro ⟨hx, ha⟩
    obtain ⟨j, j0, j1, hj⟩ := o3 x x0 x1
    refine ⟨j, j0, ?_, trivial, hj⟩
    rcases Int.lt_trichotomy j i with w | w | w
    · exact w
    · rw [w, hi] at hj; exact absurd hj.symm hx
    · have := o2 i j i0 w j1
      rw [hi, hj] at this
      exact absurd ((h.ahd hB x0 (by omega) ht.1 (by omega)).mpr ha) (AHa.asym this)
  · rintro ⟨j, j0, j1, -, hj⟩
    have a := o2 j i j0 j1 i1
    change M (o + 6) j = x at hj
    rw [hj, hi] at a
    exact ⟨fun w => by rw [w] at a; exact AHa.asym a a, (h.ahd hB x0 (by omega) ht.1 (by omega)).mp a⟩
theorem JJn.pn (h : JJn n q M) {t p : Int} : cpn M t p = pnd M t p := by
  have i0 := h.rb.rng
  have c := h.cns.1
  unfold cpn pnd
  rw [c.2.2]
  refine cnt_congr (by omega) (fun r r0 r1 => ?_)
  obtain ⟨⟨x1, x2, x3⟩, x4, -⟩ := h.rns r r0 r1
  rw [x1, x2, x4]
  constructor
  · rintro ⟨a, b, d⟩; exact ⟨b, d, a⟩
  · rintro ⟨a, b, d⟩; exact ⟨d, a, b⟩
theorem JJn.pin (h : JJn n q M) {t : Int} : cpi M t = PIn M t := by
  have i0 := h.rb.rng
  have c := h.cns.1
  unfold cpi PIn
  rw [c.1]
  exact lst_congr (by omega) (fun p p0 p1 => by rw [h.pn])
end J2
