/-! what judging keeps, in the class -/
def JJ (M : Mem) (r t : Int) : Mem := JA M (8 * r + 149) (20 * M (8 * r + 148) 5 + 3 * t + 50) (M (20 * M (8 * r + 148) 5 + 48) 2)
theorem sl_at {M : Mem} {r t : Int} (t0 : 0 ≤ t) (t1 : t < 6) : sl M (6 * r + t) = M (8 * r + 155) t := by
  unfold sl
  rw [show (6 * r + t) / 6 = r by omega, show (6 * r + t) % 6 = t by omega, show 155 + 8 * r = 8 * r + 155 by omega]
/-- judging a run by a test leaves all the rest, and what is kept of it is right -/
theorem JG.dk {M M' : Mem} {r t p : Int} (r0 : 0 ≤ r) (p0 : 0 ≤ p) (t0 : 0 ≤ t) (t1 : t < 6) (hp : M (8 * r + 148) 5 = p) (hPG : PG M (8 * r + 149)) (hNU : NU M (20 * p + 3 * t + 50)) (h : JG M r t (8 * r + 149) (20 * p + 3 * t + 50) (M (20 * p + 48) 2) M') (p1 : p < 5) : DK M' r t := by
  obtain ⟨f, g1, g2, g3, g4, g5, g6, g7, g8, g9⟩ := h
  have e : ∀ o k, 48 ≤ o → o < 148 ∨ (8 * r + 148 ≤ o ∧ o ≤ 8 * r + 152) → M' o k = M o k := fun o k h1 h2 => f o k (by omega) (by omega)
  have e5 : M' (8 * r + 148) 5 = p := (e _ _ (by omega) (by omega)).trans hp
  unfold DK
  rw [e5, e (20 * p + 48) 2 (by omega) (by omega), JA_cong (M := M) (fun a k ha => e a k (by omega) (by omega))]
  refine ⟨hPG.cong (fun a k ha => e a k (by omega) (by omega)), hNU.cong (fun a k ha => e a k (by omega) (by omega)), ?_, g3, g4, g5, g6, g7, g8.1, g8.2⟩
  unfold JEa XPa at g2 ⊢
  rw [e (20 * p + 3 * t + 50) 3 (by omega) (by omega)]
  rcases g2 with a | ⟨a, ⟨b, c⟩, d⟩ | ⟨a, b, d⟩
  · exact Or.inl a
  · exact Or.inr (Or.inl ⟨a, ⟨b, fun k k0 k1 => by rw [e _ k (by omega) (by omega)]; exact c k k0 k1⟩, d⟩)
  · refine Or.inr (Or.inr ⟨a, fun w => b ⟨w.1, fun k k0 k1 => ?_⟩, d⟩)
    have := w.2 k k0 k1
    rw [e _ k (by omega) (by omega)] at this
    exact this
theorem DK.keep {M M' : Mem} {q u : Int} (h : DK M q u) (q0 : 0 ≤ q) (u0 : 0 ≤ u) (p0 : 0 ≤ M (8 * q + 148) 5) (p1 : M (8 * q + 148) 5 < 5) (u1 : u < 6)
    (e : ∀ o k, (48 ≤ o ∧ o < 148) ∨ (8 * q + 148 ≤ o ∧ o ≤ 8 * q + 152 ∧ ¬ (o = 8 * q + 148 ∧ 8 ≤ k)) ∨ (8 * q + 153 ≤ o ∧ o ≤ 8 * q + 155 ∧ k = u) → M' o k = M o k)
    (hk : M' 15 (M (8 * q + 155) u) = M 15 (M (8 * q + 155) u) ∧ ∀ k, 0 ≤ k → k < M 15 (M (8 * q + 155) u) → M' 14 (M (8 * q + 155) u * 6 + k) = M 14 (M (8 * q + 155) u * 6 + k)) : DK M' q u := by
  have e5 : M' (8 * q + 148) 5 = M (8 * q + 148) 5 := e _ _ (by omega)
  unfold DK at h ⊢
  rw [e5, e (20 * M (8 * q + 148) 5 + 48) 2 (by omega), JA_cong (M := M) (fun a k ha => e a k (by omega)), e (8 * q + 153) u (by omega), e (8 * q + 154) u (by omega), e (8 * q + 155) u (by omega)]
  obtain ⟨a1, a2, a3, a4, a5, a6, a7, a8, a9⟩ := h
  refine ⟨a1.cong (fun a k ha => e a k (by omega)), a2.cong (fun a k ha => e a k (by omega)), ?_, a4, a5, a6, a7, ⟨by rw [hk.1]; exact a8.1, fun k k0 k1 => ?_⟩, a9⟩
  · unfold JEa XPa at a3 ⊢
    have x3 := e (20 * M (8 * q + 148) 5 + 3 * u + 50) 3 (by omega)
    have x4 : ∀ k, M' (20 * M (8 * q + 148) 5 + 3 * u + 50 + 2) k = M (20 * M (8 * q + 148) 5 + 3 * u + 50 + 2) k := fun k => e _ k (by omega)
    simp only [x3, x4]
    exact a3
  · rw [hk.2 k k0 (by rw [a8.1]; exact k1)]
    exact a8.2 k k0 k1
theorem JG.oth {M M' : Mem} {r t pr nu lim q u : Int} (h : JG M r t pr nu lim M') (hd : DK M q u) (r0 : 0 ≤ r) (q0 : 0 ≤ q) (q1 : q < 40) (t0 : 0 ≤ t) (t1 : t < 6) (u0 : 0 ≤ u) (u1 : u < 6) (p0 : 0 ≤ M (8 * q + 148) 5) (p1 : M (8 * q + 148) 5 < 5) (hne : ¬ (q = r ∧ u = t)) : DK M' q u := by
  obtain ⟨f, g1, g2, g3, g4, g5, g6, g7, g8, g9⟩ := h
  refine hd.keep q0 u0 p0 p1 u1 (fun o k ho => f o k (by omega) (by omega)) ?_
  have h9 := g9 (6 * q + u) (by omega) (by omega) (by omega)
  rw [sl_at u0 u1] at h9
  exact h9 hd.2.2.2.2.2.1
/-- concluding a run changes only its verdict and its failed test -/
theorem DK.con {M : Mem} {q u r v w : Int} (hd : DK M q u) (r0 : 0 ≤ r) (q0 : 0 ≤ q) (u0 : 0 ≤ u) (u1 : u < 6) (p0 : 0 ≤ M (8 * q + 148) 5) (p1 : M (8 * q + 148) 5 < 5) : DK (up (up M (8 * r + 148) 8 v) (8 * r + 148) 9 w) q u :=
  hd.keep q0 u0 p0 p1 u1 (fun o k ho => by rw [up_n (by omega), up_n (by omega)]) ⟨by simp (disch := omega) only [up_o], fun k _ _ => by simp (disch := omega) only [up_o]⟩
theorem SI.con {M : Mem} {r v w e : Int} (h : SI M e) (r0 : 0 ≤ r) : SI (up (up M (8 * r + 148) 8 v) (8 * r + 148) 9 w) e := by
  have hs : ∀ j, 0 ≤ j → sl (up (up M (8 * r + 148) 8 v) (8 * r + 148) 9 w) j = sl M j := fun j j0 => by unfold sl; rw [up_o (by omega), up_o (by omega)]
  obtain ⟨h1, h2, h3, h4, h5⟩ := h
  unfold SI
  simp (disch := omega) only [up_o]
  refine ⟨fun s s0 s1 => ?_, h2, h3, h4, fun j j0 j1 => ?_⟩
  · rw [h1 s s0 s1]; exact cnt_congr (by omega) (fun j j0 j1 => by rw [hs j j0])
  · rw [hs j j0]; exact h5 j j0 j1
/-- a run is judged by all its tests -/
def JBA (M : Mem) (r n : Int) (M' : Mem) : Prop := (∀ o k, ¬ (10 ≤ o ∧ o ≤ 16) → ¬ (8 * r + 153 ≤ o ∧ o ≤ 8 * r + 155 ∧ 0 ≤ k ∧ k < n) → ¬ (o = 8 * r + 148 ∧ (k = 8 ∨ k = 9)) → M' o k = M o k) ∧ SI M' (-1) ∧ (∀ t, 0 ≤ t → t < n → DK M' r t) ∧
  (∀ q u, 0 ≤ q → q < 40 → 0 ≤ u → u < 6 → 0 ≤ M (8 * q + 148) 5 → M (8 * q + 148) 5 < 5 → q ≠ r → DK M q u → DK M' q u) ∧
  M' (8 * r + 148) 8 = VZ (fun q => M' (8 * r + 153) q) n ∧ M' (8 * r + 148) 9 = lst (fun q => M' (8 * r + 153) q ≠ 111) n
