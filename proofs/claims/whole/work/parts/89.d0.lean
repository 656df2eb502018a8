/-! what the calls ask of the coupling -/
section D0
variable {n : Int} {q : Int → List Int} {M M' : Mem}
theorem JJn.pgs (h : JJn n q M) : ∀ r, 0 ≤ r → r < M 0 12 → PG M (8 * r + 149) := fun r r0 r1 => by
  have c := h.cns.1
  exact (h.rns r r0 (by omega)).pg h.rb r0 (by omega)
theorem JJn.nus (h : JJn n q M) : ∀ p u, 0 ≤ p → p < M 0 10 → 0 ≤ u → u < M (20 * p + 48) 3 → NU M (20 * p + 3 * u + 50) := fun p u p0 p1 u0 u1 => by
  have c := h.cns.1
  have i0 := h.rb.rng
  have e := (h.prb p p0 (by omega)).1
  exact (h.tst p u p0 (by omega) u0 (by omega)).nu h.rb p0 (by omega) u0 (by omega)
theorem JJn.nu5 (h : JJn n q M) : NU M 5 := h.ty.nu h.rb
theorem JJn.pg1 (h : JJn n q M) : PG M 1 := h.ty.pg h.rb
theorem JJn.bs (h : JJn n q M) (hn : 0 ≤ n ∧ n ≤ 512) : ∀ c, 0 ≤ c → c < 4 → RAb M c (bM M q c) ∧ QS 50000 (bM M q c) := fun c c0 c1 => by
  obtain ⟨a, -, b, -⟩ := h.bqn hn.1 c0 c1
  exact ⟨a, b.mono (by omega)⟩
theorem JJn.bs9 (h : JJn n q M) (hn : 0 ≤ n ∧ n ≤ 512) : ∀ c, 0 ≤ c → c < 4 → RAb M c (bM M q c) ∧ QS 900000 (bM M q c) := fun c c0 c1 => by
  obtain ⟨a, -, b, -⟩ := h.bqn hn.1 c0 c1
  exact ⟨a, b.mono (by omega)⟩
theorem JJn.rbb (h : JJn n q M) (hn : 0 ≤ n ∧ n ≤ 512) (e : HI M M') {c : Int} (c0 : 0 ≤ c) (c1 : c < 4) : RBb M' c (bM M q c) ∧ QS (20 * n) (bM M q c) := by
  obtain ⟨-, a, b, -⟩ := h.bqn hn.1 c0 c1
  exact ⟨a.cong (e _ _ (by omega) (by omega) (by omega)) (e _ _ (by omega) (by omega) (by omega)) (e _ _ (by omega) (by omega) (by omega)) (fun o k ho => e _ _ (by omega) (by omega) (by omega)), b⟩
theorem JJn.rbs (h : JJn n q M) (hn : 0 ≤ n ∧ n ≤ 512) (e : HI M M') : ∀ c, 0 ≤ c → c < 4 → RBb M' c (bM M q c) ∧ QS 50000 (bM M q c) := fun c c0 c1 =>
  ⟨(h.rbb hn e c0 c1).1, (h.rbb hn e c0 c1).2.mono (by omega)⟩
theorem JJn.rbs9 (h : JJn n q M) (hn : 0 ≤ n ∧ n ≤ 512) (e : HI M M') : ∀ c, 0 ≤ c → c < 4 → RBb M' c (bM M q c) ∧ QS 1000000 (bM M q c) := fun c c0 c1 =>
  ⟨(h.rbb hn e c0 c1).1, (h.rbb hn e c0 c1).2.mono (by omega)⟩
theorem JJn.st (h : JJn n q M) (hn : 0 ≤ n ∧ n ≤ 512) (e : HI M M') : M' 468 34 ≤ 99900 := by
  have := h.bal.2.2.2.2.1
  rw [e _ _ (by omega) (by omega) (by omega)]
  omega
theorem JJn.s18 (h : JJn n q M) : ∀ x, 0 ≤ x → x < 40 → 0 ≤ M 18 x ∧ M 18 x < 65536 := fun x x0 x1 => by
  have := h.bal.1 x x0 x1
  omega
theorem JJn.qn (h : JJn n q M) (hn : 0 ≤ n ∧ n ≤ 512) {c : Int} (c0 : 0 ≤ c) (c1 : c < 4) : (q c).Nodup ∧ ∀ x ∈ q c, 0 ≤ x ∧ x < 40 := by
  obtain ⟨-, -, b, -⟩ := h.bqn hn.1 c0 c1
  exact ⟨b.1.1, fun x hx => ⟨(b.1.2 x hx).1, (b.1.2 x hx).2.1⟩⟩
theorem JJn.ea (h : JJn n q M) : EA M := fun t p t0 t1 p0 p1 => by
  have c := h.cns.1
  have i0 := h.rb.rng
  have e := h.bal.2.2.2.1 t p t0 (by omega) p0 (by omega)
  have s := h.cor.s29 h.b0 (t := t) (p := p) t0 (by omega) p0 (by omega)
  rw [show (27 : Int) + 2 = 29 by omega] at s
  exact e.trans s.symm
theorem JJn.nsl (h : JJn n q M) : ∀ c, 0 ≤ c → c < 4 → ¬ (0 < M 25 c ∧ 0 < M 24 c) := fun c c0 c1 => by
  obtain ⟨a1, a2, a3, a4, a5, a6, a7, a8, a9⟩ := h.bal.2.2.2.2.2 c c0 c1
  have := a1.1
  omega
theorem JJn.r13 (h : JJn n q M) : 0 ≤ M 1 3 ∧ M 1 3 ≤ 20 := by
  have i0 := h.rb.rng
  have := h.ty.1.1
  omega
theorem JJn.r52 (h : JJn n q M) : 0 ≤ M 5 2 ∧ M 5 2 ≤ 4 ∧ 0 ≤ M 5 3 ∧ M 5 3 ≤ 6 := by
  have i0 := h.rb.rng
  have := h.ty.1
  omega
theorem JJn.ordr (h : JJn n q M) : ∀ i, 0 ≤ i → i < M 0 11 → 0 ≤ M 40 i ∧ M 40 i < M 0 11 := fun i i0 i1 => by
  have := h.b1.2.2.1 i i0 i1
  rw [show (34 : Int) + 6 = 40 by omega] at this
  exact this
theorem JJn.gb (h : JJn n q M) (hn : 0 ≤ n ∧ n ≤ 512) (e : HI M M') : GB M' := by
  obtain ⟨a, b⟩ := h.rbb hn e (c := 0) (by omega) (by omega)
  exact a.gb (h.rb.hi e) b.2.2
end D0
