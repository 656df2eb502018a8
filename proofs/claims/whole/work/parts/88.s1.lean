theorem s_tests {n : Int} {q : Int → List Int} {M : Mem} (h : JJn n q M) (hn : 0 ≤ n ∧ n ≤ 512) (p : Int) (hp : rg p) {kw : Int} {Mw : Mem} (hw : (kw = 0 ∧ ∃ z Mc, (Mc = M ∧ (0 ≤ p ∧ p < M 0 10 ∧ z = M (20 * p + 48) 3)) ∧ Mw = up Mc 497 0 (wr z)) ∨ (kw = 1 ∧ (p < 0 ∨ M 0 10 ≤ p) ∧ Mw = M)) : HI M Mw ∧ ∀ (zr : Int) (M9 : Mem), (∃ cd, M9 = up Mw 468 0 cd ∧ ((cd = 1 ∧ (p < 0 ∨ Mw 468 9 ≤ p)) ∨ (cd = 0 ∧ 0 ≤ p ∧ p < Mw 468 9 ∧ zr = (Mw 476 (p))))) → M9 468 0 = kw ∧ (kw = 0 → Mw 497 0 = wr zr) ∧ ∃ q2, JJn (n + 1) q2 M9 := by
  have c0 := h.cns.1
  have i0 := h.rb.rng
  rcases hw with ⟨hk, z, Mc, ⟨hMc, hq⟩, hMw⟩ | ⟨hk, hc, hMw⟩
  · have e0 := hMc.symm
    subst e0
    have e0 := hMw.symm
    subst e0
    refine ⟨fun o k a b d => up_o (by omega), ?_⟩
    rintro zr M2 ⟨cd, rfl, hr⟩
    have hJ := h.ro (wr z)
    try simp (disch := omega) only [up_o] at hr
    have e := (h.prb p (by omega) (by omega)).1
    refine ⟨by rw [up_s]; omega, fun _ => ?_, q, hJ.code cd⟩
    rw [up_s, show z = zr by omega]
  · have e0 := hMw.symm
    subst e0
    refine ⟨fun _ _ _ _ _ => rfl, ?_⟩
    rintro zr M2 ⟨cd, rfl, hr⟩
    refine ⟨by rw [up_s]; omega, fun w => by omega, q, h.code cd⟩
theorem s_verdict {n : Int} {q : Int → List Int} {M : Mem} (h : JJn n q M) (hn : 0 ≤ n ∧ n ≤ 512) (r : Int) (hr : rg r) {kw : Int} {Mw : Mem} (hw : (kw = 0 ∧ ∃ z Mc, (Mc = M ∧ (0 ≤ r ∧ r < M 0 12 ∧ z = M (8 * r + 148) 8)) ∧ Mw = up Mc 497 0 (wr z)) ∨ (kw = 1 ∧ (r < 0 ∨ M 0 12 ≤ r) ∧ Mw = M)) : HI M Mw ∧ ∀ (zr : Int) (M9 : Mem), (∃ cd, M9 = up Mw 468 0 cd ∧ ((cd = 1 ∧ (r < 0 ∨ Mw 468 18 ≤ r)) ∨ (cd = 0 ∧ 0 ≤ r ∧ r < Mw 468 18 ∧ zr = vz Mw r))) → M9 468 0 = kw ∧ (kw = 0 → Mw 497 0 = wr zr) ∧ ∃ q2, JJn (n + 1) q2 M9 := by
  have c0 := h.cns.1
  have i0 := h.rb.rng
  rcases hw with ⟨hk, z, Mc, ⟨hMc, hq⟩, hMw⟩ | ⟨hk, hc, hMw⟩
  · have e0 := hMc.symm
    subst e0
    have e0 := hMw.symm
    subst e0
    refine ⟨fun o k a b d => up_o (by omega), ?_⟩
    rintro zr M2 ⟨cd, rfl, hr⟩
    have hJ := h.ro (wr z)
    try simp (disch := omega) only [up_o] at hr
    have e := (hJ.ver (r := r) (by omega) (by rw [up_o (by omega)]; omega)).1
    simp (disch := omega) only [up_o] at e
    refine ⟨by rw [up_s]; omega, fun _ => ?_, q, hJ.code cd⟩
    rw [up_s, show z = zr by omega]
  · have e0 := hMw.symm
    subst e0
    refine ⟨fun _ _ _ _ _ => rfl, ?_⟩
    rintro zr M2 ⟨cd, rfl, hr⟩
    refine ⟨by rw [up_s]; omega, fun w => by omega, q, h.code cd⟩
theorem s_failed {n : Int} {q : Int → List Int} {M : Mem} (h : JJn n q M) (hn : 0 ≤ n ∧ n ≤ 512) (r : Int) (hr : rg r) {kw : Int} {Mw : Mem} (hw : (kw = 0 ∧ ∃ z Mc, (Mc = M ∧ (0 ≤ r ∧ r < M 0 12 ∧ z = M (8 * r + 148) 9)) ∧ Mw = up Mc 497 0 (wr z)) ∨ (kw = 1 ∧ (r < 0 ∨ M 0 12 ≤ r) ∧ Mw = M)) : HI M Mw ∧ ∀ (zr : Int) (M9 : Mem), (∃ cd, M9 = up Mw 468 0 cd ∧ ((cd = 1 ∧ (r < 0 ∨ Mw 468 18 ≤ r)) ∨ (cd = 0 ∧ 0 ≤ r ∧ r < Mw 468 18 ∧ zr = fz Mw r))) → M9 468 0 = kw ∧ (kw = 0 → Mw 497 0 = wr zr) ∧ ∃ q2, JJn (n + 1) q2 M9 := by
  have c0 := h.cns.1
  have i0 := h.rb.rng
  rcases hw with ⟨hk, z, Mc, ⟨hMc, hq⟩, hMw⟩ | ⟨hk, hc, hMw⟩
  · have e0 := hMc.symm
    subst e0
    have e0 := hMw.symm
    subst e0
    refine ⟨fun o k a b d => up_o (by omega), ?_⟩
    rintro zr M2 ⟨cd, rfl, hr⟩
    have hJ := h.ro (wr z)
    try simp (disch := omega) only [up_o] at hr
    have e := (hJ.ver (r := r) (by omega) (by rw [up_o (by omega)]; omega)).2
    simp (disch := omega) only [up_o] at e
    refine ⟨by rw [up_s]; omega, fun _ => ?_, q, hJ.code cd⟩
    rw [up_s, show z = zr by omega]
  · have e0 := hMw.symm
    subst e0
    refine ⟨fun _ _ _ _ _ => rfl, ?_⟩
    rintro zr M2 ⟨cd, rfl, hr⟩
    refine ⟨by rw [up_s]; omega, fun w => by omega, q, h.code cd⟩
theorem s_ended {n : Int} {q : Int → List Int} {M : Mem} (h : JJn n q M) (hn : 0 ≤ n ∧ n ≤ 512) (r t : Int) (hr : rg r) (ht : rg t) {kw : Int} {Mw : Mem} (hw : (kw = 0 ∧ ∃ z Mc, (Mc = M ∧ ((0 ≤ r ∧ r < M 0 12 ∧ 0 ≤ t ∧ t < M (20 * M (8 * r + 148) 5 + 48) 3) ∧ z = M (8 * r + 153) t)) ∧ Mw = up Mc 497 0 (wr z)) ∨ (kw = 1 ∧ ((r < 0 ∨ M 0 12 ≤ r ∨ (0 ≤ r ∧ r < M 0 12 ∧ (t < 0 ∨ M (20 * M (8 * r + 148) 5 + 48) 3 ≤ t)))) ∧ Mw = M)) : HI M Mw ∧ ∀ (zr : Int) (M9 : Mem), (∃ cd, M9 = up Mw 468 0 cd ∧ ((cd = 1 ∧ (r < 0 ∨ Mw 468 18 ≤ r ∨ (0 ≤ r ∧ r < Mw 468 18 ∧ (t < 0 ∨ (Mw 476 ((Mw 482 (r)))) ≤ t)))) ∨ (cd = 0 ∧ 0 ≤ r ∧ r < Mw 468 18 ∧ 0 ≤ t ∧ t < (Mw 476 ((Mw 482 (r)))) ∧ zr = (Mw 488 (6 * r + t))))) → M9 468 0 = kw ∧ (kw = 0 → Mw 497 0 = wr zr) ∧ ∃ q2, JJn (n + 1) q2 M9 := by
  have c0 := h.cns.1
  have i0 := h.rb.rng
  rcases hw with ⟨hk, z, Mc, ⟨hMc, hq⟩, hMw⟩ | ⟨hk, hc, hMw⟩
  · have e0 := hMc.symm
    subst e0
    have e0 := hMw.symm
    subst e0
    refine ⟨fun o k a b d => up_o (by omega), ?_⟩
    rintro zr M2 ⟨cd, rfl, hr⟩
    have hJ := h.ro (wr z)
    try simp (disch := omega) only [up_o] at hr
    have e9 := h.tc (r := r) (by omega) (by omega)
    obtain ⟨x1, x2, x3, x4, x5, x6, x7⟩ := h.sme (r := r) (t := t) (by omega) (by omega) (by omega) (by omega)
    refine ⟨by rw [up_s]; omega, fun _ => ?_, q, hJ.code cd⟩
    rw [up_s, show z = zr by omega]
  · have e0 := hMw.symm
    subst e0
    refine ⟨fun _ _ _ _ _ => rfl, ?_⟩
    rintro zr M2 ⟨cd, rfl, hr⟩
    have e8 : 0 ≤ r ∧ r < M 468 18 → M (20 * M (8 * r + 148) 5 + 48) 3 = M 476 (M 482 r) := fun a => h.tc a.1 a.2
    refine ⟨by rw [up_s]; omega, fun w => by omega, q, h.code cd⟩
theorem s_steps {n : Int} {q : Int → List Int} {M : Mem} (h : JJn n q M) (hn : 0 ≤ n ∧ n ≤ 512) (r t : Int) (hr : rg r) (ht : rg t) {kw : Int} {Mw : Mem} (hw : (kw = 0 ∧ ∃ z Mc, (Mc = M ∧ ((0 ≤ r ∧ r < M 0 12 ∧ 0 ≤ t ∧ t < M (20 * M (8 * r + 148) 5 + 48) 3) ∧ z = M (8 * r + 154) t)) ∧ Mw = up Mc 497 0 (wr z)) ∨ (kw = 1 ∧ ((r < 0 ∨ M 0 12 ≤ r ∨ (0 ≤ r ∧ r < M 0 12 ∧ (t < 0 ∨ M (20 * M (8 * r + 148) 5 + 48) 3 ≤ t)))) ∧ Mw = M)) : HI M Mw ∧ ∀ (zr : Int) (M9 : Mem), (∃ cd, M9 = up Mw 468 0 cd ∧ ((cd = 1 ∧ (r < 0 ∨ Mw 468 18 ≤ r ∨ (0 ≤ r ∧ r < Mw 468 18 ∧ (t < 0 ∨ (Mw 476 ((Mw 482 (r)))) ≤ t)))) ∨ (cd = 0 ∧ 0 ≤ r ∧ r < Mw 468 18 ∧ 0 ≤ t ∧ t < (Mw 476 ((Mw 482 (r)))) ∧ zr = (Mw 489 (6 * r + t))))) → M9 468 0 = kw ∧ (kw = 0 → Mw 497 0 = wr zr) ∧ ∃ q2, JJn (n + 1) q2 M9 := by
  have c0 := h.cns.1
  have i0 := h.rb.rng
  rcases hw with ⟨hk, z, Mc, ⟨hMc, hq⟩, hMw⟩ | ⟨hk, hc, hMw⟩
  · have e0 := hMc.symm
    subst e0
    have e0 := hMw.symm
    subst e0
    refine ⟨fun o k a b d => up_o (by omega), ?_⟩
    rintro zr M2 ⟨cd, rfl, hr⟩
    have hJ := h.ro (wr z)
    try simp (disch := omega) only [up_o] at hr
    have e9 := h.tc (r := r) (by omega) (by omega)
    obtain ⟨x1, x2, x3, x4, x5, x6, x7⟩ := h.sme (r := r) (t := t) (by omega) (by omega) (by omega) (by omega)
    refine ⟨by rw [up_s]; omega, fun _ => ?_, q, hJ.code cd⟩
    rw [up_s, show z = zr by omega]
  · have e0 := hMw.symm
    subst e0
    refine ⟨fun _ _ _ _ _ => rfl, ?_⟩
    rintro zr M2 ⟨cd, rfl, hr⟩
    have e8 : 0 ≤ r ∧ r < M 468 18 → M (20 * M (8 * r + 148) 5 + 48) 3 = M 476 (M 482 r) := fun a => h.tc a.1 a.2
    refine ⟨by rw [up_s]; omega, fun w => by omega, q, h.code cd⟩
theorem s_outputs {n : Int} {q : Int → List Int} {M : Mem} (h : JJn n q M) (hn : 0 ≤ n ∧ n ≤ 512) (r t : Int) (hr : rg r) (ht : rg t) {kw : Int} {Mw : Mem} (hw : (kw = 0 ∧ ∃ z Mc, (Mc = M ∧ ((0 ≤ r ∧ r < M 0 12 ∧ 0 ≤ t ∧ t < M (20 * M (8 * r + 148) 5 + 48) 3) ∧ z = M 15 (M (8 * r + 155) t))) ∧ Mw = up Mc 497 0 (wr z)) ∨ (kw = 1 ∧ ((r < 0 ∨ M 0 12 ≤ r ∨ (0 ≤ r ∧ r < M 0 12 ∧ (t < 0 ∨ M (20 * M (8 * r + 148) 5 + 48) 3 ≤ t)))) ∧ Mw = M)) : HI M Mw ∧ ∀ (zr : Int) (M9 : Mem), (∃ cd, M9 = up Mw 468 0 cd ∧ ((cd = 1 ∧ (r < 0 ∨ Mw 468 18 ≤ r ∨ (0 ≤ r ∧ r < Mw 468 18 ∧ (t < 0 ∨ (Mw 476 ((Mw 482 (r)))) ≤ t)))) ∨ (cd = 0 ∧ 0 ≤ r ∧ r < Mw 468 18 ∧ 0 ≤ t ∧ t < (Mw 476 ((Mw 482 (r)))) ∧ zr = (Mw 491 (6 * r + t))))) → M9 468 0 = kw ∧ (kw = 0 → Mw 497 0 = wr zr) ∧ ∃ q2, JJn (n + 1) q2 M9 := by
  have c0 := h.cns.1
  have i0 := h.rb.rng
  rcases hw with ⟨hk, z, Mc, ⟨hMc, hq⟩, hMw⟩ | ⟨hk, hc, hMw⟩
  · have e0 := hMc.symm
    subst e0
    have e0 := hMw.symm
    subst e0
    refine ⟨fun o k a b d => up_o (by omega), ?_⟩
    rintro zr M2 ⟨cd, rfl, hr⟩
    have hJ := h.ro (wr z)
    try simp (disch := omega) only [up_o] at hr
    have e9 := h.tc (r := r) (by omega) (by omega)
    obtain ⟨x1, x2, x3, x4, x5, x6, x7⟩ := h.sme (r := r) (t := t) (by omega) (by omega) (by omega) (by omega)
    refine ⟨by rw [up_s]; omega, fun _ => ?_, q, hJ.code cd⟩
    rw [up_s, show z = zr by omega]
  · have e0 := hMw.symm
    subst e0
    refine ⟨fun _ _ _ _ _ => rfl, ?_⟩
    rintro zr M2 ⟨cd, rfl, hr⟩
    have e8 : 0 ≤ r ∧ r < M 468 18 → M (20 * M (8 * r + 148) 5 + 48) 3 = M 476 (M 482 r) := fun a => h.tc a.1 a.2
    refine ⟨by rw [up_s]; omega, fun w => by omega, q, h.code cd⟩
theorem s_sharing {n : Int} {q : Int → List Int} {M : Mem} (h : JJn n q M) (hn : 0 ≤ n ∧ n ≤ 512) (r t : Int) (hr : rg r) (ht : rg t) {kw : Int} {Mw : Mem} (hw : (kw = 0 ∧ ∃ z Mc, (Mc = M ∧ ((0 ≤ r ∧ r < M 0 12 ∧ 0 ≤ t ∧ t < M (20 * M (8 * r + 148) 5 + 48) 3) ∧ z = M 16 (M (8 * r + 155) t))) ∧ Mw = up Mc 497 0 (wr z)) ∨ (kw = 1 ∧ ((r < 0 ∨ M 0 12 ≤ r ∨ (0 ≤ r ∧ r < M 0 12 ∧ (t < 0 ∨ M (20 * M (8 * r + 148) 5 + 48) 3 ≤ t)))) ∧ Mw = M)) : HI M Mw ∧ ∀ (zr : Int) (M9 : Mem), (∃ cd, M9 = up Mw 468 0 cd ∧ ((cd = 1 ∧ (r < 0 ∨ Mw 468 18 ≤ r ∨ (0 ≤ r ∧ r < Mw 468 18 ∧ (t < 0 ∨ (Mw 476 ((Mw 482 (r)))) ≤ t)))) ∨ (cd = 0 ∧ 0 ≤ r ∧ r < Mw 468 18 ∧ 0 ≤ t ∧ t < (Mw 476 ((Mw 482 (r)))) ∧ zr = shr Mw r t))) → M9 468 0 = kw ∧ (kw = 0 → Mw 497 0 = wr zr) ∧ ∃ q2, JJn (n + 1) q2 M9 := by
  have c0 := h.cns.1
  have i0 := h.rb.rng
  rcases hw with ⟨hk, z, Mc, ⟨hMc, hq⟩, hMw⟩ | ⟨hk, hc, hMw⟩
  · have e0 := hMc.symm
    subst e0
    have e0 := hMw.symm
    subst e0
    refine ⟨fun o k a b d => up_o (by omega), ?_⟩
    rintro zr M2 ⟨cd, rfl, hr⟩
    have hJ := h.ro (wr z)
    try simp (disch := omega) only [up_o] at hr
    have e9 := h.tc (r := r) (by omega) (by omega)
    obtain ⟨x1, x2, x3, x4, x5, x6, x7⟩ := h.sme (r := r) (t := t) (by omega) (by omega) (by omega) (by omega)
    have e := hJ.sha (r := r) (t := t) (by omega) (by rw [up_o (by omega)]; omega) (by omega) (by rw [up_o (by omega), up_o (by omega)]; omega)
    simp (disch := omega) only [up_o] at e
    refine ⟨by rw [up_s]; omega, fun _ => ?_, q, hJ.code cd⟩
    rw [up_s, show z = zr by omega]
  · have e0 := hMw.symm
    subst e0
    refine ⟨fun _ _ _ _ _ => rfl, ?_⟩
    rintro zr M2 ⟨cd, rfl, hr⟩
    have e8 : 0 ≤ r ∧ r < M 468 18 → M (20 * M (8 * r + 148) 5 + 48) 3 = M 476 (M 482 r) := fun a => h.tc a.1 a.2
    refine ⟨by rw [up_s]; omega, fun w => by omega, q, h.code cd⟩
theorem s_output {n : Int} {q : Int → List Int} {M : Mem} (h : JJn n q M) (hn : 0 ≤ n ∧ n ≤ 512) (r t k : Int) (hr : rg r) (ht : rg t) (hk : rg k) {kw : Int} {Mw : Mem} (hw : (kw = 0 ∧ ∃ z Mc, (Mc = M ∧ ((0 ≤ r ∧ r < M 0 12 ∧ 0 ≤ t ∧ t < M (20 * M (8 * r + 148) 5 + 48) 3) ∧ (0 ≤ k ∧ k < M 15 (M (8 * r + 155) t)) ∧ z = M 14 (M (8 * r + 155) t * 6 + k))) ∧ Mw = up Mc 497 0 (wr z)) ∨ (kw = 1 ∧ ((r < 0 ∨ M 0 12 ≤ r ∨ (0 ≤ r ∧ r < M 0 12 ∧ (t < 0 ∨ M (20 * M (8 * r + 148) 5 + 48) 3 ≤ t)))) ∧ Mw = M) ∨ (kw = 2 ∧ ((0 ≤ r ∧ r < M 0 12 ∧ 0 ≤ t ∧ t < M (20 * M (8 * r + 148) 5 + 48) 3) ∧ (k < 0 ∨ M 15 (M (8 * r + 155) t) ≤ k)) ∧ Mw = M)) : HI M Mw ∧ ∀ (zr : Int) (M9 : Mem), (∃ cd, M9 = up Mw 468 0 cd ∧ ((cd = 1 ∧ (r < 0 ∨ Mw 468 18 ≤ r ∨ (0 ≤ r ∧ r < Mw 468 18 ∧ (t < 0 ∨ (Mw 476 ((Mw 482 (r)))) ≤ t)))) ∨ (0 ≤ r ∧ r < Mw 468 18 ∧ 0 ≤ t ∧ t < (Mw 476 ((Mw 482 (r)))) ∧ ((cd = 2 ∧ (k < 0 ∨ (Mw 491 (6 * r + t)) ≤ k)) ∨ (cd = 0 ∧ 0 ≤ k ∧ k < (Mw 491 (6 * r + t)) ∧ zr = (Mw 490 (36 * r + 6 * t + k))))))) → M9 468 0 = kw ∧ (kw = 0 → Mw 497 0 = wr zr) ∧ ∃ q2, JJn (n + 1) q2 M9 := by
  have c0 := h.cns.1
  have i0 := h.rb.rng
  rcases hw with ⟨hk, z, Mc, ⟨hMc, hq⟩, hMw⟩ | ⟨hk, hc, hMw⟩ | ⟨hk, hc, hMw⟩
  · have e0 := hMc.symm
    subst e0
    have e0 := hMw.symm
    subst e0
    refine ⟨fun o k a b d => up_o (by omega), ?_⟩
    rintro zr M2 ⟨cd, rfl, hr⟩
    have hJ := h.ro (wr z)
    try simp (disch := omega) only [up_o] at hr
    have e9 := h.tc (r := r) (by omega) (by omega)
    obtain ⟨x1, x2, x3, x4, x5, x6, x7⟩ := h.sme (r := r) (t := t) (by omega) (by omega) (by omega) (by omega)
    have e := x5 k (by omega) (by omega)
    refine ⟨by rw [up_s]; omega, fun _ => ?_, q, hJ.code cd⟩
    rw [up_s, show z = zr by omega]
  · have e0 := hMw.symm
    subst e0
    refine ⟨fun _ _ _ _ _ => rfl, ?_⟩
    rintro zr M2 ⟨cd, rfl, hr⟩
    have e8 : 0 ≤ r ∧ r < M 468 18 → M (20 * M (8 * r + 148) 5 + 48) 3 = M 476 (M 482 r) := fun a => h.tc a.1 a.2
    refine ⟨by rw [up_s]; omega, fun w => by omega, q, h.code cd⟩
  · have e0 := hMw.symm
    subst e0
    refine ⟨fun _ _ _ _ _ => rfl, ?_⟩
    rintro zr M2 ⟨cd, rfl, hr⟩
    have e8 : 0 ≤ r ∧ r < M 468 18 → M (20 * M (8 * r + 148) 5 + 48) 3 = M 476 (M 482 r) := fun a => h.tc a.1 a.2
    have e9 := h.tc (r := r) (by omega) (by omega)
    obtain ⟨x1, x2, x3, x4, x5, x6, x7⟩ := h.sme (r := r) (t := t) (by omega) (by omega) (by omega) (by omega)
    refine ⟨by rw [up_s]; omega, fun w => by omega, q, h.code cd⟩
theorem s_inStock {n : Int} {q : Int → List Int} {M : Mem} (h : JJn n q M) (hn : 0 ≤ n ∧ n ≤ 512) (c : Int) (hc : rg c) {kw : Int} {Mw : Mem} (hw : (kw = 0 ∧ ∃ z Mc, (Mc = M ∧ (0 ≤ c ∧ c ≤ 3 ∧ z = M 25 c)) ∧ Mw = up Mc 497 0 (wr z)) ∨ (kw = 1 ∧ (c < 0 ∨ 3 < c) ∧ Mw = M)) : HI M Mw ∧ ∀ (zr : Int) (M9 : Mem), (∃ cd, M9 = up Mw 468 0 cd ∧ ((cd = 1 ∧ (c < 0 ∨ 3 < c)) ∨ (cd = 0 ∧ 0 ≤ c ∧ c ≤ 3 ∧ zr = (Mw 495 (c))))) → M9 468 0 = kw ∧ (kw = 0 → Mw 497 0 = wr zr) ∧ ∃ q2, JJn (n + 1) q2 M9 := by
  have c0 := h.cns.1
  have i0 := h.rb.rng
  rcases hw with ⟨hk, z, Mc, ⟨hMc, hq⟩, hMw⟩ | ⟨hk, hc, hMw⟩
  · have e0 := hMc.symm
    subst e0
    have e0 := hMw.symm
    subst e0
    refine ⟨fun o k a b d => up_o (by omega), ?_⟩
    rintro zr M2 ⟨cd, rfl, hr⟩
    have hJ := h.ro (wr z)
    try simp (disch := omega) only [up_o] at hr
    have e := (h.bal.2.2.2.2.2 c (by omega) (by omega)).2.2.2.1
    refine ⟨by rw [up_s]; omega, fun _ => ?_, q, hJ.code cd⟩
    rw [up_s, show z = zr by omega]
  · have e0 := hMw.symm
    subst e0
    refine ⟨fun _ _ _ _ _ => rfl, ?_⟩
    rintro zr M2 ⟨cd, rfl, hr⟩
    refine ⟨by rw [up_s]; omega, fun w => by omega, q, h.code cd⟩
theorem s_out {n : Int} {q : Int → List Int} {M : Mem} (h : JJn n q M) (hn : 0 ≤ n ∧ n ≤ 512) (c : Int) (hc : rg c) {kw : Int} {Mw : Mem} (hw : (kw = 0 ∧ ∃ z Mc, (Mc = M ∧ (0 ≤ c ∧ c ≤ 3 ∧ z = M 26 c)) ∧ Mw = up Mc 497 0 (wr z)) ∨ (kw = 1 ∧ (c < 0 ∨ 3 < c) ∧ Mw = M)) : HI M Mw ∧ ∀ (zr : Int) (M9 : Mem), (∃ cd, M9 = up Mw 468 0 cd ∧ ((cd = 1 ∧ (c < 0 ∨ 3 < c)) ∨ (cd = 0 ∧ 0 ≤ c ∧ c ≤ 3 ∧ zr = outc Mw c))) → M9 468 0 = kw ∧ (kw = 0 → Mw 497 0 = wr zr) ∧ ∃ q2, JJn (n + 1) q2 M9 := by
  have c0 := h.cns.1
  have i0 := h.rb.rng
  rcases hw with ⟨hk, z, Mc, ⟨hMc, hq⟩, hMw⟩ | ⟨hk, hc, hMw⟩
  · have e0 := hMc.symm
    subst e0
    have e0 := hMw.symm
    subst e0
    refine ⟨fun o k a b d => up_o (by omega), ?_⟩
    rintro zr M2 ⟨cd, rfl, hr⟩
    have hJ := h.ro (wr z)
    try simp (disch := omega) only [up_o] at hr
    have e := hJ.out (c := c) (by omega) (by omega)
    simp (disch := omega) only [up_o] at e
    refine ⟨by rw [up_s]; omega, fun _ => ?_, q, hJ.code cd⟩
    rw [up_s, show z = zr by omega]
  · have e0 := hMw.symm
    subst e0
    refine ⟨fun _ _ _ _ _ => rfl, ?_⟩
    rintro zr M2 ⟨cd, rfl, hr⟩
    refine ⟨by rw [up_s]; omega, fun w => by omega, q, h.code cd⟩
theorem s_balloon {n : Int} {q : Int → List Int} {M : Mem} (h : JJn n q M) (hn : 0 ≤ n ∧ n ≤ 512) (t p : Int) (ht : rg t) (hp : rg p) {kw : Int} {Mw : Mem} (hw : (kw = 0 ∧ ∃ z Mc, (Mc = M ∧ ((0 ≤ t ∧ t < M 0 11 ∧ 0 ≤ p ∧ p < M 0 10) ∧ z = M 18 (5 * t + p))) ∧ Mw = up Mc 497 0 (wr z)) ∨ (kw = 1 ∧ (t < 0 ∨ M 0 11 ≤ t ∨ p < 0 ∨ M 0 10 ≤ p) ∧ Mw = M)) : HI M Mw ∧ ∀ (zr : Int) (M9 : Mem), (∃ cd, M9 = up Mw 468 0 cd ∧ ((cd = 1 ∧ (t < 0 ∨ Mw 468 17 ≤ t ∨ p < 0 ∨ Mw 468 9 ≤ p)) ∨ (cd = 0 ∧ 0 ≤ t ∧ t < Mw 468 17 ∧ 0 ≤ p ∧ p < Mw 468 9 ∧ zr = (Mw 493 (5 * t + p))))) → M9 468 0 = kw ∧ (kw = 0 → Mw 497 0 = wr zr) ∧ ∃ q2, JJn (n + 1) q2 M9 := by
  have c0 := h.cns.1
  have i0 := h.rb.rng
  rcases hw with ⟨hk, z, Mc, ⟨hMc, hq⟩, hMw⟩ | ⟨hk, hc, hMw⟩
  · have e0 := hMc.symm
    subst e0
    have e0 := hMw.symm
    subst e0
    refine ⟨fun o k a b d => up_o (by omega), ?_⟩
    rintro zr M2 ⟨cd, rfl, hr⟩
    have hJ := h.ro (wr z)
    try simp (disch := omega) only [up_o] at hr
    have e := h.bal.2.2.1 (5 * t + p) (by omega) (by omega)
    refine ⟨by rw [up_s]; omega, fun _ => ?_, q, hJ.code cd⟩
    rw [up_s, show z = zr by omega]
  · have e0 := hMw.symm
    subst e0
    refine ⟨fun _ _ _ _ _ => rfl, ?_⟩
    rintro zr M2 ⟨cd, rfl, hr⟩
    refine ⟨by rw [up_s]; omega, fun w => by omega, q, h.code cd⟩
theorem s_pending {n : Int} {q : Int → List Int} {M : Mem} (h : JJn n q M) (hn : 0 ≤ n ∧ n ≤ 512) (t p : Int) (ht : rg t) (hp : rg p) {kw : Int} {Mw : Mem} (hw : (kw = 0 ∧ ∃ z Mc, (Mc = M ∧ ((0 ≤ t ∧ t < M 0 11 ∧ 0 ≤ p ∧ p < M 0 10) ∧ z = cpn M t p)) ∧ Mw = up Mc 497 0 (wr z)) ∨ (kw = 1 ∧ (t < 0 ∨ M 0 11 ≤ t ∨ p < 0 ∨ M 0 10 ≤ p) ∧ Mw = M)) : HI M Mw ∧ ∀ (zr : Int) (M9 : Mem), (∃ cd, M9 = up Mw 468 0 cd ∧ ((cd = 1 ∧ (t < 0 ∨ Mw 468 17 ≤ t ∨ p < 0 ∨ Mw 468 9 ≤ p)) ∨ (cd = 0 ∧ 0 ≤ t ∧ t < Mw 468 17 ∧ 0 ≤ p ∧ p < Mw 468 9 ∧ zr = pnd Mw t p))) → M9 468 0 = kw ∧ (kw = 0 → Mw 497 0 = wr zr) ∧ ∃ q2, JJn (n + 1) q2 M9 := by
  have c0 := h.cns.1
  have i0 := h.rb.rng
  rcases hw with ⟨hk, z, Mc, ⟨hMc, hq⟩, hMw⟩ | ⟨hk, hc, hMw⟩
  · have e0 := hMc.symm
    subst e0
    have e0 := hMw.symm
    subst e0
    refine ⟨fun o k a b d => up_o (by omega), ?_⟩
    rintro zr M2 ⟨cd, rfl, hr⟩
    have hJ := h.ro (wr z)
    try simp (disch := omega) only [up_o] at hr
    have e := hJ.pn (t := t) (p := p)
    rw [cpn_up] at e
    refine ⟨by rw [up_s]; omega, fun _ => ?_, q, hJ.code cd⟩
    rw [up_s, show z = zr by omega]
  · have e0 := hMw.symm
    subst e0
    refine ⟨fun _ _ _ _ _ => rfl, ?_⟩
    rintro zr M2 ⟨cd, rfl, hr⟩
    refine ⟨by rw [up_s]; omega, fun w => by omega, q, h.code cd⟩
theorem s_solved {n : Int} {q : Int → List Int} {M : Mem} (h : JJn n q M) (hn : 0 ≤ n ∧ n ≤ 512) (t b : Int) (ht : rg t) (b0 : b = 0 ∨ b = 1) {kw : Int} {Mw : Mem} (hw : (kw = 0 ∧ ∃ z Mc, (Mc = M ∧ ((0 ≤ t ∧ t < M 0 11) ∧ z = M (7 * b + 30) t)) ∧ Mw = up Mc 497 0 (wr z)) ∨ (kw = 1 ∧ (t < 0 ∨ M 0 11 ≤ t) ∧ Mw = M)) : HI M Mw ∧ ∀ (zr : Int) (M9 : Mem), (∃ cd, M9 = up Mw 468 0 cd ∧ ((cd = 1 ∧ (t < 0 ∨ Mw 468 17 ≤ t)) ∨ (cd = 0 ∧ 0 ≤ t ∧ t < Mw 468 17 ∧ zr = solR Mw b t (Mw 468 18)))) → M9 468 0 = kw ∧ (kw = 0 → Mw 497 0 = wr zr) ∧ ∃ q2, JJn (n + 1) q2 M9 := by
  have c0 := h.cns.1
  have i0 := h.rb.rng
  rcases hw with ⟨hk, z, Mc, ⟨hMc, hq⟩, hMw⟩ | ⟨hk, hc, hMw⟩
  · have e0 := hMc.symm
    subst e0
    have e0 := hMw.symm
    subst e0
    refine ⟨fun o k a b d => up_o (by omega), ?_⟩
    rintro zr M2 ⟨cd, rfl, hr⟩
    have hJ := h.ro (wr z)
    try simp (disch := omega) only [up_o] at hr
    have e := hJ.sol (hJ.bb b0) (t := t) (by omega) (by first | omega | (rw [up_o (by omega)]; omega))
    simp (disch := omega) only [up_o] at e
    rw [show 7 * b + 27 + 3 = 7 * b + 30 by omega] at e
    refine ⟨by rw [up_s]; omega, fun _ => ?_, q, hJ.code cd⟩
    rw [up_s, show z = zr by omega]
  · have e0 := hMw.symm
    subst e0
    refine ⟨fun _ _ _ _ _ => rfl, ?_⟩
    rintro zr M2 ⟨cd, rfl, hr⟩
    refine ⟨by rw [up_s]; omega, fun w => by omega, q, h.code cd⟩
theorem s_penalty {n : Int} {q : Int → List Int} {M : Mem} (h : JJn n q M) (hn : 0 ≤ n ∧ n ≤ 512) (t b : Int) (ht : rg t) (b0 : b = 0 ∨ b = 1) {kw : Int} {Mw : Mem} (hw : (kw = 0 ∧ ∃ z Mc, (Mc = M ∧ ((0 ≤ t ∧ t < M 0 11) ∧ z = M (7 * b + 31) t)) ∧ Mw = up Mc 497 0 (wr z)) ∨ (kw = 1 ∧ (t < 0 ∨ M 0 11 ≤ t) ∧ Mw = M)) : HI M Mw ∧ ∀ (zr : Int) (M9 : Mem), (∃ cd, M9 = up Mw 468 0 cd ∧ ((cd = 1 ∧ (t < 0 ∨ Mw 468 17 ≤ t)) ∨ (cd = 0 ∧ 0 ≤ t ∧ t < Mw 468 17 ∧ zr = penS Mw b t (Mw 468 18)))) → M9 468 0 = kw ∧ (kw = 0 → Mw 497 0 = wr zr) ∧ ∃ q2, JJn (n + 1) q2 M9 := by
  have c0 := h.cns.1
  have i0 := h.rb.rng
  rcases hw with ⟨hk, z, Mc, ⟨hMc, hq⟩, hMw⟩ | ⟨hk, hc, hMw⟩
  · have e0 := hMc.symm
    subst e0
    have e0 := hMw.symm
    subst e0
    refine ⟨fun o k a b d => up_o (by omega), ?_⟩
    rintro zr M2 ⟨cd, rfl, hr⟩
    have hJ := h.ro (wr z)
    try simp (disch := omega) only [up_o] at hr
    have e := hJ.pen (hJ.bb b0) (t := t) (by omega) (by first | omega | (rw [up_o (by omega)]; omega))
    simp (disch := omega) only [up_o] at e
    rw [show 7 * b + 27 + 4 = 7 * b + 31 by omega] at e
    refine ⟨by rw [up_s]; omega, fun _ => ?_, q, hJ.code cd⟩
    rw [up_s, show z = zr by omega]
  · have e0 := hMw.symm
    subst e0
    refine ⟨fun _ _ _ _ _ => rfl, ?_⟩
    rintro zr M2 ⟨cd, rfl, hr⟩
    refine ⟨by rw [up_s]; omega, fun w => by omega, q, h.code cd⟩
theorem s_rank {n : Int} {q : Int → List Int} {M : Mem} (h : JJn n q M) (hn : 0 ≤ n ∧ n ≤ 512) (t b : Int) (ht : rg t) (b0 : b = 0 ∨ b = 1) {kw : Int} {Mw : Mem} (hw : (kw = 0 ∧ ∃ z Mc, (Mc = M ∧ ((0 ≤ t ∧ t < M 0 11) ∧ ∃ i, z = i + 1 ∧ 0 ≤ i ∧ i < M 0 11 ∧ M (7 * b + 33) i = t)) ∧ Mw = up Mc 497 0 (wr z)) ∨ (kw = 1 ∧ (t < 0 ∨ M 0 11 ≤ t) ∧ Mw = M)) : HI M Mw ∧ ∀ (zr : Int) (M9 : Mem), (∃ cd, M9 = up Mw 468 0 cd ∧ ((cd = 1 ∧ (t < 0 ∨ Mw 468 17 ≤ t)) ∨ (cd = 0 ∧ 0 ≤ t ∧ t < Mw 468 17 ∧ zr = 1 + cnt (fun q => q ≠ t ∧ Ahd Mw b q t) (Mw 468 17)))) → M9 468 0 = kw ∧ (kw = 0 → Mw 497 0 = wr zr) ∧ ∃ q2, JJn (n + 1) q2 M9 := by
  have c0 := h.cns.1
  have i0 := h.rb.rng
  rcases hw with ⟨hk, z, Mc, ⟨hMc, hq⟩, hMw⟩ | ⟨hk, hc, hMw⟩
  · have e0 := hMc.symm
    subst e0
    have e0 := hMw.symm
    subst e0
    refine ⟨fun o k a b d => up_o (by omega), ?_⟩
    rintro zr M2 ⟨cd, rfl, hr⟩
    have hJ := h.ro (wr z)
    try simp (disch := omega) only [up_o] at hr
    obtain ⟨hq1, i, hz, i1, i2, hi⟩ := hq
    have e := hJ.rnk (hJ.bb b0) (i := i) (t := t) (by omega) (by rw [up_o (by omega)]; omega) (by rw [up_o (by omega), show 7 * b + 27 + 6 = 7 * b + 33 by omega]; exact hi)
    simp (disch := omega) only [up_o] at e
    refine ⟨by rw [up_s]; omega, fun _ => ?_, q, hJ.code cd⟩
    rw [up_s, show z = zr by omega]
  · have e0 := hMw.symm
    subst e0
    refine ⟨fun _ _ _ _ _ => rfl, ?_⟩
    rintro zr M2 ⟨cd, rfl, hr⟩
    refine ⟨by rw [up_s]; omega, fun w => by omega, q, h.code cd⟩
theorem s_ranked {n : Int} {q : Int → List Int} {M : Mem} (h : JJn n q M) (hn : 0 ≤ n ∧ n ≤ 512) (k b : Int) (hk : rg k) (b0 : b = 0 ∨ b = 1) {kw : Int} {Mw : Mem} (hw : (kw = 0 ∧ ∃ z Mc, (Mc = M ∧ ((1 ≤ k ∧ k ≤ M 0 11) ∧ z = M (7 * b + 33) (k - 1))) ∧ Mw = up Mc 497 0 (wr z)) ∨ (kw = 1 ∧ (k < 1 ∨ M 0 11 < k) ∧ Mw = M)) : HI M Mw ∧ ∀ (zr : Int) (M9 : Mem), (∃ cd, M9 = up Mw 468 0 cd ∧ ((cd = 1 ∧ ∀ t, 0 ≤ t → t < Mw 468 17 → ¬ 1 + cnt (fun q => q ≠ t ∧ Ahd Mw b q t) (Mw 468 17) = k) ∨ (cd = 0 ∧ 0 ≤ zr ∧ zr < Mw 468 17 ∧ 1 + cnt (fun q => q ≠ zr ∧ Ahd Mw b q zr) (Mw 468 17) = k ∧ ∀ t, zr < t → t < Mw 468 17 → ¬ 1 + cnt (fun q => q ≠ t ∧ Ahd Mw b q t) (Mw 468 17) = k))) → M9 468 0 = kw ∧ (kw = 0 → Mw 497 0 = wr zr) ∧ ∃ q2, JJn (n + 1) q2 M9 := by
  have c0 := h.cns.1
  have i0 := h.rb.rng
  have key : ∀ v, ∀ i, 0 ≤ i → i < M 468 17 → cnt (fun x => x ≠ M (7 * b + 33) i ∧ Ahd (up M 497 0 v) b x (M (7 * b + 33) i)) (M 468 17) = i := fun v i a0 a1 => by
    have e := (h.ro v).rnk ((h.ro v).bb b0) (i := i) (t := M (7 * b + 33) i) a0 (by rw [up_o (by omega)]; omega) (by rw [up_o (by omega), show 7 * b + 27 + 6 = 7 * b + 33 by omega])
    simp (disch := omega) only [up_o] at e
    exact e
  have key2 : ∀ i, 0 ≤ i → i < M 468 17 → cnt (fun x => x ≠ M (7 * b + 33) i ∧ Ahd M b x (M (7 * b + 33) i)) (M 468 17) = i := fun i a0 a1 => by
    refine h.rnk (h.bb b0) (i := i) (t := M (7 * b + 33) i) a0 a1 ?_
    rw [show 7 * b + 27 + 6 = 7 * b + 33 by omega]
  have sur : ∀ t, 0 ≤ t → t < M 468 17 → ∃ i, 0 ≤ i ∧ i < M 468 17 ∧ M (7 * b + 33) i = t := fun t t0 t1 => by
    obtain ⟨i, a0, a1, a2⟩ := (h.bb b0).2.2.2.2 t t0 (by omega)
    exact ⟨i, a0, by omega, by rw [show 7 * b + 33 = 7 * b + 27 + 6 by omega]; exact a2⟩
  rcases hw with ⟨hk, z, Mc, ⟨hMc, hq, hz⟩, hMw⟩ | ⟨hk, hc, hMw⟩
  · have e0 := hMc.symm
    subst e0
    have e0 := hMw.symm
    subst e0
    refine ⟨fun o k a b d => up_o (by omega), ?_⟩
    rintro zr M2 ⟨cd, rfl, hr⟩
    simp (disch := omega) only [up_o] at hr
    have hin : 0 ≤ M (7 * b + 33) (k - 1) ∧ M (7 * b + 33) (k - 1) < M 468 17 := by
      have := (h.bb b0).2.2.1 (k - 1) (by omega) (by omega)
      rw [show 7 * b + 27 + 6 = 7 * b + 33 by omega] at this
      omega
    have hk1 := key (wr z) (k - 1) (by omega) (by omega)
    rcases hr with ⟨hcd, hb⟩ | ⟨hcd, g0, g1, g2, g3⟩
    · exact absurd (by omega) (hb _ hin.1 hin.2)
    · refine ⟨by rw [up_s]; omega, fun _ => ?_, q, (h.ro (wr z)).code cd⟩
      rw [up_s]
      obtain ⟨i, a0, a1, a2⟩ := sur zr g0 g1
      have := key (wr z) i a0 a1
      rw [a2] at this
      have hi : i = k - 1 := by omega
      rw [hz, ← a2, hi]
  · have e0 := hMw.symm
    subst e0
    refine ⟨fun _ _ _ _ _ => rfl, ?_⟩
    rintro zr M2 ⟨cd, rfl, hr⟩
    refine ⟨?_, fun w => by omega, q, h.code cd⟩
    rw [up_s]
    rcases hr with ⟨hcd, hb⟩ | ⟨hcd, g0, g1, g2, g3⟩
    · omega
    · obtain ⟨i, a0, a1, a2⟩ := sur zr g0 g1
      have := key2 i a0 a1
      rw [a2] at this
      omega
theorem s_waiting {n : Int} {q : Int → List Int} {M : Mem} (h : JJn n q M) (hn : 0 ≤ n ∧ n ≤ 512) (c k : Int) (hc : rg c) (hk : rg k) {kw : Int} {Mw : Mem} (hw : (kw = 0 ∧ ∃ z Mc, (Mc = M ∧ ((0 ≤ c ∧ c ≤ 3) ∧ (0 ≤ k ∧ k < (q c).length) ∧ ∃ x, (q c)[k.toNat]? = some x ∧ z = x / 5)) ∧ Mw = up Mc 497 0 (wr z)) ∨ (kw = 1 ∧ (c < 0 ∨ 3 < c) ∧ Mw = M) ∨ (kw = 2 ∧ ((0 ≤ c ∧ c ≤ 3) ∧ (k < 0 ∨ (q c).length ≤ k)) ∧ Mw = M)) : HI M Mw ∧ ∀ (zr : Int) (M9 : Mem), (((c < 0 ∨ 3 < c) ∧ M9 = up Mw 468 0 1) ∨ ((0 ≤ c ∧ c ≤ 3) ∧ (((k < 0 ∨ (q c).length ≤ k) ∧ M9 = up Mw 468 0 2) ∨ ((0 ≤ k ∧ k < (q c).length) ∧ (∃ x, (q c)[k.toNat]? = some x ∧ zr = x / 5) ∧ M9 = up Mw 468 0 0)))) → M9 468 0 = kw ∧ (kw = 0 → Mw 497 0 = wr zr) ∧ ∃ q2, JJn (n + 1) q2 M9 := by
  rcases hw with ⟨hk, z, Mc, ⟨hMc, hq1, hq2, x, hx, hz⟩, hMw⟩ | ⟨hk, hc, hMw⟩ | ⟨hk, hc, hMw⟩
  · have e0 := hMc.symm
    subst e0
    have e0 := hMw.symm
    subst e0
    refine ⟨fun o k a b d => up_o (by omega), ?_⟩
    intro zr M2 hr
    rcases hr with ⟨g1, g2⟩ | ⟨g1, ⟨g2, g3⟩ | ⟨g2, ⟨y, hy, hzr⟩, g3⟩⟩
    · omega
    · omega
    · rw [g3]
      refine ⟨by rw [up_s]; omega, fun _ => ?_, q, (h.ro (wr z)).code 0⟩
      rw [up_s]
      rw [hx] at hy
      cases hy
      rw [hz, hzr]
  all_goals
    have e0 := hMw.symm
    subst e0
    refine ⟨fun _ _ _ _ _ => rfl, ?_⟩
    intro zr M2 hr
    rcases hr with ⟨g1, g2⟩ | ⟨g1, ⟨g2, g3⟩ | ⟨g2, ⟨y, hy, hzr⟩, g3⟩⟩
    · rw [g2]
      exact ⟨by rw [up_s]; omega, fun w => by omega, q, h.code _⟩
    · rw [g3]
      exact ⟨by rw [up_s]; omega, fun w => by omega, q, h.code _⟩
    · rw [g3]
      exact ⟨by rw [up_s]; omega, fun w => by omega, q, h.code _⟩
theorem s_acceptedShare {n : Int} {q : Int → List Int} {M : Mem} (h : JJn n q M) (hn : 0 ≤ n ∧ n ≤ 512)  {kw : Int} {Mw : Mem} (hw : (kw = 0 ∧ ∃ x Mc, (Mc = M ∧ (M 0 12 ≠ 0 ∧ x = FP.fdiv (FP.i2f (iZ (cnt (fun r => M (8 * r + 148) 8 = 97) (M 0 12)))) (FP.i2f (iZ (M 0 12))))) ∧ Mw = up Mc 498 0 ((FP.f2d x).toNat : Int)) ∨ (kw = 1 ∧ (M 0 12 = 0) ∧ Mw = M)) : HI M Mw ∧ ∀ (zr : UInt32) (M9 : Mem), ((Mw 468 18 = 0 ∧ M9 = up Mw 468 0 1) ∨ (Mw 468 18 ≠ 0 ∧ zr = FP.fdiv (FP.i2f (iZ (cnt (fun r => vz Mw r = 97) (Mw 468 18)))) (FP.i2f (iZ (Mw 468 18))) ∧ M9 = up Mw 468 0 0)) → M9 468 0 = kw ∧ (kw = 0 → Mw 498 0 = ((FP.f2d zr).toNat : Int) ∧ vf_n32 zr) ∧ ∃ q2, JJn (n + 1) q2 M9 := by
  have c0 := h.cns.1
  have i0 := h.rb.rng
  rcases hw with ⟨hk, x, Mc, ⟨hMc, hq, hx⟩, hMw⟩ | ⟨hk, hc, hMw⟩
  · have e0 := hMc.symm
    subst e0
    have e0 := hMw.symm
    subst e0
    refine ⟨fun o k a b d => up_o (by omega), ?_⟩
    intro zr M2 hr
    have hJ := h.rd ((FP.f2d x).toNat : Int)
    simp (disch := omega) only [up_o] at hr
    have e : cnt (fun r => M (8 * r + 148) 8 = 97) (M 0 12) = cnt (fun r => vz (up M 498 0 ((FP.f2d x).toNat : Int)) r = 97) (M 468 18) := by
      rw [c0.2.2]
      refine cnt_congr (by omega) (fun r r0 r1 => ?_)
      have e := (hJ.ver (r := r) r0 (by rw [up_o (by omega)]; exact r1)).1
      simp (disch := omega) only [up_o] at e
      rw [e]
    rcases hr with ⟨g1, g2⟩ | ⟨g1, g2, g3⟩
    · omega
    · rw [g3]
      refine ⟨by rw [up_s]; omega, fun _ => ?_, q, hJ.code 0⟩
      have hz : x = zr := by rw [hx, g2, e, c0.2.2]
      rw [up_s, hz]
      refine ⟨rfl, ?_⟩
      rw [g2]
      exact fq_ok ⟨by omega, by omega⟩ g1
  · have e0 := hMw.symm
    subst e0
    refine ⟨fun _ _ _ _ _ => rfl, ?_⟩
    intro zr M2 hr
    have e1 := c0.2.2
    rcases hr with ⟨g1, g2⟩ | ⟨g1, g2, g3⟩
    · rw [g2]
      exact ⟨by rw [up_s]; omega, fun w => by omega, q, h.code 1⟩
    · omega
theorem s_meanSteps {n : Int} {q : Int → List Int} {M : Mem} (h : JJn n q M) (hn : 0 ≤ n ∧ n ≤ 512)  {kw : Int} {Mw : Mem} (hw : (kw = 0 ∧ ∃ x Mc, (Mc = M ∧ (sm (fun r => M (20 * M (8 * r + 148) 5 + 48) 3) (M 0 12) ≠ 0 ∧ x = FP.ddiv (FP.i2d (iZ (sm (fun r => sm (fun t => M (8 * r + 154) t) (M (20 * M (8 * r + 148) 5 + 48) 3)) (M 0 12)))) (FP.i2d (iZ (sm (fun r => M (20 * M (8 * r + 148) 5 + 48) 3) (M 0 12)))))) ∧ Mw = up Mc 498 0 (x.toNat : Int)) ∨ (kw = 1 ∧ (sm (fun r => M (20 * M (8 * r + 148) 5 + 48) 3) (M 0 12) = 0) ∧ Mw = M)) : HI M Mw ∧ ∀ (zr : UInt64) (M9 : Mem), ((sm (fun r => Mw 476 (Mw 482 r)) (Mw 468 18) = 0 ∧ M9 = up Mw 468 0 1) ∨ (sm (fun r => Mw 476 (Mw 482 r)) (Mw 468 18) ≠ 0 ∧ zr = FP.ddiv (FP.i2d (iZ (sm (fun r => sm (fun t => Mw 489 (6 * r + t)) (Mw 476 (Mw 482 r))) (Mw 468 18)))) (FP.i2d (iZ (sm (fun r => Mw 476 (Mw 482 r)) (Mw 468 18)))) ∧ M9 = up Mw 468 0 0)) → M9 468 0 = kw ∧ (kw = 0 → Mw 498 0 = (zr.toNat : Int) ∧ vf_n64 zr) ∧ ∃ q2, JJn (n + 1) q2 M9 := by
  have c0 := h.cns.1
  have i0 := h.rb.rng
  rcases hw with ⟨hk, x, Mc, ⟨hMc, hq, hx⟩, hMw⟩ | ⟨hk, hc, hMw⟩
  · have e0 := hMc.symm
    subst e0
    have e0 := hMw.symm
    subst e0
    refine ⟨fun o k a b d => up_o (by omega), ?_⟩
    intro zr M2 hr
    have hJ := h.rd (x.toNat : Int)
    simp (disch := omega) only [up_o] at hr
    have e1 : sm (fun r => M (20 * M (8 * r + 148) 5 + 48) 3) (M 0 12) = sm (fun r => M 476 (M 482 r)) (M 468 18) := by
      rw [c0.2.2]
      exact sm_congr (by omega) (fun r r0 r1 => h.tc r0 r1)
    have e2 : sm (fun r => sm (fun t => M (8 * r + 154) t) (M (20 * M (8 * r + 148) 5 + 48) 3)) (M 0 12) = sm (fun r => sm (fun t => M 489 (6 * r + t)) (M 476 (M 482 r))) (M 468 18) := by
      rw [c0.2.2]
      refine sm_congr (by omega) (fun r r0 r1 => ?_)
      have a3 := (h.run r0 r1).2.2.1
      rw [h.tc r0 r1]
      exact sm_congr a3.1 (fun t t0 t1 => (h.sme r0 r1 t0 t1).2.1)
    have e3 := sm_range (f := fun r => M 476 (M 482 r)) (n := M 468 18) (c := 6) (by omega) (fun r r0 r1 => (h.run r0 r1).2.2.1)
    rcases hr with ⟨g1, g2⟩ | ⟨g1, g2, g3⟩
    · omega
    · rw [g3]
      refine ⟨by rw [up_s]; omega, fun _ => ?_, q, hJ.code 0⟩
      have hz : x = zr := by rw [hx, g2, e1, e2]
      rw [up_s, hz]
      refine ⟨rfl, ?_⟩
      rw [g2]
      exact dq_ok ⟨by omega, by omega⟩ g1
  · have e0 := hMw.symm
    subst e0
    refine ⟨fun _ _ _ _ _ => rfl, ?_⟩
    intro zr M2 hr
    have e1 : sm (fun r => M (20 * M (8 * r + 148) 5 + 48) 3) (M 0 12) = sm (fun r => M 476 (M 482 r)) (M 468 18) := by
      rw [c0.2.2]
      exact sm_congr (by omega) (fun r r0 r1 => h.tc r0 r1)
    rcases hr with ⟨g1, g2⟩ | ⟨g1, g2, g3⟩
    · rw [g2]
      exact ⟨by rw [up_s]; omega, fun w => by omega, q, h.code 1⟩
    · omega
