theorem RB.typed {M M' : Mem} (I : RB M) (f : HI2 M M') (r : 0 ≤ M' 468 1 ∧ M' 468 1 ≤ 20 ∧ 0 ≤ M' 468 5 ∧ M' 468 5 ≤ 4 ∧ 0 ≤ M' 468 6 ∧ M' 468 6 ≤ 6) (s : ∀ k, 0 ≤ k → k < M' 468 1 → SOK (M' 469 k) (M' 470 k) (M' 471 k)) : RB M' := by
  have i0 := I.rng
  obtain ⟨r1, r2, r3, r4, r5, r6, r7, r8, r9, r10, r11⟩ := id I
  unfold RB
  simp (disch := omega) only [f _ _]
  exact ⟨by omega, r2, r3, r4, r5, s, r7, r8, r9, r10, r11⟩
theorem ckK_congr {f g : Int → Int} {x : Int64} : ∀ n : Nat, (∀ k : Int, 0 ≤ k → k < n → f k = g k) → ckK f x n = ckK g x n := by
  intro n
  induction n with
  | zero => intro _; rfl
  | succ n ih =>
    intro h
    simp only [ckK]
    rw [ih (fun k a b => h k a (by omega)), h n (by omega) (by omega)]
theorem ckT_congr {f g : Int → Int → Int} {c d : Int → Int} {x : Int64} : ∀ n : Nat, (∀ t : Int, 0 ≤ t → t < n → c t = d t ∧ ∀ k, 0 ≤ k → k < c t → f t k = g t k) → ckT f c x n = ckT g d x n := by
  intro n
  induction n with
  | zero => intro _; rfl
  | succ n ih =>
    intro h
    have h2 := h n (by omega) (by omega)
    simp only [ckT]
    rw [ih (fun k a b => h k a (by omega)), ← h2.1, ckK_congr (f := f n) (g := g n) _ (fun k a b => h2.2 k a (by omega))]
theorem ckR_congr {f g : Int → Int → Int → Int} {c d : Int → Int → Int} {a b : Int → Int} : ∀ n : Nat, (∀ r : Int, 0 ≤ r → r < n → a r = b r ∧ ∀ t, 0 ≤ t → t < a r → c r t = d r t ∧ ∀ k, 0 ≤ k → k < c r t → f r t k = g r t k) → ckR f c a n = ckR g d b n := by
  intro n
  induction n with
  | zero => intro _; rfl
  | succ n ih =>
    intro h
    have h2 := h n (by omega) (by omega)
    simp only [ckR]
    rw [ih (fun k x y => h k x (by omega)), ← h2.1, ckT_congr (f := f n) (g := g n) (c := c n) (d := d n) _ (fun t x y => h2.2 t x (by omega))]
theorem s_step {n : Int} {q : Int → List Int} {M : Mem} (h : JJn n q M) (hn : 0 ≤ n ∧ n ≤ 512) (l a d : Int) (hl : 0 ≤ l ∧ l < 65536) (ha : rg a) (hd : rg d) {kw : Int} {Mw : Mem} (hw : (kw = 0 ∧ ∃ z Mc, (SOK l a d ∧ M 1 3 < 20 ∧ z = M 1 3 + 1 ∧ Mc = up (up (up (up M 2 (M 1 3) l) 3 (M 1 3) a) 4 (M 1 3) d) 1 3 (M 1 3 + 1)) ∧ Mw = up Mc 497 0 (wr z)) ∨ (kw = 1 ∧ (¬ SOK l a d) ∧ Mw = M) ∨ (kw = 2 ∧ (SOK l a d ∧ M 1 3 = 20) ∧ Mw = M)) : HI M Mw ∧ ∀ (zr : Int) (M9 : Mem), ((¬ SOK l a d ∧ M9 = up Mw 468 0 1) ∨ ((SOK l a d ∧ Mw 468 1 = 20) ∧ M9 = up Mw 468 0 2) ∨ ((SOK l a d ∧ Mw 468 1 < 20 ∧ zr = Mw 468 1 + 1) ∧ M9 = up (up (up (up (up Mw 468 0 0) 469 (Mw 468 1) l) 470 (Mw 468 1) a) 471 (Mw 468 1) d) 468 1 (Mw 468 1 + 1))) → M9 468 0 = kw ∧ (kw = 0 → Mw 497 0 = wr zr) ∧ ∃ q2, JJn (n + 1) q2 M9 := by
  obtain ⟨⟨t1, t2, t3⟩, t4, t5, t6⟩ := h.ty
  have i0 := h.rb.rng
  rcases hw with ⟨hk, z, Mc, ⟨hS, hl1, hz, hMc⟩, hMw⟩ | ⟨hk, hS, hMw⟩ | ⟨hk, ⟨hS, h20⟩, hMw⟩
  · rw [t1] at hMc hz hl1
    have e0 := hMc.symm
    subst e0
    have e0 := hMw.symm
    subst e0
    refine ⟨fun o k a b d => by simp (disch := omega) only [up_o], ?_⟩
    intro zr M2 hr
    simp (disch := omega) only [up_o] at hr
    rcases hr with ⟨g, -⟩ | ⟨⟨-, g⟩, -⟩ | ⟨⟨-, g1, g2⟩, rfl⟩
    · exact absurd hS g
    · omega
    · refine ⟨by simp (disch := omega) only [up_s, up_o, up_k]; omega, fun _ => by rw [up_s, hz, g2], q, ?_⟩
      refine h.of (by omega) (fun o k a => by simp (disch := omega) only [up_o]) (fun o k a b d e => by simp (disch := omega) only [up_n]) (h.rb.typed (fun o k a b d e => by simp (disch := omega) only [up_n]) (by simp (disch := omega) only [up_s, up_o, up_k]; omega) (fun k k0 k1 => ?_)) ⟨⟨by simp (disch := omega) only [up_s, up_o, up_k], by simp (disch := omega) only [up_s, up_o, up_k]; exact t2, by simp (disch := omega) only [up_s, up_o, up_k]; exact t3⟩, fun k k0 k1 => ?_, fun k k0 k1 => ?_, fun k k0 k1 => ?_⟩
      · simp (disch := omega) only [up_s, up_o, up_k] at k1
        by_cases e : k = M 468 1
        · rw [e]
          simp (disch := omega) only [up_s, up_o, up_k]
          exact hS
        · simp (disch := omega) only [up_s, up_o, up_k]
          exact h.rb.stp k k0 (by omega)
      · simp (disch := omega) only [up_s, up_o, up_k] at k1
        by_cases e : k = M 468 1
        · rw [e]
          exact ⟨by simp (disch := omega) only [up_s, up_o, up_k], by simp (disch := omega) only [up_s, up_o, up_k], by simp (disch := omega) only [up_s, up_o, up_k]⟩
        · simp (disch := omega) only [up_s, up_o, up_k]
          exact t4 k k0 (by omega)
      · simp (disch := omega) only [up_s, up_o, up_k] at k1 ⊢
        exact t5 k k0 k1
      · simp (disch := omega) only [up_s, up_o, up_k] at k1 ⊢
        exact t6 k k0 k1
  · have e0 := hMw.symm
    subst e0
    refine ⟨fun _ _ _ _ _ => rfl, fun zr M2 hr => ?_⟩
    rcases hr with ⟨g, rfl⟩ | ⟨⟨g, -⟩, -⟩ | ⟨⟨g, -⟩, -⟩
    · exact ⟨by rw [up_s]; omega, fun w => by omega, q, h.code _⟩
    · exact absurd g hS
    · exact absurd g hS
  · have e0 := hMw.symm
    subst e0
    refine ⟨fun _ _ _ _ _ => rfl, fun zr M2 hr => ?_⟩
    rcases hr with ⟨g, -⟩ | ⟨⟨g, -⟩, rfl⟩ | ⟨⟨g, g1, -⟩, -⟩
    · exact absurd hS g
    · exact ⟨by rw [up_s]; omega, fun w => by omega, q, h.code _⟩
    · omega
theorem s_number {n : Int} {q : Int → List Int} {M : Mem} (h : JJn n q M) (hn : 0 ≤ n ∧ n ≤ 512) (v b : Int) (hv : rg v) (b0 : b = 0 ∨ b = 1) {kw : Int} {Mw : Mem} (hw : (kw = 0 ∧ ∃ z Mc, ((-999 ≤ v ∧ v ≤ 999) ∧ ((b = 1 ∧ M 5 3 < 6 ∧ z = M 5 3 + 1 ∧ Mc = up (up M 7 (M 5 3) v) 5 3 (M 5 3 + 1)) ∨ (b = 0 ∧ M 5 2 < 4 ∧ z = M 5 2 + 1 ∧ Mc = up (up M 6 (M 5 2) v) 5 2 (M 5 2 + 1)))) ∧ Mw = up Mc 497 0 (wr z)) ∨ (kw = 1 ∧ (v < -999 ∨ 999 < v) ∧ Mw = M) ∨ (kw = 2 ∧ ((-999 ≤ v ∧ v ≤ 999) ∧ ((b = 1 ∧ M 5 3 = 6) ∨ (b = 0 ∧ M 5 2 = 4))) ∧ Mw = M)) : HI M Mw ∧ ∀ (zr : Int) (M9 : Mem), (((v < -999 ∨ 999 < v) ∧ M9 = up Mw 468 0 1) ∨ (((-999 ≤ v ∧ v ≤ 999) ∧ ((b = 1 ∧ Mw 468 6 = 6) ∨ (b = 0 ∧ Mw 468 5 = 4))) ∧ M9 = up Mw 468 0 2) ∨ ((-999 ≤ v ∧ v ≤ 999) ∧ ((b = 1 ∧ Mw 468 6 < 6 ∧ zr = Mw 468 6 + 1 ∧ M9 = up (up (up Mw 468 0 0) 473 (Mw 468 6) v) 468 6 (Mw 468 6 + 1)) ∨ (b = 0 ∧ Mw 468 5 < 4 ∧ zr = Mw 468 5 + 1 ∧ M9 = up (up (up Mw 468 0 0) 472 (Mw 468 5) v) 468 5 (Mw 468 5 + 1))))) → M9 468 0 = kw ∧ (kw = 0 → Mw 497 0 = wr zr) ∧ ∃ q2, JJn (n + 1) q2 M9 := by
  obtain ⟨⟨t1, t2, t3⟩, t4, t5, t6⟩ := h.ty
  have i0 := h.rb.rng
  rcases hw with ⟨hk, z, Mc, ⟨hv9, hq⟩, hMw⟩ | ⟨hk, hS, hMw⟩ | ⟨hk, ⟨hS, h20⟩, hMw⟩
  · rcases hq with ⟨hb, hl1, hz, hMc⟩ | ⟨hb, hl1, hz, hMc⟩
    · rw [t3] at hMc hz hl1
      have e0 := hMc.symm
      subst e0
      have e0 := hMw.symm
      subst e0
      refine ⟨fun o k a b d => by simp (disch := omega) only [up_o], fun zr M2 hr => ?_⟩
      simp (disch := omega) only [up_o] at hr
      rcases hr with ⟨g, -⟩ | ⟨⟨g, g2⟩, -⟩ | ⟨g, ⟨g1, g2, g3, rfl⟩ | ⟨g1, g2, g3, rfl⟩⟩
      · omega
      · omega
      · refine ⟨by simp (disch := omega) only [up_s, up_o, up_k] <;> omega, fun _ => by rw [up_s, hz, g3], q, ?_⟩
        refine h.of (by omega) (fun o k a => by simp (disch := omega) only [up_o]) (fun o k a b d e => by simp (disch := omega) only [up_n]) (h.rb.typed (fun o k a b d e => by simp (disch := omega) only [up_n]) (by simp (disch := omega) only [up_s, up_o, up_k] <;> omega) (fun k k0 k1 => by simp (disch := omega) only [up_s, up_o, up_k] at k1 ⊢; exact h.rb.stp k k0 k1)) ⟨⟨by simp (disch := omega) only [up_s, up_o, up_k] <;> omega, by simp (disch := omega) only [up_s, up_o, up_k] <;> omega, by simp (disch := omega) only [up_s, up_o, up_k] <;> omega⟩, fun k k0 k1 => by simp (disch := omega) only [up_s, up_o, up_k] at k1 ⊢; exact t4 k k0 k1, fun k k0 k1 => ?_, fun k k0 k1 => ?_⟩
        · simp (disch := omega) only [up_s, up_o, up_k] at k1 ⊢
          exact t5 k k0 k1
        · simp (disch := omega) only [up_s, up_o, up_k] at k1
          by_cases e : k = M 468 6
          · rw [e]
            simp (disch := omega) only [up_s, up_o, up_k]
          · simp (disch := omega) only [up_s, up_o, up_k]
            exact t6 k k0 (by omega)
      · omega
    · rw [t2] at hMc hz hl1
      have e0 := hMc.symm
      subst e0
      have e0 := hMw.symm
      subst e0
      refine ⟨fun o k a b d => by simp (disch := omega) only [up_o], fun zr M2 hr => ?_⟩
      simp (disch := omega) only [up_o] at hr
      rcases hr with ⟨g, -⟩ | ⟨⟨g, g2⟩, -⟩ | ⟨g, ⟨g1, g2, g3, rfl⟩ | ⟨g1, g2, g3, rfl⟩⟩
      · omega
      · omega
      · omega
      · refine ⟨by simp (disch := omega) only [up_s, up_o, up_k] <;> omega, fun _ => by rw [up_s, hz, g3], q, ?_⟩
        refine h.of (by omega) (fun o k a => by simp (disch := omega) only [up_o]) (fun o k a b d e => by simp (disch := omega) only [up_n]) (h.rb.typed (fun o k a b d e => by simp (disch := omega) only [up_n]) (by simp (disch := omega) only [up_s, up_o, up_k] <;> omega) (fun k k0 k1 => by simp (disch := omega) only [up_s, up_o, up_k] at k1 ⊢; exact h.rb.stp k k0 k1)) ⟨⟨by simp (disch := omega) only [up_s, up_o, up_k] <;> omega, by simp (disch := omega) only [up_s, up_o, up_k] <;> omega, by simp (disch := omega) only [up_s, up_o, up_k] <;> omega⟩, fun k k0 k1 => by simp (disch := omega) only [up_s, up_o, up_k] at k1 ⊢; exact t4 k k0 k1, fun k k0 k1 => ?_, fun k k0 k1 => ?_⟩
        · simp (disch := omega) only [up_s, up_o, up_k] at k1
          by_cases e : k = M 468 5
          · rw [e]
            simp (disch := omega) only [up_s, up_o, up_k]
          · simp (disch := omega) only [up_s, up_o, up_k]
            exact t5 k k0 (by omega)
        · simp (disch := omega) only [up_s, up_o, up_k] at k1 ⊢
          exact t6 k k0 k1

  · have e0 := hMw.symm
    subst e0
    refine ⟨fun _ _ _ _ _ => rfl, fun zr M2 hr => ?_⟩
    rcases hr with ⟨g, rfl⟩ | ⟨⟨g, -⟩, -⟩ | ⟨g, -⟩
    · exact ⟨by rw [up_s]; omega, fun w => by omega, q, h.code _⟩
    · omega
    · omega
  · have e0 := hMw.symm
    subst e0
    refine ⟨fun _ _ _ _ _ => rfl, fun zr M2 hr => ?_⟩
    rcases hr with ⟨g, -⟩ | ⟨⟨g, -⟩, rfl⟩ | ⟨g, ⟨g1, g2, -⟩ | ⟨g1, g2, -⟩⟩
    · omega
    · exact ⟨by rw [up_s]; omega, fun w => by omega, q, h.code _⟩
    · omega
    · omega
theorem s_wipe {n : Int} {q : Int → List Int} {M : Mem} (h : JJn n q M) (hn : 0 ≤ n ∧ n ≤ 512) (b : Int) (hb : b = 0 ∨ b = 1) {z : Int} {Mw : Mem} (hw : (b = 1 ∧ z = M 1 3 ∧ Mw = up M 1 3 0) ∨ (b = 0 ∧ z = M 5 2 + M 5 3 ∧ Mw = up (up M 5 2 0) 5 3 0)) : HI M Mw ∧ ∀ (zr : Int) (M9 : Mem), ((b = 1 ∧ zr = Mw 468 1 ∧ M9 = up (up Mw 468 0 0) 468 1 0) ∨ (b = 0 ∧ zr = Mw 468 5 + Mw 468 6 ∧ M9 = up (up (up Mw 468 0 0) 468 5 0) 468 6 0)) → z = zr ∧ ∃ q2, JJn (n + 1) q2 M9 := by
  obtain ⟨⟨t1, t2, t3⟩, t4, t5, t6⟩ := h.ty
  have i0 := h.rb.rng
  rcases hw with ⟨hb1, hz, rfl⟩ | ⟨hb1, hz, rfl⟩
  · refine ⟨fun o k a b d => by simp (disch := omega) only [up_o], fun zr M2 hr => ?_⟩
    simp (disch := omega) only [up_o] at hr
    rcases hr with ⟨g1, g2, rfl⟩ | ⟨g1, g2, rfl⟩
    · refine ⟨by omega, q, ?_⟩
      refine h.of (by omega) (fun o k a => by simp (disch := omega) only [up_o]) (fun o k a b d e => by simp (disch := omega) only [up_n]) (h.rb.typed (fun o k a b d e => by simp (disch := omega) only [up_n]) (by simp (disch := omega) only [up_s, up_o, up_k] <;> omega) (fun k k0 k1 => by simp (disch := omega) only [up_s, up_o, up_k] at k1; omega)) ⟨⟨by simp (disch := omega) only [up_s, up_o, up_k], by simp (disch := omega) only [up_s, up_o, up_k] <;> omega, by simp (disch := omega) only [up_s, up_o, up_k] <;> omega⟩, fun k k0 k1 => by simp (disch := omega) only [up_s, up_o, up_k] at k1; omega, fun k k0 k1 => by simp (disch := omega) only [up_s, up_o, up_k] at k1 ⊢; exact t5 k k0 k1, fun k k0 k1 => by simp (disch := omega) only [up_s, up_o, up_k] at k1 ⊢; exact t6 k k0 k1⟩
    · omega
  · refine ⟨fun o k a b d => by simp (disch := omega) only [up_o], fun zr M2 hr => ?_⟩
    simp (disch := omega) only [up_o] at hr
    rcases hr with ⟨g1, g2, rfl⟩ | ⟨g1, g2, rfl⟩
    · omega
    · refine ⟨by omega, q, ?_⟩
      refine h.of (by omega) (fun o k a => by simp (disch := omega) only [up_o]) (fun o k a b d e => by simp (disch := omega) only [up_n]) (h.rb.typed (fun o k a b d e => by simp (disch := omega) only [up_n]) (by simp (disch := omega) only [up_s, up_o, up_k] <;> omega) (fun k k0 k1 => by simp (disch := omega) only [up_s, up_o, up_k] at k1 ⊢; exact h.rb.stp k k0 k1)) ⟨⟨by simp (disch := omega) only [up_s, up_o, up_k] <;> omega, by simp (disch := omega) only [up_s, up_o, up_k], by simp (disch := omega) only [up_s, up_o, up_k]⟩, fun k k0 k1 => by simp (disch := omega) only [up_s, up_o, up_k] at k1 ⊢; exact t4 k k0 k1, fun k k0 k1 => by simp (disch := omega) only [up_s, up_o, up_k] at k1; omega, fun k k0 k1 => by simp (disch := omega) only [up_s, up_o, up_k] at k1; omega⟩
theorem s_kept {n : Int} {q : Int → List Int} {M : Mem} (h : JJn n q M) (hn : 0 ≤ n ∧ n ≤ 512)  {z : Int} {Mw : Mem} (hw : Mw = M ∧ z = M 13 3) : HI M Mw ∧ ∀ (zr : Int) (M9 : Mem), (M9 = up Mw 468 0 0 ∧ zr = kpt Mw) → z = zr ∧ ∃ q2, JJn (n + 1) q2 M9 := by
  obtain ⟨rfl, hz⟩ := hw
  refine ⟨fun _ _ _ _ _ => rfl, ?_⟩
  rintro zr M2 ⟨rfl, g⟩
  exact ⟨hz.trans (h.kep.trans g.symm), q, h.code 0⟩
theorem s_calledBack {n : Int} {q : Int → List Int} {M : Mem} (h : JJn n q M) (hn : 0 ≤ n ∧ n ≤ 512)  {z : Int} {Mw : Mem} (hw : Mw = M ∧ z = M 17 5) : HI M Mw ∧ ∀ (zr : Int) (M9 : Mem), (M9 = up Mw 468 0 0 ∧ zr = Mw 468 35) → z = zr ∧ ∃ q2, JJn (n + 1) q2 M9 := by
  obtain ⟨rfl, hz⟩ := hw
  refine ⟨fun _ _ _ _ _ => rfl, ?_⟩
  rintro zr M2 ⟨rfl, g⟩
  exact ⟨hz.trans (h.bal.2.2.2.2.1.1.symm.trans g.symm), q, h.code 0⟩
theorem s_checksum {n : Int} {q : Int → List Int} {M : Mem} (h : JJn n q M) (hn : 0 ≤ n ∧ n ≤ 512)  {z : Int64} {Mw : Mem} (hw : Mw = M ∧ z = ckR (fun r t k => M 14 (M (8 * r + 155) t * 6 + k)) (fun r t => M 15 (M (8 * r + 155) t)) (fun r => M (20 * M (8 * r + 148) 5 + 48) 3) (M 0 12).toNat) : HI M Mw ∧ ∀ (zr : Int64) (M9 : Mem), (M9 = up Mw 468 0 0 ∧ zr = cks Mw) → z = zr ∧ ∃ q2, JJn (n + 1) q2 M9 := by
  obtain ⟨rfl, hz⟩ := hw
  refine ⟨fun _ _ _ _ _ => rfl, ?_⟩
  rintro zr M2 ⟨rfl, g⟩
  refine ⟨?_, q, h.code 0⟩
  have c0 := h.cns.1
  have i0 := h.rb.rng
  rw [hz, g, c0.2.2]
  unfold cks
  refine ckR_congr _ (fun r r0 r1 => ⟨h.tc r0 (by omega), fun t t0 t1 => ?_⟩)
  rw [h.tc r0 (by omega)] at t1
  obtain ⟨x1, x2, x3, x4, x5, x6, x7⟩ := h.sme r0 (by omega) t0 t1
  exact ⟨x4, fun k k0 k1 => x5 k k0 (by rw [← x4]; exact k1)⟩
theorem s_isTrue {n : Int} {q : Int → List Int} {M : Mem} (h : JJn n q M) (hn : 0 ≤ n ∧ n ≤ 512)  {z : Int} {Mw : Mem} (hw : z = 1 ∧ ∀ a k, ¬ (10 ≤ a ∧ a ≤ 12) → ¬ (41 ≤ a ∧ a ≤ 47) → Mw a k = M a k) : HI M Mw ∧ ∀ (zr : Int) (M9 : Mem), (M9 = up Mw 468 0 0 ∧ zr = 1) → z = zr ∧ ∃ q2, JJn (n + 1) q2 M9 := by
  obtain ⟨hz, e⟩ := hw
  refine ⟨fun o k a b d => e o k (by omega) (by omega), ?_⟩
  rintro zr M2 ⟨rfl, g⟩
  exact ⟨hz.trans g.symm, q, (h.eqv (Int.le_refl _) (fun o k a => e o k (by omega) (by omega)) (fun o k a b => e o k (by omega) (by omega)) (fun o k a b d => e o k (by omega) (by omega))).code 0⟩
