/-! readings, alike -/
theorem cnt_tail {Q : Int → Prop} {n m : Int} (n0 : 0 ≤ n) (nm : n ≤ m) (h : ∀ z, n ≤ z → z < m → ¬ Q z) : cnt Q m = cnt Q n := by
  have e := int_ind (C := fun k => n + k ≤ m → cnt Q (n + k) = cnt Q n) (m - n) (by omega) (fun _ => by rw [Int.add_zero]) (fun z z0 z1 ih hz => by
    rw [show n + (z + 1) = n + z + 1 by omega, cnt_f (by omega) (h (n + z) (by omega) (by omega)), ih (by omega)]) (by omega)
  rwa [show n + (m - n) = m by omega] at e
theorem cnt_flat5 (P : Int → Prop) (Q : Int → Prop) {z c : Int} (z0 : 0 ≤ z) (c0 : 0 ≤ c) (c6 : c ≤ 5) (h : ∀ t, 0 ≤ t → t < 5 → (Q (5 * z + t) ↔ (t < c ∧ P t))) : cnt Q (5 * (z + 1)) = cnt Q (5 * z) + cnt P c := by
  have e := int_ind (C := fun k => k ≤ 5 → cnt Q (5 * z + k) = cnt Q (5 * z) + cnt P (if k < c then k else c)) 5 (by omega) (fun _ => by
    rw [Int.add_zero]
    by_cases w : 0 < c
    · rw [if_pos w, cnt_0]; omega
    · rw [if_neg w, show c = 0 by omega, cnt_0]; omega) (fun k k0 k1 ih hk => by
    rw [show 5 * z + (k + 1) = 5 * z + k + 1 by omega]
    have hq := h k k0 k1
    by_cases w : k < c
    · have ih2 := ih (by omega)
      rw [if_pos w] at ih2
      rw [show (if k + 1 < c then k + 1 else c) = k + 1 by split <;> omega]
      by_cases hp : P k
      · rw [cnt_t (by omega) (hq.mpr ⟨w, hp⟩), cnt_t k0 hp, ih2]; omega
      · rw [cnt_f (by omega) (fun x => hp (hq.mp x).2), cnt_f k0 hp, ih2]
    · have ih2 := ih (by omega)
      rw [if_neg w] at ih2
      rw [if_neg (by omega), cnt_f (by omega) (fun x => w (hq.mp x).1), ih2]) (by omega)
  rw [show 5 * (z + 1) = 5 * z + 5 by omega, e]
  congr 2
  split <;> omega
theorem sm_flat5 (P : Int → Int → Prop) (c : Int) {n : Int} (hn : 0 ≤ n) (hc : 0 ≤ c ∧ c ≤ 5) : sm (fun r => cnt (fun t => P r t) c) n = cnt (fun j => j % 5 < c ∧ P (j / 5) (j % 5)) (5 * n) := by
  refine int_ind (C := fun k => k ≤ n → sm (fun r => cnt (fun t => P r t) c) k = cnt (fun j => j % 5 < c ∧ P (j / 5) (j % 5)) (5 * k)) n hn (fun _ => by rw [sm_0]; rfl) (fun z z0 z1 ih hz => ?_) (Int.le_refl _)
  rw [sm_s z0, ih (by omega), cnt_flat5 (P z) _ z0 hc.1 hc.2 (fun t t0 t1 => by
    show ((5 * z + t) % 5 < c ∧ P ((5 * z + t) / 5) ((5 * z + t) % 5)) ↔ _
    rw [show (5 * z + t) % 5 = t by omega, show (5 * z + t) / 5 = z by omega])]
section J5
variable {n : Int} {q : Int → List Int} {M : Mem}
theorem JJn.out (h : JJn n q M) {c : Int} (c0 : 0 ≤ c) (c1 : c < 4) : M 26 c = outc M c := by
  have i0 := h.rb.rng
  obtain ⟨b1, b2, b3, b4, b5, b6⟩ := h.bal
  have hb := (b6 c c0 c1).2.2.2.2.2.2.2.1
  rw [hb]
  unfold outc
  rw [sm_flat5 (fun t p => M 474 p = c ∧ M 493 (5 * t + p) = 111) (M 468 9) (n := M 468 17) (by omega) (by omega)]
  rw [cnt_tail (n := 5 * M 468 17) (by omega) (by omega) (fun z z0 z1 w => by have := b2 z (by omega) z1 (Or.inl z0); have := w.1; omega)]
  refine cnt_congr (by omega) (fun x x0 x1 => ?_)
  have e := b3 x x0 x1
  rw [show 5 * (x / 5) + x % 5 = x by omega, e]
  unfold COL
  constructor
  · rintro ⟨w1, w2⟩
    refine ⟨?_, w2, w1⟩
    rcases Int.lt_or_le (x % 5) (M 468 9) with w | w
    · exact w
    · have := b2 x x0 (by omega) (Or.inr w); omega
  · rintro ⟨w0, w1, w2⟩
    exact ⟨w2, w1⟩
theorem JJn.tc (h : JJn n q M) {r : Int} (r0 : 0 ≤ r) (r1 : r < M 468 18) : M (20 * M (8 * r + 148) 5 + 48) 3 = M 476 (M 482 r) := by
  obtain ⟨-, -, -, a4, a5⟩ := h.run r0 r1
  rw [a5]
  exact a4
theorem JJn.ro (h : JJn n q M) (v : Int) : JJn n q (up M 497 0 v) := h.eqv (Int.le_refl _) (fun o k a => up_o (by omega)) (fun o k a b => up_o (by omega)) (fun o k a b d => up_o (by omega))
theorem JJn.rd (h : JJn n q M) (v : Int) : JJn n q (up M 498 0 v) := h.eqv (Int.le_refl _) (fun o k a => up_o (by omega)) (fun o k a b => up_o (by omega)) (fun o k a b d => up_o (by omega))
theorem cpn_up {v t p : Int} : cpn (up M 497 0 v) t p = cpn M t p := by unfold cpn; simp (disch := omega) only [up_o]
/-- the balloons of a colour, as the class holds them -/
def bM (M : Mem) (q : Int → List Int) (c : Int) : BSt := (fun x => if 0 ≤ x ∧ x < 40 then M 18 x else 45, q c, M 25 c, M 17 5, M 26 c)
theorem bM1 {x c : Int} (x0 : 0 ≤ x) (x1 : x < 40) : (bM M q c).1 x = M 18 x := if_pos ⟨x0, x1⟩
theorem JJn.bqn (h : JJn n q M) (n0 : 0 ≤ n) {c : Int} (c0 : 0 ≤ c) (c1 : c < 4) : RAb M c (bM M q c) ∧ RBb M c (bM M q c) ∧ QS (20 * n) (bM M q c) ∧ NSL (bM M q c) := by
  have i0 := h.rb.rng
  obtain ⟨b1, b2, b3, b4, b5, b6⟩ := h.bal
  obtain ⟨a1, a2, a3, a4, a5, a6, a7, a8, a9⟩ := b6 c c0 c1
  refine ⟨⟨fun x x0 x1 => (bM1 x0 x1).symm, a1, rfl, rfl, rfl⟩, ⟨fun x x0 x1 => ?_, a2, a4, b5.1⟩, ⟨⟨a3, fun x hx => ?_⟩, ⟨⟨?_, ?_⟩, ⟨?_, ?_⟩, ⟨?_, ?_⟩⟩, fun x => ?_⟩, ?_⟩
  · rw [bM1 x0 (by omega)]; exact b3 x x0 x1
  · obtain ⟨x0, x1, x2⟩ := (a2.1 x).mp hx
    refine ⟨x0, by omega, ?_⟩
    rw [bM1 x0 (by omega), ← b3 x x0 x1]
    exact x2.1
  · show _ ≤ M 25 c; omega
  · show M 25 c ≤ _; omega
  · show _ ≤ M 17 5; omega
  · show M 17 5 ≤ _; omega
  · show _ ≤ M 26 c; omega
  · show M 26 c ≤ _; omega
  · show (if 0 ≤ x ∧ x < 40 then M 18 x else 45) = 45 ∨ (if 0 ≤ x ∧ x < 40 then M 18 x else 45) = 111 ∨ (if 0 ≤ x ∧ x < 40 then M 18 x else 45) = 113
    split
    · rename_i w; exact b1 x w.1 w.2
    · exact Or.inl rfl
  · show (q c).length = 0 ∨ M 25 c ≤ 0
    omega
end J5
