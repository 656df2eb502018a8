/-! what is kept and shared: alike -/
theorem sm_tail {f : Int → Int} {n m : Int} (n0 : 0 ≤ n) (nm : n ≤ m) (h : ∀ z, n ≤ z → z < m → f z = 0) : sm f m = sm f n := by
  have e := int_ind (C := fun k => n + k ≤ m → sm f (n + k) = sm f n) (m - n) (by omega) (fun _ => by rw [Int.add_zero]) (fun z z0 z1 ih hz => by
    rw [show n + (z + 1) = n + z + 1 by omega, sm_s (by omega), ih (by omega), h (n + z) (by omega) (by omega)]; omega) (by omega)
  rwa [show n + (m - n) = m by omega] at e
theorem cnt_flat1 (P : Int → Prop) (Q : Int → Prop) {z c : Int} (z0 : 0 ≤ z) (c0 : 0 ≤ c) (c6 : c ≤ 6) (h : ∀ t, 0 ≤ t → t < 6 → (Q (6 * z + t) ↔ (t < c ∧ P t))) : cnt Q (6 * (z + 1)) = cnt Q (6 * z) + cnt P c := by
  have e := int_ind (C := fun k => k ≤ 6 → cnt Q (6 * z + k) = cnt Q (6 * z) + cnt P (if k < c then k else c)) 6 (by omega) (fun _ => by
    rw [Int.add_zero]
    by_cases w : 0 < c
    · rw [if_pos w, cnt_0]; omega
    · rw [if_neg w, show c = 0 by omega, cnt_0]; omega) (fun k k0 k1 ih hk => by
    rw [show 6 * z + (k + 1) = 6 * z + k + 1 by omega]
    have hq := h k k0 k1
    by_cases w : k < c
    · have ih2 := ih (by omega)
      rw [if_pos w] at ih2
      rw [show (if k + 1 < c then k + 1 else c) = k + 1 by split <;> omega]
      by_cases hp : P k
      · rw [cnt_t (by omega) (hq.mpr ⟨w, hp⟩), cnt_t k0 hp, ih2]; omega
      · rw [cnt_f (by omega) (fun x => hp (hq.mp x).2), cnt_f k0 hp, ih2]
    · have ih2 := ih (by omega)
      rw [if_neg w] at ih2
      rw [if_neg (by omega), cnt_f (by omega) (fun x => w (hq.mp x).1), ih2]) (by omega)
  rw [show 6 * (z + 1) = 6 * z + 6 by omega, e]
  congr 2
  split <;> omega
theorem sm_flat (P : Int → Int → Prop) (c : Int → Int) {n : Int} (hn : 0 ≤ n) (hc : ∀ r, 0 ≤ r → r < n → 0 ≤ c r ∧ c r ≤ 6) : sm (fun r => cnt (fun t => P r t) (c r)) n = cnt (fun j => j % 6 < c (j / 6) ∧ P (j / 6) (j % 6)) (6 * n) := by
  refine int_ind (C := fun k => k ≤ n → sm (fun r => cnt (fun t => P r t) (c r)) k = cnt (fun j => j % 6 < c (j / 6) ∧ P (j / 6) (j % 6)) (6 * k)) n hn (fun _ => by rw [sm_0]; rfl) (fun z z0 z1 ih hz => ?_) (Int.le_refl _)
  have hz2 := hc z z0 z1
  rw [sm_s z0, ih (by omega), cnt_flat1 (P z) _ z0 hz2.1 hz2.2 (fun t t0 t1 => by
    show ((6 * z + t) % 6 < c ((6 * z + t) / 6) ∧ P ((6 * z + t) / 6) ((6 * z + t) % 6)) ↔ _
    rw [show (6 * z + t) % 6 = t by omega, show (6 * z + t) / 6 = z by omega])]
section J3
variable {n : Int} {q : Int → List Int} {M : Mem}
/-- a test of a run that there is -/
def VLD (M : Mem) (j : Int) : Prop := j / 6 < M 468 18 ∧ j % 6 < M 476 (M 482 (j / 6))
theorem JJn.slo (h : JJn n q M) {j : Int} (j0 : 0 ≤ j) (j1 : j < 240) : (VLD M j → 0 ≤ sl M j ∧ sl M j < 240) ∧ (¬ VLD M j → sl M j = -1) := by
  have e : sl M j = M (8 * (j / 6) + 155) (j % 6) := by unfold sl; rw [show 155 + 8 * (j / 6) = 8 * (j / 6) + 155 by omega]
  rw [e]
  refine ⟨fun w => (h.sme (by omega) w.1 (by omega) w.2).2.2.1, fun w => h.slt _ _ (by omega) (by omega) (by omega) (by omega) w⟩
theorem JJn.use (h : JJn n q M) {s : Int} (s0 : 0 ≤ s) (s1 : s < 240) : M 16 s = cnt (fun j => VLD M j ∧ sl M j = s) 240 := by
  rw [h.si.1 s s0 s1]
  refine cnt_congr (by omega) (fun j j0 j1 => ?_)
  have e := h.slo j0 j1
  constructor
  · rintro ⟨-, w⟩
    refine ⟨?_, w⟩
    by_cases v : VLD M j
    · exact v
    · have := e.2 v; omega
  · rintro ⟨-, w⟩
    exact ⟨by omega, w⟩
theorem JJn.lik (h : JJn n q M) {r t r' u : Int} (r0 : 0 ≤ r) (r1 : r < M 468 18) (t0 : 0 ≤ t) (t1 : t < M 476 (M 482 r)) (q0 : 0 ≤ r') (q1 : r' < M 468 18) (u0 : 0 ≤ u) (u1 : u < M 476 (M 482 r')) : Lik M r t r' u ↔ M (8 * r + 155) t = M (8 * r' + 155) u := by
  obtain ⟨-, -, a3, a4, a5, a6, a7⟩ := h.sme r0 r1 t0 t1
  obtain ⟨-, -, b3, b4, b5, b6, b7⟩ := h.sme q0 q1 u0 u1
  have i0 := h.rb.rng
  have c1 := (h.run r0 r1).2.2.1
  have c2 := (h.run q0 q1).2.2.1
  have us : ∀ x y, 0 ≤ x → x < M 468 18 → 0 ≤ y → y < M 476 (M 482 x) → 0 < M 16 (M (8 * x + 155) y) := fun x y x0 x1 y0 y1 => by
    have c3 := (h.run x0 x1).2.2.1
    have s := (h.sme x0 x1 y0 y1).2.2.1
    rw [h.use s.1 s.2]
    refine cnt_some (z := 6 * x + y) (by omega) (by omega) ⟨⟨?_, ?_⟩, sl_at y0 (by omega)⟩
    · rw [show (6 * x + y) / 6 = x by omega]; exact x1
    · rw [show (6 * x + y) / 6 = x by omega, show (6 * x + y) % 6 = y by omega]; exact y1
  constructor
  · rintro ⟨w1, w2⟩
    refine Classical.byContradiction fun hn => ?_
    refine h.si.2.2.1 _ _ a3.1 a3.2 b3.1 b3.2 (us r t r0 r1 t0 t1) (us r' u q0 q1 u0 u1) hn ⟨by rw [a4, b4]; exact w1, fun k k0 k1 => ?_⟩
    rw [a4] at k1
    rw [a5 k k0 k1, b5 k k0 (by omega)]
    exact w2 k k0 k1
  · intro w
    refine ⟨by rw [← a4, ← b4, w], fun k k0 k1 => ?_⟩
    have e : M 491 (6 * r + t) = M 491 (6 * r' + u) := by rw [← a4, ← b4, w]
    rw [← a5 k k0 k1, ← b5 k k0 (by omega), w]
theorem JJn.flat (h : JJn n q M) (P : Int → Int → Prop) : sm (fun r => cnt (fun t => P r t) (M 476 (M 482 r))) (M 468 18) = cnt (fun j => VLD M j ∧ P (j / 6) (j % 6)) 240 := by
  have i0 := h.rb.rng
  have e := sm_flat P (fun r => if r < M 468 18 then M 476 (M 482 r) else 0) (n := 40) (by omega) (fun r r0 r1 => by
    show 0 ≤ (if r < M 468 18 then M 476 (M 482 r) else 0) ∧ (if r < M 468 18 then M 476 (M 482 r) else 0) ≤ 6
    split
    · rename_i w; exact (h.run r0 w).2.2.1
    · omega)
  rw [sm_tail (n := M 468 18) (by omega) (by omega) (fun z z0 z1 => by show cnt _ (if z < M 468 18 then M 476 (M 482 z) else 0) = 0; rw [if_neg (by omega)]; exact cnt_0 _)] at e
  rw [sm_congr (h := fun r => cnt (fun t => P r t) (if r < M 468 18 then M 476 (M 482 r) else 0)) (by omega) (fun z z0 z1 => by rw [if_pos z1]), e]
  refine cnt_congr (by omega) (fun j j0 j1 => ?_)
  show (j % 6 < (if j / 6 < M 468 18 then M 476 (M 482 (j / 6)) else 0) ∧ _) ↔ _
  unfold VLD
  by_cases w : j / 6 < M 468 18
  · rw [if_pos w]
    constructor
    · rintro ⟨a, b⟩; exact ⟨⟨w, a⟩, b⟩
    · rintro ⟨⟨-, a⟩, b⟩; exact ⟨a, b⟩
  · rw [if_neg w]
    constructor
    · rintro ⟨a, b⟩; omega
    · rintro ⟨⟨a, -⟩, b⟩; exact absurd a w
theorem JJn.kep (h : JJn n q M) : M 13 3 = kpt M := by
  have i0 := h.rb.rng
  unfold kpt
  rw [h.flat, h.si.2.1]
  have e := firsts (sl M) (VLD M) (n := 240) (m := 240) (by omega) (by omega) (fun j j0 j1 w => (h.slo j0 j1).1 w)
  refine Eq.trans (cnt_congr (by omega) (fun s s0 s1 => ?_)) (e.symm.trans (cnt_congr (by omega) (fun j j0 j1 => ?_)))
  · rw [h.use s0 s1, cnt_pos (by omega)]
  · constructor
    · rintro ⟨v, w⟩
      refine ⟨v, fun x u x0 x1 u0 u1 hl => ?_⟩
      have hv : x < M 468 18 := Int.lt_of_le_of_lt x1 v.1
      have hu : u < M 476 (M 482 x) := by
        by_cases ex : x = j / 6
        · rw [if_pos ex] at u1; rw [ex]; have := v.2; omega
        · rw [if_neg ex] at u1; exact u1
      have c2 := (h.run x0 hv).2.2.1
      have hlt : 6 * x + u < j := by
        by_cases ex : x = j / 6
        · rw [if_pos ex] at u1; omega
        · omega
      refine w (6 * x + u) (by omega) hlt ⟨by rw [show (6 * x + u) / 6 = x by omega]; exact hv, by rw [show (6 * x + u) / 6 = x by omega, show (6 * x + u) % 6 = u by omega]; exact hu⟩ ?_
      have e2 := (h.lik (by omega) v.1 (by omega) v.2 x0 hv u0 hu).mp hl
      rw [sl_at u0 (by omega), ← e2]
      unfold sl
      rw [show 155 + 8 * (j / 6) = 8 * (j / 6) + 155 by omega]
    · rintro ⟨v, w⟩
      refine ⟨v, fun i x0 x1 vi he => ?_⟩
      refine w (i / 6) (i % 6) (by omega) (by omega) (by omega) ?_ ((h.lik (by omega) v.1 (by omega) v.2 (by omega) vi.1 (by omega) vi.2).mpr ?_)
      · by_cases ex : i / 6 = j / 6
        · rw [if_pos ex]; omega
        · rw [if_neg ex]; exact vi.2
      · unfold sl at he
        rw [show 155 + 8 * (j / 6) = 8 * (j / 6) + 155 by omega, show 155 + 8 * (i / 6) = 8 * (i / 6) + 155 by omega] at he
        exact he.symm
theorem JJn.sha (h : JJn n q M) {r t : Int} (r0 : 0 ≤ r) (r1 : r < M 468 18) (t0 : 0 ≤ t) (t1 : t < M 476 (M 482 r)) : M 16 (M (8 * r + 155) t) = shr M r t := by
  have i0 := h.rb.rng
  have s := (h.sme r0 r1 t0 t1).2.2.1
  unfold shr
  rw [h.flat (fun x u => Lik M r t x u), h.use s.1 s.2]
  refine cnt_congr (by omega) (fun j j0 j1 => ?_)
  constructor
  · rintro ⟨v, w⟩
    refine ⟨v, (h.lik r0 r1 t0 t1 (by omega) v.1 (by omega) v.2).mpr ?_⟩
    unfold sl at w
    rw [show 155 + 8 * (j / 6) = 8 * (j / 6) + 155 by omega] at w
    exact w.symm
  · rintro ⟨v, w⟩
    refine ⟨v, ?_⟩
    unfold sl
    rw [show 155 + 8 * (j / 6) = 8 * (j / 6) + 155 by omega]
    exact ((h.lik r0 r1 t0 t1 (by omega) v.1 (by omega) v.2).mp w).symm
end J3
