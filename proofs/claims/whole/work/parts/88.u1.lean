/-! balloons move, on both sides alike -/
/-- b came out of b0 by moves at the spots S; D balloons of the colour in all, K called back at most -/
def AB (S : Int → Prop) (D K : Int) (b0 b : BSt) : Prop := (∀ x, ¬ S x → b.1 x = b0.1 x) ∧ (∀ x ∈ b.2.1, S x) ∧ b.2.2.1 + b.2.2.2.2 = D ∧ 0 ≤ b.2.2.1 ∧ (b0.2.2.2.1 ≤ b.2.2.2.1 ∧ b.2.2.2.1 ≤ K) ∧ b.2.2.2.2 = cnt (fun x => S x ∧ b.1 x = 111) 40
section AB
variable {S : Int → Prop} {D K : Int} {b0 b : BSt}
theorem AB.mono {K2 : Int} (h : AB S D K b0 b) (hk : K ≤ K2) : AB S D K2 b0 b := ⟨h.1, h.2.1, h.2.2.1, h.2.2.2.1, ⟨h.2.2.2.2.1.1, by have := h.2.2.2.2.1.2; omega⟩, h.2.2.2.2.2⟩
theorem AB.sv1 {x : Int} {q : List Int} (h : AB S D K b0 b) (hn : QN b) (hq : b.2.1 = x :: q) (hk : 0 < b.2.2.1) : AB S D K b0 (SV1 x q b) := by
  obtain ⟨h1, h2, h3, h4, h5, h6⟩ := h
  have hx : x ∈ b.2.1 := by rw [hq]; exact List.mem_cons_self
  have hs := h2 x hx
  obtain ⟨x0, x1, x2⟩ := hn.2 x hx
  refine ⟨fun y hy => ?_, fun y hy => h2 y (by rw [hq]; exact List.mem_cons_of_mem _ hy), ?_, ?_, h5, ?_⟩
  · show st1 b.1 x 111 y = _
    unfold st1
    rw [if_neg (fun e => hy (by rw [e]; exact hs))]
    exact h1 y hy
  · show b.2.2.1 - 1 + (b.2.2.2.2 + 1) = D; omega
  · show 0 ≤ b.2.2.1 - 1; omega
  · show b.2.2.2.2 + 1 = _
    rw [h6]
    refine (cnt_one (j := x) x0 x1 (fun i _ _ hi => ?_) (fun w => by have := w.2; omega) ⟨hs, ?_⟩).symm
    · show _ ↔ (S i ∧ st1 b.1 x 111 i = 111)
      unfold st1
      rw [if_neg hi]
    · show st1 b.1 x 111 x = 111
      unfold st1
      rw [if_pos rfl]
theorem AB.sv (h : AB S D K b0 b) (hn : QN b) : AB S D K b0 (SVo b) := by
  have key : ∀ (q : List Int) (b : BSt), b.2.1 = q → AB S D K b0 b → QN b → AB S D K b0 (SVo b) := by
    intro q
    induction q with
    | nil =>
      intro b hq hb _
      rw [SVo_0 (Or.inl (by rw [hq]; rfl))]
      exact hb
    | cons x q ih =>
      intro b hq hb hn
      by_cases hk : 0 < b.2.2.1
      · rw [← SVo_1 hq hk]
        exact ih (SV1 x q b) rfl (hb.sv1 hn hq hk) (hn.sv1 hq)
      · rw [SVo_0 (Or.inr (by omega))]
        exact hb
  exact key _ b rfl h hn
theorem AB.tk {x : Int} (h : AB S D K b0 b) (hs : S x) (x0 : 0 ≤ x) (x1 : x < 40) (hn : QN b) : AB S D (K + 1) b0 (TKo x b) := by
  obtain ⟨h1, h2, h3, h4, h5, h6⟩ := h
  have e45 : ∀ y, y ≠ x → st1 b.1 x 45 y = b.1 y := fun y hy => by unfold st1; rw [if_neg hy]
  have e45x : st1 b.1 x 45 x = 45 := by unfold st1; rw [if_pos rfl]
  unfold TKo
  by_cases w : b.1 x = 111
  · rw [if_pos w]
    refine ⟨fun y hy => ?_, h2, ?_, ?_, ⟨?_, ?_⟩, ?_⟩
    · rw [← h1 y hy]
      exact e45 y (fun e => hy (by rw [e]; exact hs))
    · show b.2.2.1 + 1 + (b.2.2.2.2 - 1) = D; omega
    · show 0 ≤ b.2.2.1 + 1; omega
    · show b0.2.2.2.1 ≤ b.2.2.2.1 + 1; omega
    · show b.2.2.2.1 + 1 ≤ K + 1; omega
    · show b.2.2.2.2 - 1 = _
      have e := cnt_one (P := fun y => S y ∧ st1 b.1 x 45 y = 111) (Q := fun y => S y ∧ b.1 y = 111) (n := 40) (j := x) x0 x1 (fun i _ _ hi => by show (S i ∧ st1 b.1 x 45 i = 111) ↔ _; rw [e45 i hi]) (fun w2 => by have := w2.2; rw [e45x] at this; omega) ⟨hs, w⟩
      show _ = cnt (fun y => S y ∧ st1 b.1 x 45 y = 111) 40
      omega
  · rw [if_neg w]
    by_cases w2 : b.1 x = 113
    · rw [if_pos w2]
      refine ⟨fun y hy => ?_, fun y hy => h2 y (List.mem_filter.mp hy).1, h3, h4, ⟨h5.1, ?_⟩, ?_⟩
      · rw [← h1 y hy]
        exact e45 y (fun e => hy (by rw [e]; exact hs))
      · show b.2.2.2.1 ≤ K + 1; omega
      · show b.2.2.2.2 = cnt (fun y => S y ∧ st1 b.1 x 45 y = 111) 40
        rw [h6]
        refine cnt_congr (by omega) (fun y _ _ => ?_)
        by_cases e : y = x
        · rw [e, e45x]
          constructor
          · intro z; exact absurd z.2 w
          · intro z; exact absurd z.2 (by omega)
        · rw [e45 y e]
    · rw [if_neg w2]
      exact ⟨h1, h2, h3, h4, ⟨h5.1, by omega⟩, h6⟩
theorem AB.add {x : Int} (h : AB S D K b0 b) (hs : S x) (x0 : 0 ≤ x) (hx : b.1 x = 45) : AB S D K b0 (st1 b.1 x 113, b.2.1 ++ [x], b.2.2) := by
  obtain ⟨h1, h2, h3, h4, h5, h6⟩ := h
  have e45 : ∀ y, y ≠ x → st1 b.1 x 113 y = b.1 y := fun y hy => by unfold st1; rw [if_neg hy]
  have e45x : st1 b.1 x 113 x = 113 := by unfold st1; rw [if_pos rfl]
  refine ⟨fun y hy => ?_, fun y hy => ?_, h3, h4, h5, ?_⟩
  · rw [← h1 y hy]
    exact e45 y (fun e => hy (by rw [e]; exact hs))
  · rcases List.mem_append.mp hy with w | w
    · exact h2 y w
    · rw [List.mem_singleton.mp w]; exact hs
  · show b.2.2.2.2 = cnt (fun y => S y ∧ st1 b.1 x 113 y = 111) 40
    rw [h6]
    refine cnt_congr (by omega) (fun y _ _ => ?_)
    by_cases e : y = x
    · rw [e, e45x]
      constructor
      · intro z; have := z.2; omega
      · intro z; exact absurd z.2 (by omega)
    · rw [e45 y e]
theorem AB.sn {x : Int} (h : AB S D K b0 b) (hn : QN b) (hs : S x) (x0 : 0 ≤ x) (x1 : x < 40) (hx : b.1 x = 45) : AB S D K b0 (SNo x b) := (h.add hs x0 hx).sv (hn.add x0 x1 hx)
theorem AB.ftk {sol : Int → Prop} {p : Int} (h : AB S D K b0 b) (hn : QN b) (p0 : 0 ≤ p) (p1 : p < 5) : ∀ m : Nat, m ≤ 8 → (∀ u : Int, 0 ≤ u → u < m → S (5 * u + p)) → AB S D (K + m) b0 (fTk sol p b m) ∧ QN (fTk sol p b m) := by
  intro m
  induction m with
  | zero => intro _ _; exact ⟨h.mono (by omega), hn⟩
  | succ m ih =>
    intro hm hS
    obtain ⟨i1, i2⟩ := ih (by omega) (fun u u0 u1 => hS u u0 (by omega))
    by_cases e : sol m
    · have := fTk_t (sol := sol) (p := p) (b := b) (n := m) (by omega) e
      rw [show ((m : Int) + 1).toNat = m + 1 by omega, show ((m : Int)).toNat = m by omega] at this
      rw [this]
      exact ⟨i1.mono (by omega), i2⟩
    · have := fTk_f (sol := sol) (p := p) (b := b) (n := m) (by omega) e
      rw [show ((m : Int) + 1).toNat = m + 1 by omega, show ((m : Int)).toNat = m by omega] at this
      rw [this]
      refine ⟨?_, i2.tk⟩
      have a := i1.tk (hS m (by omega) (by omega)) (by omega) (by omega) i2
      rw [show K + ((m + 1 : Nat) : Int) = K + (m : Int) + 1 by omega]
      exact a
theorem AB.fsn {sol : Int → Prop} {p : Int} (h : AB S D K b0 b) (hn : QN b) (p0 : 0 ≤ p) (p1 : p < 5) : ∀ m : Nat, m ≤ 8 → (∀ u : Int, 0 ≤ u → u < m → S (5 * u + p)) → AB S D K b0 (fSn sol p b m) ∧ QN (fSn sol p b m) := by
  intro m
  induction m with
  | zero => intro _ _; exact ⟨h, hn⟩
  | succ m ih =>
    intro hm hS
    obtain ⟨i1, i2⟩ := ih (by omega) (fun u u0 u1 => hS u u0 (by omega))
    by_cases e : sol m ∧ (fSn sol p b m).1 (5 * m + p) = 45
    · have := fSn_t (sol := sol) (p := p) (b := b) (n := m) (by omega) e.1 e.2
      rw [show ((m : Int) + 1).toNat = m + 1 by omega, show ((m : Int)).toNat = m by omega] at this
      rw [this]
      exact ⟨i1.sn i2 (hS m (by omega) (by omega)) (by omega) (by omega) e.2, (i2.add (by omega) (by omega) e.2).sv⟩
    · have := fSn_f (sol := sol) (p := p) (b := b) (n := m) (by omega) e
      rw [show ((m : Int) + 1).toNat = m + 1 by omega, show ((m : Int)).toNat = m by omega] at this
      rw [this]
      exact ⟨i1, i2⟩
theorem AB.ffo {sol : Int → Prop} {p T : Int} (h : AB S D K b0 b) (hn : QN b) (p0 : 0 ≤ p) (p1 : p < 5) (T0 : 0 ≤ T) (T1 : T ≤ 8) (hS : ∀ u : Int, 0 ≤ u → u < T → S (5 * u + p)) : AB S D (K + 8) b0 (fFo sol p T b) ∧ QN (fFo sol p T b) := by
  obtain ⟨a1, a2⟩ := h.ftk (sol := sol) hn p0 p1 T.toNat (by omega) (fun u u0 u1 => hS u u0 (by omega))
  exact ((a1.sv a2).mono (by omega)).fsn a2.sv p0 p1 T.toNat (by omega) (fun u u0 u1 => hS u u0 (by omega))
end AB
section BM
variable {M M' : Mem} {n : Int} {q : Int → List Int}
theorem JJn.ab (h : JJn n q M) {c : Int} (c0 : 0 ≤ c) (c1 : c < 4) : AB (CP M c) (M 25 c + M 26 c) (8 * n) (bM M q c) (bM M q c) := by
  have i0 := h.rb.rng
  obtain ⟨b1, b2, b3, b4, b5, b6⟩ := h.bal
  obtain ⟨a1, a2, a3, a4, a5, a6, a7, a8, a9⟩ := b6 c c0 c1
  refine ⟨fun _ _ => rfl, fun x hx => ?_, rfl, a5, ⟨Int.le_refl _, b5.2.2.1⟩, ?_⟩
  · obtain ⟨x0, x1, x2⟩ := (a2.1 x).mp hx
    exact ⟨x0, x1, x2.2.1, x2.2.2⟩
  · show M 26 c = _
    rw [a8]
    refine cnt_congr (by omega) (fun x x0 x1 => ?_)
    rw [bM1 x0 x1]
    constructor
    · rintro ⟨z0, z1⟩
      refine ⟨⟨x0, ?_, ?_, z1⟩, z0⟩
      · rcases Int.lt_or_le x (5 * M 468 17) with y | y
        · exact y
        · have := b2 x x0 x1 (Or.inl y); omega
      · rcases Int.lt_or_le (x % 5) (M 468 9) with y | y
        · exact y
        · have := b2 x x0 x1 (Or.inr y); omega
    · rintro ⟨z0, z1⟩
      exact ⟨z1, z0.2.2.2⟩
/-- the balloons of the colour c have moved, on both sides -/
theorem BALL.move (h : BALL n q M) {c δ : Int} {b' : BSt} (T8 : 0 ≤ M 468 17 ∧ M 468 17 ≤ 8) (P5 : 0 ≤ M 468 9 ∧ M 468 9 ≤ 5) (c0 : 0 ≤ c) (c1 : c < 4)
    (fa : ∀ o k, 17 ≤ o → o ≤ 26 → o ≠ 18 → o ≠ c + 20 → ¬ (k = c ∧ 24 ≤ o) → ¬ (o = 17 ∧ k = 5) → M' o k = M o k)
    (e17 : M' 468 17 = M 468 17) (e9 : M' 468 9 = M 468 9) (e474 : ∀ p, M' 474 p = M 474 p) (fr : ∀ o k, o = 493 ∨ o = 494 → ¬ CP M c k → M' o k = M o k) (f95 : ∀ k, k ≠ c → M' 495 k = M 495 k)
    (ra : RAb M' c b') (rb : RBb M' c b') (ab : AB (CP M c) (M 25 c + M 26 c + δ) (8 * (n + 1)) (bM M q c) b') (qn : QN b') (tr : TRI b') (ns : NSL b') (hδ : δ ≤ 20) (st : M' 468 34 ≤ 8 * (n + 1))
    (sol : ∀ t p, 0 ≤ t → t < M 468 17 → 0 ≤ p → p < M 468 9 → (M' 18 (5 * t + p) ≠ 45 ↔ Sol M' t p)) : BALL (n + 1) (fun x => if x = c then b'.2.1 else q x) M' := by
  obtain ⟨b1, b2, b3, b4, b5, b6⟩ := h
  obtain ⟨r1, r2, r3, r4, r5⟩ := ra
  obtain ⟨s1, s2, s3, s4⟩ := rb
  obtain ⟨t1, t2, t3, t4, t5, t6⟩ := ab
  rw [e17] at s1
  have k18 : ∀ x, 0 ≤ x → x < 40 → ¬ CP M c x → M' 18 x = M 18 x := fun x x0 x1 hx => by rw [r1 x x0 x1, t1 x hx, bM1 x0 x1]
  have hcp : ∀ x, CP M' c x ↔ CP M c x := fun x => by unfold CP; rw [e17, e9, e474]
  refine ⟨fun x x0 x1 => by rw [r1 x x0 x1]; exact tr x, fun x x0 x1 w => ?_, fun x x0 x1 => ?_, fun t p y0 y1 p0 p1 => ?_, ?_, fun cc y0 y1 => ?_⟩
  · rw [e17, e9] at w
    rw [k18 x x0 x1 (fun y => by have := y.2.1; have := y.2.2.1; omega)]
    exact b2 x x0 x1 w
  · rw [e17] at x1
    rw [r1 x x0 (by omega), s1 x x0 x1]
  · rw [e17] at y1
    rw [e9] at p1
    exact sol t p y0 y1 p0 p1
  · have a : (bM M q c).2.2.2.1 = M 17 5 := rfl
    rw [a] at t5
    rw [s4, r4]
    exact ⟨rfl, by omega, t5.2, st⟩
  · by_cases e : cc = c
    · subst e
      show BLC (n + 1) M' cc (if cc = cc then b'.2.1 else q cc)
      rw [if_pos rfl]
      obtain ⟨-, -, -, -, -, a6, a7, -, -⟩ := b6 cc c0 c1
      refine ⟨r2, s2, qn.1, ?_, ?_, ?_, ?_, ?_, ?_⟩
      · rw [s3, r3]
      · rw [r3]; exact t4
      · rw [r5, t6]; exact (cnt_range _ (by omega)).1
      · rw [r3, r5]; omega
      · rw [r5, t6]
        refine cnt_congr (by omega) (fun x x0 x1 => ?_)
        unfold COL
        rw [r1 x x0 x1, e474]
        constructor
        · rintro ⟨z0, z1⟩; exact ⟨z1, z0.2.2.2⟩
        · rintro ⟨z1, z0⟩
          by_cases w : CP M cc x
          · exact ⟨w, z1⟩
          · exfalso
            rw [t1 x w, bM1 x0 x1] at z1
            refine w ⟨x0, ?_, ?_, z0⟩
            · rcases Int.lt_or_le x (5 * M 468 17) with y | y
              · exact y
              · have := b2 x x0 x1 (Or.inl y); omega
            · rcases Int.lt_or_le (x % 5) (M 468 9) with y | y
              · exact y
              · have := b2 x x0 x1 (Or.inr y); omega
      · rw [r3]
        rcases ns with w | w
        · exact Or.inl w
        · right; omega
    · show BLC (n + 1) M' cc (if cc = c then b'.2.1 else q cc)
      rw [if_neg e]
      obtain ⟨a1, a2, a3, a4, a5, a6, a7, a8, a9⟩ := b6 cc y0 y1
      have hno : ∀ x, M 474 (x % 5) = cc → ¬ CP M c x := fun x hx w => e (hx.symm.trans w.2.2.2)
      refine ⟨a1.fine (fa _ _ (by omega) (by omega) (by omega) (by omega) (by omega) (by omega)) (fun k => fa _ _ (by omega) (by omega) (by omega) (by omega) (by omega) (by omega)), ⟨fun x => ?_, ?_⟩, a3, ?_, ?_, ?_, ?_, ?_, ?_⟩
      · rw [a2.1 x, e17]
        unfold WQ
        rw [e9, e474]
        constructor
        · rintro ⟨z0, z1, z2, z3, z4⟩
          exact ⟨z0, z1, by rw [fr 493 x (Or.inl rfl) (hno x z4)]; exact z2, z3, z4⟩
        · rintro ⟨z0, z1, z2, z3, z4⟩
          rw [fr 493 x (Or.inl rfl) (hno x z4)] at z2
          exact ⟨z0, z1, z2, z3, z4⟩
      · refine a2.2.imp_of_mem (fun {x y} hx hy w => ?_)
        rw [fr 494 x (Or.inr rfl) (hno x ((a2.1 x).mp hx).2.2.2.2), fr 494 y (Or.inr rfl) (hno y ((a2.1 y).mp hy).2.2.2.2)]
        exact w
      · rw [f95 cc e, fa 25 cc (by omega) (by omega) (by omega) (by omega) (by omega) (by omega)]; exact a4
      · rw [fa 25 cc (by omega) (by omega) (by omega) (by omega) (by omega) (by omega)]; exact a5
      · rw [fa 26 cc (by omega) (by omega) (by omega) (by omega) (by omega) (by omega)]; exact a6
      · rw [fa 25 cc (by omega) (by omega) (by omega) (by omega) (by omega) (by omega), fa 26 cc (by omega) (by omega) (by omega) (by omega) (by omega) (by omega)]; omega
      · rw [fa 26 cc (by omega) (by omega) (by omega) (by omega) (by omega) (by omega), a8]
        refine cnt_congr (by omega) (fun x x0 x1 => ?_)
        unfold COL
        rw [e474]
        constructor
        · rintro ⟨z0, z1⟩
          exact ⟨by rw [k18 x x0 x1 (hno x z1)]; exact z0, z1⟩
        · rintro ⟨z0, z1⟩
          rw [k18 x x0 x1 (hno x z1)] at z0
          exact ⟨z0, z1⟩
      · rw [fa 25 cc (by omega) (by omega) (by omega) (by omega) (by omega) (by omega)]; exact a9
theorem fTk_congr {s1 s2 : Int → Prop} {p : Int} {b : BSt} : ∀ m : Nat, (∀ u : Int, 0 ≤ u → u < m → (s1 u ↔ s2 u)) → fTk s1 p b m = fTk s2 p b m := by
  intro m
  induction m with
  | zero => intro _; rfl
  | succ m ih =>
    intro hs
    have i := ih (fun u u0 u1 => hs u u0 (by omega))
    have e := hs m (by omega) (by omega)
    by_cases w : s1 m
    · have a := fTk_t (sol := s1) (p := p) (b := b) (n := m) (by omega) w
      have d := fTk_t (sol := s2) (p := p) (b := b) (n := m) (by omega) (e.mp w)
      rw [show ((m : Int) + 1).toNat = m + 1 by omega, show ((m : Int)).toNat = m by omega] at a d
      rw [a, d, i]
    · have a := fTk_f (sol := s1) (p := p) (b := b) (n := m) (by omega) w
      have d := fTk_f (sol := s2) (p := p) (b := b) (n := m) (by omega) (fun y => w (e.mpr y))
      rw [show ((m : Int) + 1).toNat = m + 1 by omega, show ((m : Int)).toNat = m by omega] at a d
      rw [a, d, i]
theorem fSn_congr {s1 s2 : Int → Prop} {p : Int} {b : BSt} : ∀ m : Nat, (∀ u : Int, 0 ≤ u → u < m → (s1 u ↔ s2 u)) → fSn s1 p b m = fSn s2 p b m := by
  intro m
  induction m with
  | zero => intro _; rfl
  | succ m ih =>
    intro hs
    have i := ih (fun u u0 u1 => hs u u0 (by omega))
    have e := hs m (by omega) (by omega)
    by_cases w : s1 m ∧ (fSn s1 p b m).1 (5 * m + p) = 45
    · have a := fSn_t (sol := s1) (p := p) (b := b) (n := m) (by omega) w.1 w.2
      have d := fSn_t (sol := s2) (p := p) (b := b) (n := m) (by omega) (e.mp w.1) (by rw [Int.toNat_natCast, ← i]; exact w.2)
      rw [show ((m : Int) + 1).toNat = m + 1 by omega, show ((m : Int)).toNat = m by omega] at a d
      rw [a, d, i]
    · have a := fSn_f (sol := s1) (p := p) (b := b) (n := m) (by omega) w
      have d := fSn_f (sol := s2) (p := p) (b := b) (n := m) (by omega) (fun y => w ⟨e.mpr y.1, by have := y.2; rw [Int.toNat_natCast, ← i] at this; exact this⟩)
      rw [show ((m : Int) + 1).toNat = m + 1 by omega, show ((m : Int)).toNat = m by omega] at a d
      rw [a, d, i]
theorem fFo_congr {s1 s2 : Int → Prop} {p T : Int} {b : BSt} (T0 : 0 ≤ T) (hs : ∀ u : Int, 0 ≤ u → u < T → (s1 u ↔ s2 u)) : fFo s1 p T b = fFo s2 p T b := by
  unfold fFo
  rw [fTk_congr T.toNat (fun u u0 u1 => hs u u0 (by omega)), fSn_congr T.toNat (fun u u0 u1 => hs u u0 (by omega))]
end BM
