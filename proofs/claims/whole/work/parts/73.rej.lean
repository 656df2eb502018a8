/-! judging anew, in the reference -/
def RES (M : Mem) (r t : Int) (V : Mem) : Prop := V 491 (6 * r + t) = (JR M r t) 2 0 ∧ (∀ k, 0 ≤ k → k < (JR M r t) 2 0 → V 490 (36 * r + 6 * t + k) = (JR M r t) 1 k) ∧ V 489 (6 * r + t) = (JR M r t) 5 0 ∧ JE M (M 482 r) t (JR M r t) (V 488 (6 * r + t)) ∧
  0 ≤ (JR M r t) 2 0 ∧ (JR M r t) 2 0 ≤ 6 ∧ 0 ≤ (JR M r t) 5 0 ∧ (JR M r t) 5 0 ≤ M 475 (M 482 r) ∧ (V 488 (6 * r + t) = 111 ∨ V 488 (6 * r + t) = 119 ∨ V 488 (6 * r + t) = 114 ∨ V 488 (6 * r + t) = 108 ∨ V 488 (6 * r + t) = 116)
def SAM (M M' : Mem) (r u : Int) : Prop := M' 488 (6 * r + u) = M 488 (6 * r + u) ∧ M' 489 (6 * r + u) = M 489 (6 * r + u) ∧ M' 491 (6 * r + u) = M 491 (6 * r + u) ∧ ∀ k, 0 ≤ k → k < 6 → M' 490 (36 * r + 6 * u + k) = M 490 (36 * r + 6 * u + k)
theorem JP.sam {M M' : Mem} {r t q u : Int} (h : JP M r t M') (t0 : 0 ≤ t) (t1 : t < 6) (u0 : 0 ≤ u) (u1 : u < 6) (hne : ¬ (q = r ∧ u = t)) : SAM M M' q u := by
  have f := h.1
  refine ⟨f _ _ (by unfold jT; omega) (by omega), f _ _ (by unfold jT; omega) (by omega), f _ _ (by unfold jT; omega) (by omega), fun k k0 k1 => f _ _ (by unfold jT; omega) (by omega)⟩
theorem SAM.trans {M M1 M2 : Mem} {r u : Int} (h1 : SAM M M1 r u) (h2 : SAM M1 M2 r u) : SAM M M2 r u := ⟨h2.1.trans h1.1, h2.2.1.trans h1.2.1, h2.2.2.1.trans h1.2.2.1, fun k k0 k1 => (h2.2.2.2 k k0 k1).trans (h1.2.2.2 k k0 k1)⟩
theorem SAM.res {M V V' : Mem} {r t : Int} (h : SAM V V' r t) (hr : RES M r t V) : RES M r t V' := by
  obtain ⟨a1, a2, a3, a4, a5, a6, a7, a8, a9⟩ := hr
  obtain ⟨b1, b2, b3, b4⟩ := h
  refine ⟨by rw [b3]; exact a1, fun k k0 k1 => by rw [b4 k k0 (by omega)]; exact a2 k k0 k1, by rw [b2]; exact a3, by rw [b1]; exact a4, a5, a6, a7, a8, by rw [b1]; exact a9⟩
theorem RES.of {M N V : Mem} {r t : Int} (e : ∀ o k, (o = 475 ∨ (477 ≤ o ∧ o ≤ 480) ∨ o = 482 ∨ (484 ≤ o ∧ o ≤ 487)) → N o k = M o k) (h : RES N r t V) : RES M r t V := by
  unfold RES JE XPo JR at h ⊢
  simp (disch := omega) only [e] at h
  exact h
/-- the first n runs of the problem p are judged by test t, its number of tests aside -/
def RJ (M : Mem) (p t n : Int) (M' : Mem) : Prop := (∀ o k, o ≠ 476 → ¬ (488 ≤ o ∧ o ≤ 492) → M' o k = M o k) ∧ (∀ q, q ≠ p → M' 476 q = M 476 q) ∧ (∀ r u, 0 ≤ r → 0 ≤ u → u < 6 → ¬ (r < n ∧ M 482 r = p ∧ u = t) → SAM M M' r u) ∧ ∀ r, 0 ≤ r → r < n → M 482 r = p → RES M r t M'
section RJ
variable {M M1 M2 : Mem} {p t n a : Int}
theorem RJ.ini : RJ M p t 0 M := ⟨fun _ _ _ _ => rfl, fun _ _ => rfl, fun r u _ _ _ _ => ⟨rfl, rfl, rfl, fun _ _ _ => rfl⟩, fun r _ _ => by omega⟩
theorem RJ.set {v : Int} (h : RJ M p t n M1) : RJ M p t n (up M1 476 p v) := by
  obtain ⟨a1, a2, a3, a4⟩ := h
  have s : ∀ r u, SAM M1 (up M1 476 p v) r u := fun r u => ⟨up_o (by omega), up_o (by omega), up_o (by omega), fun k _ _ => up_o (by omega)⟩
  exact ⟨fun o k h1 h2 => (up_o h1).trans (a1 o k h1 h2), fun q hq => (up_k hq).trans (a2 q hq), fun r u r0 u0 u1 hn => (a3 r u r0 u0 u1 hn).trans (s r u), fun r r0 r1 hp => (s r t).res (a4 r r0 r1 hp)⟩
theorem RJ.skip (h : RJ M p t n M1) (hn : M 482 n ≠ p) : RJ M p t (n + 1) M1 := by
  obtain ⟨a1, a2, a3, a4⟩ := h
  refine ⟨a1, a2, fun r u r0 u0 u1 hn2 => a3 r u r0 u0 u1 (fun w => hn2 ⟨by omega, w.2⟩), fun r r0 r1 hp => ?_⟩
  rcases Int.lt_or_eq_of_le (show r ≤ n by omega) with e | e
  · exact a4 r r0 e hp
  · rw [e] at hp; exact absurd hp hn
theorem RJ.step (h : RJ M p t n (up M1 476 p a)) (hn : M 482 n = p) (n0 : 0 ≤ n) (t0 : 0 ≤ t) (t1 : t < 6) (hj : JP (up M1 476 p a) n t M2) : RJ M p t (n + 1) M2 ∧ M2 476 p = a := by
  obtain ⟨a1, a2, a3, a4⟩ := h
  have f := hj.1
  refine ⟨⟨fun o k h1 h2 => (f o k (by unfold jT; omega) (by omega)).trans (a1 o k h1 h2), fun q hq => (f 476 q (by unfold jT; omega) (by omega)).trans (a2 q hq), fun r u r0 u0 u1 hn2 => ?_, fun r r0 r1 hp => ?_⟩, (f 476 p (by unfold jT; omega) (by omega)).trans (up_s _ _ _ _)⟩
  · have e : ¬ (r = n ∧ u = t) := fun w => hn2 ⟨by omega, by rw [w.1]; exact hn, w.2⟩
    exact (a3 r u r0 u0 u1 (fun w => hn2 ⟨by omega, w.2⟩)).trans (hj.sam t0 t1 u0 u1 e)
  · rcases Int.lt_or_eq_of_le (show r ≤ n by omega) with e | e
    · exact (hj.sam t0 t1 t0 t1 (by omega)).res (a4 r r0 e hp)
    · rw [e]
      exact RES.of (fun o k ho => a1 o k (by omega) (by omega)) hj.2
/-- what the number of tests may become -/
def TCH (M : Mem) (p t a : Int) : Prop := 0 ≤ t ∧ t < a ∧ a ≤ 6 ∧ M 476 p ≤ a ∧ (∀ u, 0 ≤ u → u < a → u < M 476 p ∨ u = t) ∧ 0 ≤ M 478 (6 * p + t) ∧ M 478 (6 * p + t) ≤ 4 ∧ 0 ≤ M 480 (6 * p + t) ∧ M 480 (6 * p + t) ≤ 6
theorem RJ.rb0 (I : RB M) (h : RJ M p t n M1) (hc : TCH M p t a) (ha : M1 476 p = a ∨ M1 476 p = M 476 p) (p0 : 0 ≤ p) (p1 : p < M 468 9) : RB0 M1 := by
  obtain ⟨a1, a2, a3, a4⟩ := h
  obtain ⟨c1, c2, c3, c4, c5, c6, c7, c8, c9⟩ := hc
  have hp := I.prob p p0 p1
  obtain ⟨r1, r2, r3, r4, r5⟩ := I.w
  unfold RB0
  simp (disch := omega) only [a1]
  refine ⟨r1, fun q q0 q1 => ?_, r3, fun q u q0 q1 u0 u1 => ?_, r5⟩
  · have h2 := r2 q q0 q1
    by_cases e : q = p
    · subst e; omega
    · rw [a2 q e]; exact h2
  · by_cases e : q = p
    · subst e
      rcases (show u < M 476 q ∨ u = t by rcases ha with w | w; exact c5 u u0 (by omega); left; omega) with w | w
      · exact r4 q u q0 q1 u0 w
      · subst w; omega
    · rw [a2 q e] at u1; exact r4 q u q0 q1 u0 u1
theorem RJ.old (I : RB M) (h : RJ M p t n M1) (r : Int) (r0 : 0 ≤ r) (r1 : n ≤ r) (r2 : r < M 468 18) (hp : M 482 r = p) : ∀ u, 0 ≤ u → u < M 476 p → M1 488 (6 * r + u) = 111 ∨ M1 488 (6 * r + u) = 119 ∨ M1 488 (6 * r + u) = 114 ∨ M1 488 (6 * r + u) = 108 ∨ M1 488 (6 * r + u) = 116 := by
  intro u u0 u1
  have q := I.run r r0 r2
  have q2 := I.prob p (by omega) (by omega)
  rw [(h.2.2.1 r u r0 u0 (by omega) (by omega)).1]
  exact (I.res r u r0 r2 u0 (by rw [hp]; exact u1)).1
theorem RJ.new (I : RB M) (h : RJ M p t n M1) (hc : TCH M p t a) (r : Int) (r0 : 0 ≤ r) (r1 : r < n) (r2 : r < M 468 18) (hp : M 482 r = p) : ∀ u, 0 ≤ u → u < a → M1 488 (6 * r + u) = 111 ∨ M1 488 (6 * r + u) = 119 ∨ M1 488 (6 * r + u) = 114 ∨ M1 488 (6 * r + u) = 108 ∨ M1 488 (6 * r + u) = 116 := by
  intro u u0 u1
  obtain ⟨c1, c2, c3, c4, c5, -⟩ := hc
  by_cases e : u = t
  · rw [e]; exact (h.2.2.2 r r0 r1 hp).2.2.2.2.2.2.2.2
  · rw [(h.2.2.1 r u r0 u0 (by omega) (by omega)).1]
    refine (I.res r u r0 r2 u0 ?_).1
    rw [hp]
    have := c5 u u0 u1
    omega
theorem RJ.rb (I : RB M) (h : RJ M p t (M 468 18) M1) (hc : TCH M p t a) (ha : M1 476 p = a) (p0 : 0 ≤ p) (p1 : p < M 468 9) : RB M1 := by
  obtain ⟨b1, b2, b3, b4, b5⟩ := h.rb0 I hc (Or.inl ha) p0 p1
  have hnew := h.new I hc
  obtain ⟨a1, a2, a3, a4⟩ := h
  obtain ⟨c1, c2, c3, c4, c5, -⟩ := hc
  obtain ⟨r1, r2, r3, r4, r5, r6, r7, r8, r9, r10, r11⟩ := id I
  unfold RB
  refine ⟨b1, b2, b3, ?_, b4, ?_, b5, ?_, ?_, ?_, ?_⟩
  · intro r u r0 r1' u0 u1
    rw [a1 468 18 (by omega) (by omega)] at r1'
    rw [a1 482 r (by omega) (by omega)] at u1
    have q := r3 r r0 r1'
    by_cases e : M 482 r = p ∧ u = t
    · obtain ⟨e1, rfl⟩ := e
      obtain ⟨d1, d2, d3, d4, d5, d6, d7, d8, d9⟩ := a4 r r0 r1' e1
      have q2 := r2 (M 482 r) (by omega) (by omega)
      exact ⟨d9, by omega, by omega, by omega, by omega⟩
    · have u2 : u < 6 := by
        by_cases e3 : M 482 r = p
        · rw [e3] at u1; omega
        · rw [a2 _ e3] at u1
          have q2 := r2 (M 482 r) (by omega) (by omega)
          omega
      obtain ⟨s1, s2, s3, -⟩ := a3 r u r0 u0 u2 (fun w => e w.2)
      rw [s1, s2, s3]
      refine r4 r u r0 r1' u0 ?_
      by_cases e2 : M 482 r = p
      · have : u ≠ t := fun w => e ⟨e2, w⟩
        rw [e2] at u1 ⊢
        have := c5 u u0 (by omega)
        omega
      · rw [a2 _ e2] at u1; exact u1
  all_goals simp (disch := omega) only [a1]
  · exact r6
  · exact r8
  · exact r9
  · exact r10
  · exact r11
end RJ
noncomputable def VZ (f : Int → Int) (n : Int) : Int := if lst (fun t => f t ≠ 111) n = -1 then 97 else f (lst (fun t => f t ≠ 111) n)
theorem vz_eq (M : Mem) (r : Int) : vz M r = VZ (fun t => M 488 (6 * r + t)) (M 476 (M 482 r)) := rfl
theorem VZ.congr {f g : Int → Int} {n : Int} (hn : 0 ≤ n) (h : ∀ u, 0 ≤ u → u < n → f u = g u) : VZ f n = VZ g n := by
  have e : lst (fun t => f t ≠ 111) n = lst (fun t => g t ≠ 111) n := lst_congr hn (fun z z0 z1 => by rw [h z z0 z1])
  unfold VZ
  rw [e]
  split
  · rfl
  · rename_i w
    have := lst_range (fun t => g t ≠ 111) hn
    exact h _ (by omega) (by omega)
theorem RJ.vzo {M M1 : Mem} {p t n r : Int} (I : RB M) (h : RJ M p t n M1) (r0 : 0 ≤ r) (r1 : n ≤ r) (r2 : r < M 468 18) (hp : M 482 r = p) (hb : M1 476 p = M 476 p) : vz M1 r = vz M r := by
  have q := I.run r r0 r2
  have q2 := I.prob p (by omega) (by omega)
  rw [vz_eq, vz_eq, h.1 482 r (by omega) (by omega), hp, hb]
  exact VZ.congr (by omega) (fun u u0 u1 => (h.2.2.1 r u r0 u0 (by omega) (by omega)).1)
theorem RJ.vzn {M M1 : Mem} {p t n r a : Int} (h : RJ M p t n M1) (hp : M 482 r = p) (hb : M1 476 p = a) : vz M1 r = VZ (fun u => M1 488 (6 * r + u)) a := by
  rw [vz_eq, h.1 482 r (by omega) (by omega), hp, hb]
theorem cnt_rj {M M1 M2 : Mem} {p t a r v : Int} (r0 : 0 ≤ r) (t0 : 0 ≤ t) (t1 : t < 6) (a0 : 0 ≤ a) (a1 : a ≤ 6) (hj : JP (up (up M1 476 p v) 476 p a) r t M2) :
    cnt (fun q => M 482 q = p ∧ VZ (fun u => M2 488 (6 * q + u)) a ≠ vz M q) r = cnt (fun q => M 482 q = p ∧ VZ (fun u => M1 488 (6 * q + u)) a ≠ vz M q) r := by
  refine cnt_congr r0 (fun q q0 q1 => ?_)
  rw [VZ.congr (f := fun u => M2 488 (6 * q + u)) (g := fun u => M1 488 (6 * q + u)) a0 (fun u u0 u1 => ?_)]
  have h := (hj.sam t0 t1 (q := q) (u := u) u0 (by omega) (by omega)).1
  rw [up_o (by omega), up_o (by omega)] at h
  exact h
theorem RBb.cong {M M' : Mem} {c : Int} {b : BSt} (h : RBb M c b) (e17 : M' 468 17 = M 468 17) (e9 : M' 468 9 = M 468 9) (e35 : M' 468 35 = M 468 35) (e : ∀ o k, o = 474 ∨ (493 ≤ o ∧ o ≤ 495) → M' o k = M o k) : RBb M' c b := by
  obtain ⟨r1, r2, r3, r4⟩ := h
  exact ⟨fun x x0 x1 => (e _ _ (by omega)).trans (r1 x x0 (by rw [e17] at x1; exact x1)), r2.cong e17 e9 (fun _ => e _ _ (by omega)) (fun _ => e _ _ (by omega)) (fun _ => e _ _ (by omega)), (e _ _ (by omega)).trans r3, e35.trans r4⟩
theorem RJ.rbb {M M1 : Mem} {p t n c : Int} {b : BSt} (h : RJ M p t n M1) (hb : RBb M c b) : RBb M1 c b := hb.cong (h.1 _ _ (by omega) (by omega)) (h.1 _ _ (by omega) (by omega)) (h.1 _ _ (by omega) (by omega)) (fun o k ho => h.1 o k (by omega) (by omega))
