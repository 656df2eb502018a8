theorem QB.out {M M' : Mem} {c x : Int} {q q' : List Int} (h : QB M c q) (hsub : List.Sublist q' q) (hm : ∀ y, y ∈ q' ↔ y ∈ q ∧ y ≠ x) (e17 : M' 468 17 = M 468 17) (e9 : M' 468 9 = M 468 9) (e474 : ∀ p, M' 474 p = M 474 p) (e494 : ∀ y, M' 494 y = M 494 y) (e493 : ∀ y, y ≠ x → M' 493 y = M 493 y) (ex : M' 493 x ≠ 113) : QB M' c q' := by
  refine ⟨fun y => ?_, ?_⟩
  · rw [hm, h.1 y, e17]
    unfold WQ
    rw [e9, e474]
    constructor
    · rintro ⟨⟨a, b, d⟩, e⟩
      rw [e493 y e]
      exact ⟨a, b, d⟩
    · rintro ⟨a, b, d, d2⟩
      have e : y ≠ x := fun w => by rw [w] at d; exact ex d
      rw [e493 y e] at d
      exact ⟨⟨a, b, d, d2⟩, e⟩
  · have h2 := h.2.sublist hsub
    simpa only [e494] using h2
theorem QB.push {M M' : Mem} {c x : Int} {q : List Int} (h : QB M c q) (hx : CP M c x) (hq : M 493 x ≠ 113) (e17 : M' 468 17 = M 468 17) (e9 : M' 468 9 = M 468 9) (e474 : ∀ p, M' 474 p = M 474 p) (e494 : ∀ y, y ≠ x → M' 494 y = M 494 y) (e493 : ∀ y, y ≠ x → M' 493 y = M 493 y) (ex : M' 493 x = 113) (hl : ∀ y, y ∈ q → M 494 y < M' 494 x) : QB M' c (q ++ [x]) := by
  have hxq : ∀ y, y ∈ q → y ≠ x := fun y hy w => by
    have := ((h.1 y).mp hy).2.2.1
    rw [w] at this
    exact hq this
  refine ⟨fun y => ?_, ?_⟩
  · rw [List.mem_append, h.1 y, e17]
    unfold WQ
    rw [e9, e474]
    by_cases e : y = x
    · subst e
      constructor
      · intro _; exact ⟨hx.1, hx.2.1, ex, hx.2.2⟩
      · intro _; exact Or.inr (by simp)
    · rw [e493 y e]
      constructor
      · rintro (w | w)
        · exact w
        · simp at w; exact absurd w e
      · intro w; exact Or.inl w
  · refine List.pairwise_append.mpr ⟨?_, by simp, fun a ha b hb => ?_⟩
    · refine h.2.imp_of_mem (fun {a b} ha hb w => ?_)
      rw [e494 a (hxq a ha), e494 b (hxq b hb)]
      exact w
    · simp at hb
      subst hb
      rw [e494 a (hxq a ha)]
      exact hl a ha
/-- what the balloons of the colour c may change in the reference -/
def FRr (M : Mem) (c : Int) (M' : Mem) : Prop := ∀ o k, ¬ ((o = 493 ∨ o = 494) ∧ CP M c k) → ¬ (o = 495 ∧ k = c) → ¬ (o = 468 ∧ (k = 34 ∨ k = 35)) → M' o k = M o k
theorem FRr.rfl' {M : Mem} {c : Int} : FRr M c M := fun _ _ _ _ _ => rfl
theorem FRr.cp {M M' : Mem} {c : Int} (h : FRr M c M') (k : Int) : CP M' c k ↔ CP M c k := by
  unfold CP
  rw [h 468 17 (by omega) (by omega) (by omega), h 468 9 (by omega) (by omega) (by omega), h 474 _ (by omega) (by omega) (by omega)]
theorem FRr.trans {M M1 M2 : Mem} {c : Int} (h1 : FRr M c M1) (h2 : FRr M1 c M2) : FRr M c M2 := fun o k a b d => (h2 o k (fun w => a ⟨w.1, (h1.cp k).mp w.2⟩) b d).trans (h1 o k a b d)
theorem FRr.gd {M M' : Mem} {c o k : Int} (h : FRr M c M') (ho : o ≠ 493) (h2 : o ≠ 494) (h3 : o ≠ 495) (h4 : o ≠ 468 ∨ (k ≠ 34 ∧ k ≠ 35)) : M' o k = M o k := h o k (by omega) (by omega) (by omega)
theorem RB.sta {M : Mem} (I : RB M) : STA M := fun x x0 x1 h => by
  have h1 := I.stamp.2.2 (x / 5) (x % 5) (by omega) (by omega) (by omega) (by omega)
  rw [show 5 * (x / 5) + x % 5 = x by omega] at h1
  exact h1 h
theorem RBb.gb {M : Mem} {c : Int} {b : BSt} (I : RB M) (h : RBb M c b) (ht : TRI b) : GB M := by
  have i0 := I.rng
  exact ⟨by omega, by omega, by omega, by omega, fun p p0 p1 => by have := I.prob p p0 p1; omega, fun x x0 x1 => by rw [h.1 x x0 x1]; exact ht x⟩
/-- the balloons of c are moved on to b, with k more stamps at most -/
def BMV (M : Mem) (c : Int) (b : BSt) (k : Int) (M' : Mem) : Prop := FRr M c M' ∧ RBb M' c b ∧ STA M' ∧ M 468 34 ≤ M' 468 34 ∧ M' 468 34 ≤ M 468 34 + k
theorem RB.moved {M M' : Mem} {c k : Int} {b : BSt} (I : RB M) (h : BMV M c b k M') (ht : TRI b) (h3 : M 468 34 + k ≤ 100000) : RB M' := by
  obtain ⟨f, hb, hs, s1, s2⟩ := h
  have i0 := I.rng
  have e : ∀ o k, o ≠ 493 → o ≠ 494 → o ≠ 495 → (o ≠ 468 ∨ (k ≠ 34 ∧ k ≠ 35)) → M' o k = M o k := fun o k a b d d2 => f.gd a b d d2
  obtain ⟨r1, r2, r3, r4, r5, r6, r7, r8, r9, r10, r11⟩ := id I
  unfold RB
  simp (disch := omega) only [e]
  refine ⟨r1, r2, r3, r4, r5, r6, r7, fun t p t0 t1 p0 p1 => ?_, r9, r10, ⟨by omega, by omega, fun t p t0 t1 p0 p1 w => ?_⟩⟩
  · rw [hb.1 _ (by omega) (by rw [e 468 17 (by omega) (by omega) (by omega) (by omega)]; omega)]; exact ht _
  · exact hs _ (by omega) (by rw [e 468 17 (by omega) (by omega) (by omega) (by omega)]; omega) w
theorem Sol_fr {M M' : Mem} {c t p : Int} (f : FRr M c M') : Sol M' t p ↔ Sol M t p := by
  have e : ∀ o k, o ≠ 493 → o ≠ 494 → o ≠ 495 → (o ≠ 468 ∨ (k ≠ 34 ∧ k ≠ 35)) → M' o k = M o k := fun o k a b d d2 => f.gd a b d d2
  unfold Sol Acc
  simp (disch := omega) only [e]
/-- one who waits is served -/
def SV1 (x : Int) (q : List Int) (b : BSt) : BSt := (st1 b.1 x 111, q, b.2.2.1 - 1, b.2.2.2.1, b.2.2.2.2 + 1)
theorem SVo_1 {b : BSt} {x : Int} {q : List Int} (hq : b.2.1 = x :: q) (hk : 0 < b.2.2.1) : SVo (SV1 x q b) = SVo b := by
  have hn : svN b.2.2.1 b.2.1 = svN (b.2.2.1 - 1) q + 1 := by rw [hq]; unfold svN; rw [List.length_cons]; omega
  rw [hq] at hn
  unfold SVo SV1
  simp only [hq, hn, List.take_succ_cons, List.drop_succ_cons]
  refine Prod.ext (funext fun y => ?_) (Prod.ext ?_ (Prod.ext ?_ (Prod.ext ?_ ?_)))
  rotate_left
  · rfl
  · show b.2.2.1 - 1 - ((svN (b.2.2.1 - 1) q : Nat) : Int) = b.2.2.1 - ((svN (b.2.2.1 - 1) q + 1 : Nat) : Int)
    omega
  · rfl
  · show b.2.2.2.2 + 1 + ((svN (b.2.2.1 - 1) q : Nat) : Int) = b.2.2.2.2 + ((svN (b.2.2.1 - 1) q + 1 : Nat) : Int)
    omega
  show (if y ∈ List.take (svN (b.2.2.1 - 1) q) q then 111 else st1 b.1 x 111 y) = if y ∈ x :: List.take (svN (b.2.2.1 - 1) q) q then 111 else b.1 y
  unfold st1
  by_cases e : y = x
  · simp [e]
  · simp [e]
theorem SVo_0 {b : BSt} (h : b.2.1.length = 0 ∨ b.2.2.1 ≤ 0) : SVo b = b := by
  have hn : svN b.2.2.1 b.2.1 = 0 := by unfold svN; omega
  unfold SVo
  simp [hn]
theorem QN.sv1 {b : BSt} {x : Int} {q : List Int} (h : QN b) (hq : b.2.1 = x :: q) : QN (SV1 x q b) := by
  obtain ⟨h1, h2⟩ := h
  rw [hq] at h1 h2
  obtain ⟨h3, h4⟩ := List.nodup_cons.mp h1
  refine ⟨h4, fun y hy => ?_⟩
  obtain ⟨a, c, d⟩ := h2 y (List.mem_cons_of_mem _ hy)
  refine ⟨a, c, ?_⟩
  show st1 _ _ _ _ = _
  unfold st1
  rw [if_neg (fun w => by rw [w] at hy; exact h3 hy)]
  exact d
theorem RBb.sv1 {M : Mem} {c f : Int} {b : BSt} (h : RBb M c b) (hn : QN b) (hs : STA M) (G : GB M) (hw : WA b.2.1 0 f) (hf : f ≠ -1) (hk : 0 < M 495 c) :
    ∃ x q, b.2.1 = x :: q ∧ 0 ≤ x ∧ x < 40 ∧ 5 * (f / 10) + f % 10 = x ∧ 0 ≤ f ∧ f < 80 ∧ f % 10 < 5 ∧ CP M c x ∧
      RBb (up (up M 495 c (M 495 c - 1)) 493 x 111) c (SV1 x q b) ∧ SVo (SV1 x q b) = SVo b ∧ QN (SV1 x q b) ∧ STA (up (up M 495 c (M 495 c - 1)) 493 x 111) ∧ GB (up (up M 495 c (M 495 c - 1)) 493 x 111) ∧ FRr M c (up (up M 495 c (M 495 c - 1)) 493 x 111) := by
  obtain ⟨r1, r2, r3, r4⟩ := id h
  rcases hw with ⟨-, w1, x, w2, w3, w4, w5⟩ | ⟨w1, w2⟩
  · cases hq : b.2.1 with
    | nil => rw [hq] at w1; simp at w1
    | cons z q =>
      rw [hq] at w2
      simp at w2
      subst w2
      have hx := cdx_0 w4 w5
      have hx2 := cdx_sp w4
      have hn2 := hn.sv1 hq
      have hno := hn.1
      rw [hq] at hno r2
      obtain ⟨n1, n2⟩ := List.nodup_cons.mp hno
      obtain ⟨z0, z1, z2⟩ := (r2.1 z).mp List.mem_cons_self
      refine ⟨z, q, rfl, w4, w5, by rw [w3]; exact hx2, by omega, by omega, by omega, ⟨z0, z1, z2.2⟩, ⟨fun y y0 y1 => ?_, ?_, ?_, ?_⟩, SVo_1 hq (by omega), hn2, fun y y0 y1 y2 => ?_, ?_, fun o k a1 a2 a3 => ?_⟩
      · show _ = st1 b.1 z 111 y
        simp (disch := omega) only [up_o] at y1
        unfold st1
        by_cases e : y = z
        · rw [if_pos e, e, up_s]
        · rw [if_neg e, up_k e, up_o (by omega)]; exact r1 y y0 y1
      · show QB _ c q
        refine r2.out (x := z) (List.sublist_cons_self _ _) (fun y => ?_) ?_ ?_ (fun p => ?_) (fun y => ?_) (fun y hy => ?_) ?_
        · constructor
          · intro w; exact ⟨List.mem_cons_of_mem _ w, fun e => by rw [e] at w; exact n1 w⟩
          · rintro ⟨w, e⟩
            rcases List.mem_cons.mp w with w | w
            · exact absurd w e
            · exact w
        all_goals simp (disch := omega) only [up_o, up_k, up_s]
        omega
      · simp (disch := omega) only [up_o, up_s]; show _ = b.2.2.1 - 1; omega
      · simp (disch := omega) only [up_o]; exact r4
      · simp (disch := omega) only [up_o] at y1 ⊢
        by_cases e : y = z
        · rw [e, up_s] at y2; omega
        · rw [up_k e, up_o (by omega)] at y2; exact hs y y0 y1 y2
      · obtain ⟨g1, g2, g3, g4, g5, g6⟩ := G
        unfold GB
        simp (disch := omega) only [up_o]
        refine ⟨g1, g2, g3, g4, g5, fun y y0 y1 => ?_⟩
        by_cases e : y = z
        · rw [e, up_s]; omega
        · rw [up_k e, up_o (by omega)]; exact g6 y y0 y1
      · have e : ¬ (o = 493 ∧ k = z) := fun e => a1 ⟨Or.inl e.1, by rw [e.2]; exact ⟨z0, z1, z2.2⟩⟩
        rw [up_n (by omega), up_n (by omega)]
  · exact absurd w2 hf
