theorem BMV.trans {M M1 M2 : Mem} {c k k2 : Int} {b b2 : BSt} (h1 : BMV M c b k M1) (h2 : BMV M1 c b2 k2 M2) : BMV M c b2 (k + k2) M2 := by
  obtain ⟨a1, a2, a3, a4, a5⟩ := h1
  obtain ⟨d1, d2, d3, d4, d5⟩ := h2
  exact ⟨a1.trans d1, d2, d3, by omega, by omega⟩
theorem BMV.rfl' {M : Mem} {c : Int} {b : BSt} (I : RB M) (h : RBb M c b) : BMV M c b 0 M := ⟨FRr.rfl', h, I.sta, by omega, by omega⟩
theorem BMV.mono {M M' : Mem} {c k k2 : Int} {b : BSt} (h : BMV M c b k M') (hk : k ≤ k2) : BMV M c b k2 M' := ⟨h.1, h.2.1, h.2.2.1, h.2.2.2.1, by have := h.2.2.2.2; omega⟩
theorem FRr.gb {M M' : Mem} {c : Int} {b : BSt} (f : FRr M c M') (G : GB M) (h : RBb M' c b) (ht : TRI b) : GB M' := by
  obtain ⟨g1, g2, g3, g4, g5, g6⟩ := G
  unfold GB
  rw [f.gd (o := 468) (k := 17) (by omega) (by omega) (by omega) (by omega), f.gd (o := 468) (k := 9) (by omega) (by omega) (by omega) (by omega)]
  refine ⟨g1, g2, g3, g4, fun p p0 p1 => ?_, fun x x0 x1 => ?_⟩
  · rw [f.gd (o := 474) (by omega) (by omega) (by omega) (by omega)]; exact g5 p p0 p1
  · rw [h.1 x x0 (by rw [f.gd (o := 468) (k := 17) (by omega) (by omega) (by omega) (by omega)]; exact x1)]; exact ht x
theorem RBb.add {M : Mem} {c x : Int} {b : BSt} (h : RBb M c b) (hs : STA M) (h34 : 0 ≤ M 468 34) (hx : CP M c x) (x1 : x < 40) (he : b.1 x = 45) :
    BMV M c (st1 b.1 x 113, b.2.1 ++ [x], b.2.2) 1 (up (up (up M 468 34 (M 468 34 + 1)) 494 x (M 468 34 + 1)) 493 x 113) := by
  obtain ⟨r1, r2, r3, r4⟩ := id h
  have hx0 := hx.1
  have h493 : M 493 x = 45 := by rw [r1 x hx0 hx.2.1]; exact he
  refine ⟨fun o k a1 a2 a3 => ?_, ⟨fun y y0 y1 => ?_, ?_, ?_, ?_⟩, fun y y0 y1 y2 => ?_, ?_, ?_⟩
  · have e : ¬ ((o = 493 ∨ o = 494) ∧ k = x) := fun e => a1 ⟨e.1, by rw [e.2]; exact hx⟩
    rw [up_n (by omega), up_n (by omega), up_n (by omega)]
  · show _ = st1 b.1 x 113 y
    simp (disch := omega) only [up_o, up_k] at y1
    unfold st1
    by_cases e : y = x
    · rw [if_pos e, e, up_s]
    · rw [if_neg e, up_k e, up_o (by omega), up_o (by omega)]; exact r1 y y0 y1
  · refine r2.push hx (by omega) ?_ ?_ (fun p => ?_) (fun y hy => ?_) (fun y hy => ?_) ?_ (fun y hy => ?_)
    · simp (disch := omega) only [up_o, up_k]
    · simp (disch := omega) only [up_o, up_k]
    · simp (disch := omega) only [up_o]
    · rw [up_o (by omega), up_k hy, up_o (by omega)]
    · rw [up_k hy, up_o (by omega), up_o (by omega)]
    · rw [up_s]
    · rw [up_o (by omega), up_s]
      have := (r2.st hs hy).2
      omega
  · simp (disch := omega) only [up_o]; exact r3
  · simp (disch := omega) only [up_o, up_k]; exact r4
  · simp (disch := omega) only [up_o, up_k] at y1
    have e34 : (up (up (up M 468 34 (M 468 34 + 1)) 494 x (M 468 34 + 1)) 493 x 113) 468 34 = M 468 34 + 1 := by simp (disch := omega) only [up_o, up_s]
    rw [e34, up_o (by omega)]
    by_cases e : y = x
    · rw [e, up_s]; omega
    · rw [up_k e, up_o (by omega)]
      rw [up_k e, up_o (by omega), up_o (by omega)] at y2
      have := hs y y0 y1 y2
      omega
  · simp (disch := omega) only [up_o, up_s]; omega
  · simp (disch := omega) only [up_o, up_s]; omega
theorem QB.notin {M : Mem} {c x : Int} {q : List Int} (h : QB M c q) (hx : M 493 x ≠ 113) : ∀ y, y ∈ q ↔ y ∈ q ∧ y ≠ x := fun y => ⟨fun w => ⟨w, fun e => hx (by rw [← e]; exact ((h.1 y).mp w).2.2.1)⟩, fun w => w.1⟩
theorem RBb.tk1 {M : Mem} {c x : Int} {b : BSt} (h : RBb M c b) (hs : STA M) (hx : CP M c x) (x1 : x < 40) (he : M 493 x = 111) :
    BMV M c (TKo x b) 0 (up (up (up M 495 c (M 495 c + 1)) 468 35 (M 468 35 + 1)) 493 x 45) := by
  obtain ⟨r1, r2, r3, r4⟩ := id h
  have hx0 := hx.1
  have hb : b.1 x = 111 := by rw [← r1 x hx0 hx.2.1]; exact he
  unfold TKo
  rw [if_pos hb]
  refine ⟨fun o k a1 a2 a3 => ?_, ⟨fun y y0 y1 => ?_, ?_, ?_, ?_⟩, fun y y0 y1 y2 => ?_, ?_, ?_⟩
  · have e : ¬ (o = 493 ∧ k = x) := fun e => a1 ⟨Or.inl e.1, by rw [e.2]; exact hx⟩
    rw [up_n (by omega), up_n (by omega), up_n (by omega)]
  · show _ = st1 b.1 x 45 y
    simp (disch := omega) only [up_o, up_k] at y1
    unfold st1
    by_cases e : y = x
    · rw [if_pos e, e, up_s]
    · rw [if_neg e, up_k e, up_o (by omega), up_o (by omega)]; exact r1 y y0 y1
  · refine r2.out (x := x) (List.Sublist.refl _) (r2.notin (by omega)) ?_ ?_ (fun p => ?_) (fun y => ?_) (fun y hy => ?_) ?_
    all_goals simp (disch := omega) only [up_o, up_k, up_s]
    omega
  · simp (disch := omega) only [up_o, up_s]; show _ = b.2.2.1 + 1; omega
  · simp (disch := omega) only [up_o, up_s]; show _ = b.2.2.2.1 + 1; omega
  · simp (disch := omega) only [up_o, up_k] at y1 ⊢
    by_cases e : y = x
    · rw [e, up_s] at y2; omega
    · rw [up_k e, up_o (by omega), up_o (by omega)] at y2; exact hs y y0 y1 y2
  · simp (disch := omega) only [up_o, up_k]; omega
  · simp (disch := omega) only [up_o, up_k]; omega
theorem RBb.tk2 {M : Mem} {c x : Int} {b : BSt} (h : RBb M c b) (hs : STA M) (hx : CP M c x) (x1 : x < 40) (he : M 493 x = 113) :
    BMV M c (TKo x b) 0 (up M 493 x 45) := by
  obtain ⟨r1, r2, r3, r4⟩ := id h
  have hx0 := hx.1
  have hb : b.1 x = 113 := by rw [← r1 x hx0 hx.2.1]; exact he
  unfold TKo
  rw [if_neg (by omega), if_pos hb]
  refine ⟨fun o k a1 a2 a3 => ?_, ⟨fun y y0 y1 => ?_, ?_, ?_, ?_⟩, fun y y0 y1 y2 => ?_, ?_, ?_⟩
  · have e : ¬ (o = 493 ∧ k = x) := fun e => a1 ⟨Or.inl e.1, by rw [e.2]; exact hx⟩
    rw [up_n (by omega)]
  · show _ = st1 b.1 x 45 y
    simp (disch := omega) only [up_o, up_k] at y1
    unfold st1
    by_cases e : y = x
    · rw [if_pos e, e, up_s]
    · rw [if_neg e, up_k e]; exact r1 y y0 y1
  · refine r2.out (x := x) List.filter_sublist (fun y => by rw [List.mem_filter]; simp) ?_ ?_ (fun p => ?_) (fun y => ?_) (fun y hy => ?_) ?_
    all_goals simp (disch := omega) only [up_o, up_k, up_s]
    omega
  · simp (disch := omega) only [up_o]; exact r3
  · simp (disch := omega) only [up_o]; exact r4
  · simp (disch := omega) only [up_o] at y1 ⊢
    by_cases e : y = x
    · rw [e, up_s] at y2; omega
    · rw [up_k e] at y2; exact hs y y0 y1 y2
  · simp (disch := omega) only [up_o]; omega
  · simp (disch := omega) only [up_o]; omega
theorem TKo_none {x : Int} {b : BSt} (h : b.1 x = 45) : TKo x b = b := by unfold TKo; rw [if_neg (by omega), if_neg (by omega)]
