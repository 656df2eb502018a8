/-- where the reference's loop stands: s, ended by w or not yet -/
def QW (M : Mem) (r t : Int) (S : Mem) (w : Int) : Prop := (w ≠ 32 → JE M (M 482 r) t (JR M r t) w ∧ S 5 0 = (JR M r t) 5 0 ∧ S 2 0 = (JR M r t) 2 0 ∧ ∀ j, S 1 j = (JR M r t) 1 j) ∧
  (w = 32 → prun (M 484 r) (fun k => M 485 (20 * r + k)) (fun k => M 486 (20 * r + k)) (fun k => M 487 (20 * r + k)) (M 478 (6 * M 482 r + t)) (fun k => M 477 (24 * M 482 r + 4 * t + k)) (M 475 (M 482 r)) (M 475 (M 482 r) - S 5 0 + 1).toNat S = JR M r t)
theorem QW.ini (M : Mem) (r t : Int) : QW M r t ps0 32 := by
  refine ⟨fun h => absurd rfl h, fun _ => ?_⟩
  rw [show M 475 (M 482 r) - ps0 5 0 + 1 = M 475 (M 482 r) + 1 by show _ - (0 : Int) + 1 = _; omega]
  rfl
theorem QW.nx {M s s' : Mem} {r t w w' : Int} (h : QW M r t s w) (hw : w = 32) (e1 : w = s 6 0) (h2 : s 4 0 ≠ M 484 r) (h3 : s 5 0 < M 475 (M 482 r))
    (hs : pstep (M 484 r) (fun k => M 485 (20 * r + k)) (fun k => M 486 (20 * r + k)) (fun k => M 487 (20 * r + k)) (M 478 (6 * M 482 r + t)) (fun k => M 477 (24 * M 482 r + 4 * t + k)) s = s') (h5 : s' 5 0 = s 5 0 + 1) (e' : w' = s' 6 0) (hn : w' ≠ 111) : QW M r t s' w' := by
  have hP := prun_nx (e1.symm.trans hw) h2 h3 (h.2 hw) hs h5
  refine ⟨fun h6 => ?_, fun _ => hP⟩
  rw [prun_end (by omega)] at hP
  rw [← hP]
  exact ⟨Or.inl ⟨by omega, e'⟩, rfl, rfl, fun _ => rfl⟩
theorem QW.lim {M s : Mem} {r t w : Int} (h : QW M r t s w) (hw : w = 32) (e1 : w = s 6 0) (h2 : s 4 0 ≠ M 484 r) (h3 : s 5 0 = M 475 (M 482 r)) : QW M r t (up s 6 0 116) 116 := by
  have hP := h.2 hw
  rw [prun_lim (e1.symm.trans hw) h2 h3 (by omega)] at hP
  refine ⟨fun _ => ?_, fun h => by omega⟩
  rw [← hP]
  exact ⟨Or.inl ⟨by rw [up_s]; omega, by rw [up_s]⟩, rfl, rfl, fun _ => rfl⟩
theorem QW.fin {M s : Mem} {r t w w' : Int} (h : QW M r t s w) (hw : w = 32) (e1 : w = s 6 0) (h2 : s 4 0 = M 484 r) (h3 : s 5 0 ≤ M 475 (M 482 r)) (X : (w' = 111 ∧ XPo M (M 482 r) t s) ∨ (w' = 119 ∧ ¬ XPo M (M 482 r) t s)) : QW M r t (up s 6 0 w') w' := by
  have hP := h.2 hw
  rw [prun_fin (e1.symm.trans hw) h2 (by omega)] at hP
  have hX : XPo M (M 482 r) t (up s 6 0 111) ↔ XPo M (M 482 r) t s := by unfold XPo; simp (disch := omega) only [up_o]
  refine ⟨fun _ => ?_, fun h => by omega⟩
  rw [← hP]
  refine ⟨?_, by simp (disch := omega) only [up_o], by simp (disch := omega) only [up_o], fun j => by simp (disch := omega) only [up_o]⟩
  rcases X with ⟨a, b⟩ | ⟨a, b⟩
  · exact Or.inr (Or.inl ⟨up_s _ _ _ _, hX.mpr b, a⟩)
  · exact Or.inr (Or.inr ⟨up_s _ _ _ _, fun q => b (hX.mp q), a⟩)
/-- what judging run r by test t leaves -/
def JP (M : Mem) (r t : Int) (M' : Mem) : Prop := (∀ o k, ¬ jT r t o k → ¬ (o = 488 ∧ k = 6 * r + t) → M' o k = M o k) ∧ M' 491 (6 * r + t) = (JR M r t) 2 0 ∧ (∀ k, 0 ≤ k → k < (JR M r t) 2 0 → M' 490 (36 * r + 6 * t + k) = (JR M r t) 1 k) ∧ M' 489 (6 * r + t) = (JR M r t) 5 0 ∧ JE M (M 482 r) t (JR M r t) (M' 488 (6 * r + t)) ∧
  0 ≤ (JR M r t) 2 0 ∧ (JR M r t) 2 0 ≤ 6 ∧ 0 ≤ (JR M r t) 5 0 ∧ (JR M r t) 5 0 ≤ M 475 (M 482 r) ∧ (M' 488 (6 * r + t) = 111 ∨ M' 488 (6 * r + t) = 119 ∨ M' 488 (6 * r + t) = 114 ∨ M' 488 (6 * r + t) = 108 ∨ M' 488 (6 * r + t) = 116)
theorem RelB.ini {M M0 : Mem} {r t : Int} (z0 : ∀ o j, o ≠ 492 → M0 o j = M o j) (z1 : ∀ j, 0 ≤ j → j < 4 → M0 492 j = 0) : RelB M r t (up (up M0 491 (6 * r + t) 0) 489 (6 * r + t) 0) ps0 := by
  refine ⟨fun o k hn => ?_, fun k k0 k1 => ?_, ?_, fun k k0 k1 => ?_, ?_, Int.le_refl 0, by show (0 : Int) ≤ 6; omega⟩
  · rw [up_n (by unfold jT at hn; omega), up_n (by unfold jT at hn; omega)]; exact z0 o k (by unfold jT at hn; omega)
  · simp (disch := omega) only [up_o]; exact z1 k k0 k1
  · simp (disch := omega) only [up_o, up_s]; rfl
  · exact absurd (show k < (0 : Int) from k1) (by omega)
  · rw [up_s]; rfl
/-- within the loop the reference stays in its ranges -/
theorem RB0.rel {M M1 s : Mem} {r t : Int} (I : RB0 M) (h : RelB M r t M1 s) (r0 : 0 ≤ r) (r1 : r < M 468 18) (t0 : 0 ≤ t) (t1 : t < M 476 (M 482 r)) : True := trivial
