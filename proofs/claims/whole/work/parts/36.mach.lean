/-! what a program does, step by step: 0 the places, 1 the output, 2 its length, 3 inputs taken, 4 the next step, 5 steps done, 6 how it ended (32: not yet; 111: by itself) -/
def pstep (ln : Int) (L A B : Int → Int) (inN : Int) (inp : Int → Int) (s : Mem) : Mem :=
  if L (s 4 0) = 104 then up (up s 5 0 (s 5 0 + 1)) 4 0 ln
  else if L (s 4 0) = 105 then (if s 3 0 = inN then up (up (up s 5 0 (s 5 0 + 1)) 4 0 (s 4 0 + 1)) 6 0 114 else up (up (up (up s 5 0 (s 5 0 + 1)) 4 0 (s 4 0 + 1)) 0 (A (s 4 0)) (inp (s 3 0))) 3 0 (s 3 0 + 1))
  else if L (s 4 0) = 111 then (if s 2 0 = 6 then up (up (up s 5 0 (s 5 0 + 1)) 4 0 (s 4 0 + 1)) 6 0 108 else up (up (up (up s 5 0 (s 5 0 + 1)) 4 0 (s 4 0 + 1)) 1 (s 2 0) (s 0 (A (s 4 0)))) 2 0 (s 2 0 + 1))
  else if L (s 4 0) = 106 ∨ L (s 4 0) = 110 then
    (if (L (s 4 0) = 106 ∧ s 0 (A (s 4 0)) ≠ 0) ∨ (L (s 4 0) = 110 ∧ s 0 (A (s 4 0)) < 0) then (if ln ≤ B (s 4 0) then up (up (up s 5 0 (s 5 0 + 1)) 4 0 (s 4 0 + 1)) 6 0 114 else up (up s 5 0 (s 5 0 + 1)) 4 0 (B (s 4 0))) else up (up s 5 0 (s 5 0 + 1)) 4 0 (s 4 0 + 1))
  else if L (s 4 0) = 100 then (if s 0 (B (s 4 0)) = 0 then up (up (up s 5 0 (s 5 0 + 1)) 4 0 (s 4 0 + 1)) 6 0 114 else up (up (up s 5 0 (s 5 0 + 1)) 4 0 (s 4 0 + 1)) 0 (A (s 4 0)) (dv (s 0 (A (s 4 0))) (s 0 (B (s 4 0)))))
  else if L (s 4 0) = 115 then up (up (up s 5 0 (s 5 0 + 1)) 4 0 (s 4 0 + 1)) 0 (A (s 4 0)) (B (s 4 0))
  else if L (s 4 0) = 97 then up (up (up s 5 0 (s 5 0 + 1)) 4 0 (s 4 0 + 1)) 0 (A (s 4 0)) (wr (s 0 (A (s 4 0)) + s 0 (B (s 4 0))))
  else up (up (up s 5 0 (s 5 0 + 1)) 4 0 (s 4 0 + 1)) 0 (A (s 4 0)) (wr (s 0 (A (s 4 0)) * s 0 (B (s 4 0))))
def prun (ln : Int) (L A B : Int → Int) (inN : Int) (inp : Int → Int) (lim : Int) : Nat → Mem → Mem
  | 0, s => s
  | n + 1, s => if s 6 0 ≠ 32 then s else if s 4 0 = ln then up s 6 0 111 else if s 5 0 = lim then up s 6 0 116 else prun ln L A B inN inp lim n (pstep ln L A B inN inp s)
def ps0 : Mem := fun o _ => if o = 6 then 32 else 0
section PR
variable {ln inN lim : Int} {L A B inp : Int → Int} {s : Mem}
theorem prun_end {n : Nat} (h : s 6 0 ≠ 32) : prun ln L A B inN inp lim n s = s := by
  cases n with
  | zero => rfl
  | succ n => simp only [prun]; rw [if_pos h]
theorem prun_fin {n : Nat} (h : s 6 0 = 32) (h2 : s 4 0 = ln) (hn : 0 < n) : prun ln L A B inN inp lim n s = up s 6 0 111 := by
  cases n with
  | zero => omega
  | succ n => simp only [prun]; rw [if_neg (by omega), if_pos h2]
theorem prun_lim {n : Nat} (h : s 6 0 = 32) (h2 : s 4 0 ≠ ln) (h3 : s 5 0 = lim) (hn : 0 < n) : prun ln L A B inN inp lim n s = up s 6 0 116 := by
  cases n with
  | zero => omega
  | succ n => simp only [prun]; rw [if_neg (by omega), if_neg h2, if_pos h3]
theorem prun_s {n : Nat} (h : s 6 0 = 32) (h2 : s 4 0 ≠ ln) (h3 : s 5 0 ≠ lim) : prun ln L A B inN inp lim (n + 1) s = prun ln L A B inN inp lim n (pstep ln L A B inN inp s) := by
  simp only [prun]; rw [if_neg (by omega), if_neg h2, if_neg h3]
/-- the next step, as the loops take it -/
theorem prun_nx (h : s 6 0 = 32) (h2 : s 4 0 ≠ ln) (h3 : s 5 0 < lim) {P : Mem} (hP : prun ln L A B inN inp lim (lim - s 5 0 + 1).toNat s = P) {s' : Mem} (hs : pstep ln L A B inN inp s = s') (h5 : s' 5 0 = s 5 0 + 1) : prun ln L A B inN inp lim (lim - s' 5 0 + 1).toNat s' = P := by
  rw [← hP, show (lim - s 5 0 + 1).toNat = (lim - s' 5 0 + 1).toNat + 1 by omega, prun_s h h2 (by omega), hs]
theorem pst_h (h : L (s 4 0) = 104) : pstep ln L A B inN inp s = up (up s 5 0 (s 5 0 + 1)) 4 0 ln := by unfold pstep; rw [if_pos h]
theorem pst_i0 (h : L (s 4 0) = 105) (h2 : s 3 0 = inN) : pstep ln L A B inN inp s = up (up (up s 5 0 (s 5 0 + 1)) 4 0 (s 4 0 + 1)) 6 0 114 := by unfold pstep; rw [if_neg (by omega), if_pos h, if_pos h2]
theorem pst_i1 (h : L (s 4 0) = 105) (h2 : s 3 0 ≠ inN) : pstep ln L A B inN inp s = up (up (up (up s 5 0 (s 5 0 + 1)) 4 0 (s 4 0 + 1)) 0 (A (s 4 0)) (inp (s 3 0))) 3 0 (s 3 0 + 1) := by unfold pstep; rw [if_neg (by omega), if_pos h, if_neg h2]
theorem pst_o0 (h : L (s 4 0) = 111) (h2 : s 2 0 = 6) : pstep ln L A B inN inp s = up (up (up s 5 0 (s 5 0 + 1)) 4 0 (s 4 0 + 1)) 6 0 108 := by unfold pstep; rw [if_neg (by omega), if_neg (by omega), if_pos h, if_pos h2]
theorem pst_o1 (h : L (s 4 0) = 111) (h2 : s 2 0 ≠ 6) : pstep ln L A B inN inp s = up (up (up (up s 5 0 (s 5 0 + 1)) 4 0 (s 4 0 + 1)) 1 (s 2 0) (s 0 (A (s 4 0)))) 2 0 (s 2 0 + 1) := by unfold pstep; rw [if_neg (by omega), if_neg (by omega), if_pos h, if_neg h2]
theorem pst_j0 (h : L (s 4 0) = 106 ∨ L (s 4 0) = 110) (h2 : ¬ ((L (s 4 0) = 106 ∧ s 0 (A (s 4 0)) ≠ 0) ∨ (L (s 4 0) = 110 ∧ s 0 (A (s 4 0)) < 0))) : pstep ln L A B inN inp s = up (up s 5 0 (s 5 0 + 1)) 4 0 (s 4 0 + 1) := by unfold pstep; rw [if_neg (by omega), if_neg (by omega), if_neg (by omega), if_pos h, if_neg h2]
theorem pst_j1 (h2 : (L (s 4 0) = 106 ∧ s 0 (A (s 4 0)) ≠ 0) ∨ (L (s 4 0) = 110 ∧ s 0 (A (s 4 0)) < 0)) (h3 : ln ≤ B (s 4 0)) : pstep ln L A B inN inp s = up (up (up s 5 0 (s 5 0 + 1)) 4 0 (s 4 0 + 1)) 6 0 114 := by unfold pstep; rw [if_neg (by omega), if_neg (by omega), if_neg (by omega), if_pos (by omega), if_pos h2, if_pos h3]
theorem pst_j2 (h2 : (L (s 4 0) = 106 ∧ s 0 (A (s 4 0)) ≠ 0) ∨ (L (s 4 0) = 110 ∧ s 0 (A (s 4 0)) < 0)) (h3 : ¬ ln ≤ B (s 4 0)) : pstep ln L A B inN inp s = up (up s 5 0 (s 5 0 + 1)) 4 0 (B (s 4 0)) := by unfold pstep; rw [if_neg (by omega), if_neg (by omega), if_neg (by omega), if_pos (by omega), if_pos h2, if_neg h3]
theorem pst_d0 (h : L (s 4 0) = 100) (h2 : s 0 (B (s 4 0)) = 0) : pstep ln L A B inN inp s = up (up (up s 5 0 (s 5 0 + 1)) 4 0 (s 4 0 + 1)) 6 0 114 := by unfold pstep; rw [if_neg (by omega), if_neg (by omega), if_neg (by omega), if_neg (by omega), if_pos h, if_pos h2]
theorem pst_d1 (h : L (s 4 0) = 100) (h2 : s 0 (B (s 4 0)) ≠ 0) : pstep ln L A B inN inp s = up (up (up s 5 0 (s 5 0 + 1)) 4 0 (s 4 0 + 1)) 0 (A (s 4 0)) (dv (s 0 (A (s 4 0))) (s 0 (B (s 4 0)))) := by unfold pstep; rw [if_neg (by omega), if_neg (by omega), if_neg (by omega), if_neg (by omega), if_pos h, if_neg h2]
theorem pst_s (h : L (s 4 0) = 115) : pstep ln L A B inN inp s = up (up (up s 5 0 (s 5 0 + 1)) 4 0 (s 4 0 + 1)) 0 (A (s 4 0)) (B (s 4 0)) := by unfold pstep; rw [if_neg (by omega), if_neg (by omega), if_neg (by omega), if_neg (by omega), if_neg (by omega), if_pos h]
theorem pst_a (h : L (s 4 0) = 97) : pstep ln L A B inN inp s = up (up (up s 5 0 (s 5 0 + 1)) 4 0 (s 4 0 + 1)) 0 (A (s 4 0)) (wr (s 0 (A (s 4 0)) + s 0 (B (s 4 0)))) := by unfold pstep; rw [if_neg (by omega), if_neg (by omega), if_neg (by omega), if_neg (by omega), if_neg (by omega), if_neg (by omega), if_pos h]
theorem pst_m (h : L (s 4 0) = 109) : pstep ln L A B inN inp s = up (up (up s 5 0 (s 5 0 + 1)) 4 0 (s 4 0 + 1)) 0 (A (s 4 0)) (wr (s 0 (A (s 4 0)) * s 0 (B (s 4 0)))) := by unfold pstep; rw [if_neg (by omega), if_neg (by omega), if_neg (by omega), if_neg (by omega), if_neg (by omega), if_neg (by omega), if_neg (by omega)]
end PR
/-- what the reference's run r by test t of its problem comes to -/
def JR (M : Mem) (r t : Int) : Mem := prun (M 484 r) (fun k => M 485 (20 * r + k)) (fun k => M 486 (20 * r + k)) (fun k => M 487 (20 * r + k)) (M 478 (6 * M 482 r + t)) (fun k => M 477 (24 * M 482 r + 4 * t + k)) (M 475 (M 482 r)) (M 475 (M 482 r) + 1).toNat ps0
def XPo (M : Mem) (p t : Int) (S : Mem) : Prop := S 2 0 = M 480 (6 * p + t) ∧ ∀ k, 0 ≤ k → k < S 2 0 → S 1 k = M 479 (36 * p + 6 * t + k)
/-- how it ended -/
def JE (M : Mem) (p t : Int) (S : Mem) (z : Int) : Prop := (S 6 0 ≠ 111 ∧ z = S 6 0) ∨ (S 6 0 = 111 ∧ XPo M p t S ∧ z = 111) ∨ (S 6 0 = 111 ∧ ¬ XPo M p t S ∧ z = 119)
/-- the places that judging run r by test t writes -/
def jT (r t o k : Int) : Prop := o = 492 ∨ (o = 489 ∧ k = 6 * r + t) ∨ (o = 491 ∧ k = 6 * r + t) ∨ (o = 490 ∧ 36 * r + 6 * t ≤ k ∧ k < 36 * r + 6 * t + 6)
def RelB (M : Mem) (r t : Int) (M1 s : Mem) : Prop := (∀ o k, ¬ jT r t o k → M1 o k = M o k) ∧ (∀ k, 0 ≤ k → k < 4 → M1 492 k = s 0 k) ∧ M1 491 (6 * r + t) = s 2 0 ∧ (∀ k, 0 ≤ k → k < s 2 0 → M1 490 (36 * r + 6 * t + k) = s 1 k) ∧ M1 489 (6 * r + t) = s 5 0 ∧ 0 ≤ s 2 0 ∧ s 2 0 ≤ 6
section RB
variable {M M1 s : Mem} {r t : Int}
theorem RelB.rd (h : RelB M r t M1 s) {o k : Int} (hn : o ≠ 492 ∧ o ≠ 489 ∧ o ≠ 491 ∧ o ≠ 490) : M1 o k = M o k := h.1 o k (by unfold jT; omega)
theorem RelB.stp (h : RelB M r t M1 s) (i : Int) : RelB M r t (up M1 489 (6 * r + t) (s 5 0 + 1)) (up (up s 5 0 (s 5 0 + 1)) 4 0 i) := by
  obtain ⟨h1, h2, h3, h4, h5, h6⟩ := h
  refine ⟨fun o k hn => ?_, fun k k0 k1 => ?_, ?_, fun k k0 k1 => ?_, ?_, ?_⟩
  · rw [up_n (by unfold jT at hn; omega)]; exact h1 o k hn
  · simp (disch := omega) only [up_o]; exact h2 k k0 k1
  · simp (disch := omega) only [up_o]; exact h3
  · simp (disch := omega) only [up_o] at k1 ⊢; exact h4 k k0 k1
  · simp (disch := omega) only [up_o, up_s]
  · simp (disch := omega) only [up_o]; exact h6
theorem RelB.pl (h : RelB M r t M1 s) (a v : Int) : RelB M r t (up M1 492 a v) (up s 0 a v) := by
  obtain ⟨h1, h2, h3, h4, h5, h6⟩ := h
  refine ⟨fun o k hn => ?_, fun k k0 k1 => ?_, ?_, fun k k0 k1 => ?_, ?_, ?_⟩
  · rw [up_o (by unfold jT at hn; omega)]; exact h1 o k hn
  · by_cases e : k = a
    · rw [e, up_s, up_s]
    · rw [up_k e, up_k e]; exact h2 k k0 k1
  · simp (disch := omega) only [up_o]; exact h3
  · simp (disch := omega) only [up_o] at k1 ⊢; exact h4 k k0 k1
  · simp (disch := omega) only [up_o]; exact h5
  · simp (disch := omega) only [up_o]; exact h6
theorem RelB.ct (h : RelB M r t M1 s) {o : Int} (z : Int) (ho : o = 3 ∨ o = 4 ∨ o = 6) : RelB M r t M1 (up s o 0 z) := by
  obtain ⟨h1, h2, h3, h4, h5, h6⟩ := h
  refine ⟨h1, fun k k0 k1 => ?_, ?_, fun k k0 k1 => ?_, ?_, ?_⟩ <;> simp (disch := omega) only [up_o] at *
  · exact h2 k k0 k1
  · exact h3
  · exact h4 k k0 k1
  · exact h5
  · exact h6
theorem RelB.ou (h : RelB M r t M1 s) (v : Int) (h6 : s 2 0 ≠ 6) : RelB M r t (up (up M1 490 (36 * r + 6 * t + s 2 0) v) 491 (6 * r + t) (s 2 0 + 1)) (up (up s 1 (s 2 0) v) 2 0 (s 2 0 + 1)) := by
  obtain ⟨h1, h2, h3, h4, h5, h7, h8⟩ := h
  refine ⟨fun o k hn => ?_, fun k k0 k1 => ?_, ?_, fun k k0 k1 => ?_, ?_, ?_⟩
  · rw [up_n (by unfold jT at hn; omega), up_n (by unfold jT at hn; omega)]; exact h1 o k hn
  · simp (disch := omega) only [up_o]; exact h2 k k0 k1
  · simp (disch := omega) only [up_s]
  · simp (disch := omega) only [up_s] at k1
    simp (disch := omega) only [up_o]
    by_cases e : k = s 2 0
    · rw [e, up_s, up_s]
    · rw [up_k (by omega), up_k e]; exact h4 k k0 (by omega)
  · simp (disch := omega) only [up_o]; exact h5
  · simp (disch := omega) only [up_s]; omega
end RB
