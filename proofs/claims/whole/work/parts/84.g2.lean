/-- none waits while there is stock -/
def NSL (b : BSt) : Prop := b.2.1.length = 0 ∨ b.2.2.1 ≤ 0
theorem NSL.sv (b : BSt) : NSL (SVo b) := by
  show (b.2.1.drop (svN b.2.2.1 b.2.1)).length = 0 ∨ b.2.2.1 - (svN b.2.2.1 b.2.1 : Int) ≤ 0
  rw [List.length_drop]
  unfold svN
  omega
theorem NSL.eq {b : BSt} (h : NSL b) : SVo b = b := SVo_0 h
theorem NSL.fSn {sol : Int → Prop} {p : Int} {b : BSt} (h : NSL b) : ∀ n : Nat, NSL (fSn sol p b n) := by
  intro n
  induction n with
  | zero => exact h
  | succ n ih =>
    show NSL (@ite BSt _ (Classical.propDecidable _) _ _)
    split
    · exact NSL.sv _
    · exact ih
theorem NSL.fFo {sol : Int → Prop} {p T : Int} {b : BSt} : NSL (fFo sol p T b) := (NSL.sv _).fSn _
/-- where no team loses a solved problem, nothing is taken away -/
theorem fTk_none {sol : Int → Prop} {p : Int} {b : BSt} : ∀ n : Nat, (∀ u : Int, 0 ≤ u → u < n → ¬ sol u → b.1 (5 * u + p) = 45) → fTk sol p b n = b := by
  intro n
  induction n with
  | zero => intro _; rfl
  | succ n ih =>
    intro h
    have e := ih (fun u u0 u1 => h u u0 (by omega))
    show @ite BSt _ (Classical.propDecidable _) _ _ = b
    split
    · exact e
    · rename_i hs
      rw [e, TKo_none (h n (by omega) (by omega) hs)]
/-- where all who have solved have a balloon, none is sent -/
theorem fSn_none {sol : Int → Prop} {p : Int} {b : BSt} : ∀ n : Nat, (∀ u : Int, 0 ≤ u → u < n → sol u → b.1 (5 * u + p) ≠ 45) → fSn sol p b n = b := by
  intro n
  induction n with
  | zero => intro _; rfl
  | succ n ih =>
    intro h
    have e := ih (fun u u0 u1 => h u u0 (by omega))
    show @ite BSt _ (Classical.propDecidable _) _ _ = b
    split
    · rename_i hs
      rw [e] at hs
      exact absurd hs.2 (h n (by omega) (by omega) hs.1)
    · exact e
