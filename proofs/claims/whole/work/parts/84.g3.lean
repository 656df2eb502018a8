/-- a run taken: at most its own team is sent a balloon -/
theorem fSn_own {sol : Int → Prop} {p t : Int} {b R : BSt} (hq : QN b) (p0 : 0 ≤ p) (p1 : p < 5) (t0 : 0 ≤ t) (t1 : t < 8)
    (ho : ∀ u : Int, 0 ≤ u → u < 8 → u ≠ t → sol u → b.1 (5 * u + p) ≠ 45) (hR : (b.1 (5 * t + p) = 45 ∧ sol t ∧ R = SNo (5 * t + p) b) ∨ (¬ (b.1 (5 * t + p) = 45 ∧ sol t) ∧ R = b)) :
    ∀ n : Nat, n ≤ 8 → (t < n → fSn sol p b n = R) ∧ (n ≤ t → fSn sol p b n = b) := by
  intro n
  induction n with
  | zero => intro _; exact ⟨fun e => by omega, fun _ => rfl⟩
  | succ n ih =>
    intro hn
    obtain ⟨i1, i2⟩ := ih (by omega)
    have hs : fSn sol p b (n + 1) = @ite BSt (sol n ∧ (fSn sol p b n).1 (5 * n + p) = 45) (Classical.propDecidable _) (SNo (5 * n + p) (fSn sol p b n)) (fSn sol p b n) := rfl
    refine ⟨fun e => ?_, fun e => ?_⟩
    · rcases Int.lt_or_le t n with e2 | e2
      · rw [hs, i1 e2, if_neg]
        · rintro ⟨w1, w2⟩
          have h9 := ho n (by omega) (by omega) (by omega) w1
          rcases hR with ⟨r1, r2, r3⟩ | ⟨r1, r2⟩
          · rw [r3, SNo_45 hq (by omega) (by omega) r1] at w2
            exact h9 w2.2
          · rw [r2] at w2; exact h9 w2
      · have e3 : (n : Int) = t := by omega
        rw [hs, i2 (by omega), e3]
        rcases hR with ⟨r1, r2, r3⟩ | ⟨r1, r2⟩
        · rw [if_pos ⟨r2, r1⟩, r3]
        · rw [if_neg (fun w => r1 ⟨w.2, w.1⟩), r2]
    · rw [hs, i2 (by omega), if_neg]
      rintro ⟨w1, w2⟩
      exact ho n (by omega) (by omega) (by omega) w1 w2
theorem fFo_own {sol : Int → Prop} {p t T : Int} {b R : BSt} (hq : QN b) (hn : NSL b) (p0 : 0 ≤ p) (p1 : p < 5) (t0 : 0 ≤ t) (t1 : t < T) (T1 : T ≤ 8)
    (ho : ∀ u : Int, 0 ≤ u → u < 8 → u ≠ t → sol u → b.1 (5 * u + p) ≠ 45) (hk : ∀ u : Int, 0 ≤ u → u < T → ¬ sol u → b.1 (5 * u + p) = 45)
    (hR : (b.1 (5 * t + p) = 45 ∧ sol t ∧ R = SNo (5 * t + p) b) ∨ (¬ (b.1 (5 * t + p) = 45 ∧ sol t) ∧ R = b)) : fFo sol p T b = R := by
  unfold fFo
  rw [fTk_none T.toNat (fun u u0 u1 => hk u u0 (by omega)), hn.eq]
  exact (fSn_own hq p0 p1 t0 (by omega) ho hR T.toNat (by omega)).1 (by omega)
