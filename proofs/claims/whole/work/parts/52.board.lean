def MXw (own : String) (idx : Nat) : Prop := Cond.methodLink own idx Lib.Math.max.name ∈ wsL_law ∧ Cond.static Lib.Math.max.name ∈ wsL_law ∧ Cond.initialized "java/lang/Math" ∈ wsL_law ∧ Cond.code Lib.Math.max.name Lib.Math.max.code 2 (some .int) ∈ wsL_law
section XM
variable {g : GG} {μ : MI} {R : Room} {F : List Frame → Array Value → State → State → Prop} {pc : Nat} {lv : List (Nat × Value)} {st rest : List Value} {M : Mem}
theorem x_max {a b : Int} {idx : Nat} (hd : decode μ.1 pc = .ok (.invokestatic idx, 3)) (hw : MXw μ.2.1 idx) (ha : rg a) (hb : rg b) (hf : 1 ≤ R.frames) (hlo : (st.map fun v => v.category).sum + 13 ≤ R.locals) (k : Ok g μ R F (pc + 3) lv (iv (if a < b then b else a) :: st) M) : Ok g μ R F pc lv (iv b :: iv a :: st) M := by
  intro p e s m args below meth c H locs ls hC hP hS hl
  obtain ⟨hx, hbb, hr, hml, hown, hts, hlk, hK, hZ, hex⟩ := id hC
  refine va_mmax hx hbb (hml.trans hl.1.symm) hown (hts _ hw.1) (hts _ hw.2.1) (hts _ hw.2.2.1) (hts _ hw.2.2.2) hf hlo (Nat.zero_le _) (Nat.zero_le _) hd ?_
  have e2 : (if iZ a < iZ b then iZ b else iZ a) = iZ (if a < b then b else a) := by
    by_cases h : a < b
    · rw [if_pos h, if_pos ((iZ_lt ha hb).mpr h)]
    · rw [if_neg h, if_neg (fun q => h ((iZ_lt ha hb).mp q))]
  rw [e2]
  exact k p e s m args below meth c H locs ls hC hP hS hl
end XM
/-! what runs make of teams: over any sequence of runs -/
noncomputable def gF (tm pb : Int → Int) (vs ac : Int → Prop) (t p n : Int) : Int := lst (fun r => tm r = t ∧ pb r = p ∧ vs r ∧ ac r) n
noncomputable def gC (tm pb : Int → Int) (vs : Int → Prop) (t p n : Int) : Int := cnt (fun r => tm r = t ∧ pb r = p ∧ vs r) n
noncomputable def gP (tm pb mn : Int → Int) (vs ac : Int → Prop) (t p n : Int) : Int := if gF tm pb vs ac t p n = -1 then 0 else mn (gF tm pb vs ac t p n) + 20 * gC tm pb vs t p (gF tm pb vs ac t p n)
noncomputable def gS (tm pb : Int → Int) (vs ac : Int → Prop) (t p n : Int) : Int := if gF tm pb vs ac t p n = -1 then 0 else 1
noncomputable def gM (tm pb mn : Int → Int) (vs ac : Int → Prop) (t p n : Int) : Int := if gF tm pb vs ac t p n = -1 then 0 else mn (gF tm pb vs ac t p n)
noncomputable def s5 (f : Int → Int) : Int := f 0 + f 1 + f 2 + f 3 + f 4
noncomputable def m5 (f : Int → Int) : Int := max (max (max (max (f 0) (f 1)) (f 2)) (f 3)) (f 4)
theorem s5_one {f h : Int → Int} {p d : Int} (p0 : 0 ≤ p) (p1 : p < 5) (e : ∀ q, 0 ≤ q → q < 5 → q ≠ p → h q = f q) (hp : h p = f p + d) : s5 h = s5 f + d := by
  unfold s5
  rcases (show p = 0 ∨ p = 1 ∨ p = 2 ∨ p = 3 ∨ p = 4 by omega) with rfl | rfl | rfl | rfl | rfl
  · rw [e 1, e 2, e 3, e 4, hp] <;> omega
  · rw [e 0, e 2, e 3, e 4, hp] <;> omega
  · rw [e 0, e 1, e 3, e 4, hp] <;> omega
  · rw [e 0, e 1, e 2, e 4, hp] <;> omega
  · rw [e 0, e 1, e 2, e 3, hp] <;> omega
theorem s5_same {f h : Int → Int} (e : ∀ q, 0 ≤ q → q < 5 → h q = f q) : s5 h = s5 f := by
  unfold s5
  rw [e 0, e 1, e 2, e 3, e 4] <;> omega
theorem m5_same {f h : Int → Int} (e : ∀ q, 0 ≤ q → q < 5 → h q = f q) : m5 h = m5 f := by
  unfold m5
  rw [e 0, e 1, e 2, e 3, e 4] <;> omega
theorem m5_one {f h : Int → Int} {p d : Int} (p0 : 0 ≤ p) (p1 : p < 5) (e : ∀ q, 0 ≤ q → q < 5 → q ≠ p → h q = f q) (hp : h p = d) (hf : f p ≤ d) : m5 h = max (m5 f) d := by
  unfold m5
  rcases (show p = 0 ∨ p = 1 ∨ p = 2 ∨ p = 3 ∨ p = 4 by omega) with rfl | rfl | rfl | rfl | rfl
  · rw [e 1, e 2, e 3, e 4, hp] <;> omega
  · rw [e 0, e 2, e 3, e 4, hp] <;> omega
  · rw [e 0, e 1, e 3, e 4, hp] <;> omega
  · rw [e 0, e 1, e 2, e 4, hp] <;> omega
  · rw [e 0, e 1, e 2, e 3, hp] <;> omega
section GS
variable {tm pb mn : Int → Int} {vs ac : Int → Prop} {t p n : Int}
theorem gF_rng (hn : 0 ≤ n) : gF tm pb vs ac t p n = -1 ∨ (0 ≤ gF tm pb vs ac t p n ∧ gF tm pb vs ac t p n < n) := lst_range _ hn
theorem gF_old (hn : 0 ≤ n) (h : ¬ (tm n = t ∧ pb n = p ∧ vs n ∧ ac n) ∨ gF tm pb vs ac t p n ≠ -1) : gF tm pb vs ac t p (n + 1) = gF tm pb vs ac t p n := by
  refine lst_eq (by omega) ?_
  rcases lst_is (fun r => tm r = t ∧ pb r = p ∧ vs r ∧ ac r) hn with ⟨a, b⟩ | ⟨a, b, c, d⟩
  · rcases h with h | h
    · exact Or.inl ⟨a, ext_lt b h⟩
    · exact absurd a h
  · exact Or.inr ⟨a, by show lst _ n < n + 1; omega, c, d⟩
theorem gF_new (hn : 0 ≤ n) (h : tm n = t ∧ pb n = p ∧ vs n ∧ ac n) (h2 : gF tm pb vs ac t p n = -1) : gF tm pb vs ac t p (n + 1) = n := by
  refine lst_eq (by omega) ?_
  rcases lst_is (fun r => tm r = t ∧ pb r = p ∧ vs r ∧ ac r) hn with ⟨a, b⟩ | ⟨a, b, c, d⟩
  · exact Or.inr ⟨hn, by omega, h, b⟩
  · change lst _ _ = -1 at h2; omega
end GS
/-- a board of the class (object o) behind the first n runs -/
def BI (M : Mem) (o : Int) (tm pb mn : Int → Int) (vs ac : Int → Prop) (n : Int) : Prop := ∀ t, 0 ≤ t → t < 8 →
  (∀ p, 0 ≤ p → p < 5 → M (o + 2) (5 * t + p) = (if gF tm pb vs ac t p n = -1 then -1 else mn (gF tm pb vs ac t p n)) ∧ M (o + 1) (5 * t + p) = gC tm pb vs t p (if gF tm pb vs ac t p n = -1 then n else gF tm pb vs ac t p n)) ∧
  M (o + 3) t = s5 (fun p => gS tm pb vs ac t p n) ∧ M (o + 4) t = s5 (fun p => gP tm pb mn vs ac t p n) ∧ M (o + 5) t = m5 (fun p => gM tm pb mn vs ac t p n)
section BS
variable {M : Mem} {o : Int} {tm pb mn : Int → Int} {vs ac : Int → Prop} {n : Int}
theorem gC_old {t p : Int} (hn : 0 ≤ n) (h : ¬ (tm n = t ∧ pb n = p ∧ vs n)) : gC tm pb vs t p (n + 1) = gC tm pb vs t p n := cnt_f hn h
theorem gC_new {t p : Int} (hn : 0 ≤ n) (h : tm n = t ∧ pb n = p ∧ vs n) : gC tm pb vs t p (n + 1) = gC tm pb vs t p n + 1 := cnt_t hn h
/-- all that speaks of a team and a problem stays -/
theorem g_same {t p : Int} (hn : 0 ≤ n) (h : ¬ (tm n = t ∧ pb n = p ∧ vs n) ∨ gF tm pb vs ac t p n ≠ -1) :
    gF tm pb vs ac t p (n + 1) = gF tm pb vs ac t p n ∧ gC tm pb vs t p (if gF tm pb vs ac t p (n + 1) = -1 then n + 1 else gF tm pb vs ac t p (n + 1)) = gC tm pb vs t p (if gF tm pb vs ac t p n = -1 then n else gF tm pb vs ac t p n) ∧
    gS tm pb vs ac t p (n + 1) = gS tm pb vs ac t p n ∧ gP tm pb mn vs ac t p (n + 1) = gP tm pb mn vs ac t p n ∧ gM tm pb mn vs ac t p (n + 1) = gM tm pb mn vs ac t p n := by
  have e : gF tm pb vs ac t p (n + 1) = gF tm pb vs ac t p n := gF_old hn (h.imp (fun h w => h ⟨w.1, w.2.1, w.2.2.1⟩) id)
  refine ⟨e, ?_, by unfold gS; rw [e], by unfold gP; rw [e], by unfold gM; rw [e]⟩
  rw [e]
  by_cases q : gF tm pb vs ac t p n = -1
  · rw [if_pos q, if_pos q]
    rcases h with h | h
    · exact gC_old hn h
    · exact absurd q h
  · rw [if_neg q, if_neg q]
theorem BI.skip (hB : BI M o tm pb mn vs ac n) (hn : 0 ≤ n) (hv : ¬ vs n) : BI M o tm pb mn vs ac (n + 1) := by
  intro t t0 t1
  obtain ⟨h1, h2, h3, h4⟩ := hB t t0 t1
  have hs : ∀ p : Int, 0 ≤ p → p < 5 → _ := fun p _ _ => g_same (tm := tm) (pb := pb) (vs := vs) (mn := mn) (ac := ac) (t := t) (p := p) (n := n) hn (Or.inl (fun w => hv w.2.2))
  refine ⟨fun p p0 p1 => ?_, ?_, ?_, ?_⟩
  · obtain ⟨e1, e2, -⟩ := hs p p0 p1
    rw [e2, e1]
    exact h1 p p0 p1
  · rw [h2]; exact (s5_same (fun q q0 q1 => (hs q q0 q1).2.2.1)).symm
  · rw [h3]; exact (s5_same (fun q q0 q1 => (hs q q0 q1).2.2.2.1)).symm
  · rw [h4]; exact (m5_same (fun q q0 q1 => (hs q q0 q1).2.2.2.2)).symm
/-- a run is counted -/
def CNp (M : Mem) (o t p m : Int) (ok : Prop) (M' : Mem) : Prop := (M (o + 2) (5 * t + p) ≠ -1 ∧ M' = M) ∨ (M (o + 2) (5 * t + p) = -1 ∧ ¬ ok ∧ M' = up M (o + 1) (5 * t + p) (M (o + 1) (5 * t + p) + 1)) ∨
  (M (o + 2) (5 * t + p) = -1 ∧ ok ∧ M' = up (up (up (up M (o + 2) (5 * t + p) m) (o + 3) t (M (o + 3) t + 1)) (o + 4) t (M (o + 4) t + (m + 20 * M (o + 1) (5 * t + p)))) (o + 5) t (if M (o + 5) t < m then m else M (o + 5) t))
theorem BI.step {M' : Mem} (hB : BI M o tm pb mn vs ac n) (hn : 0 ≤ n) (hv : vs n) (t0 : 0 ≤ tm n) (t1 : tm n < 8) (p0 : 0 ≤ pb n) (p1 : pb n < 5) (hm : ∀ r, 0 ≤ r → r ≤ n → 0 ≤ mn r) (hc : CNp M o (tm n) (pb n) (mn n) (ac n) M') : BI M' o tm pb mn vs ac (n + 1) := by
  obtain ⟨h1, h2, h3, h4⟩ := hB (tm n) t0 t1
  obtain ⟨a1, a2⟩ := h1 (pb n) p0 p1
  have hr := gF_rng (tm := tm) (pb := pb) (vs := vs) (ac := ac) (t := tm n) (p := pb n) hn
  have hiff : M (o + 2) (5 * tm n + pb n) = -1 ↔ gF tm pb vs ac (tm n) (pb n) n = -1 := by
    rw [a1]
    constructor
    · intro h
      rcases hr with q | q
      · exact q
      · rw [if_neg (by omega)] at h; have := hm _ q.1 (by omega); omega
    · intro h; rw [if_pos h]
  -- other teams and problems
  have ho : ∀ t p, ¬ (t = tm n ∧ p = pb n) → _ := fun t p h => g_same (tm := tm) (pb := pb) (vs := vs) (mn := mn) (ac := ac) (t := t) (p := p) (n := n) hn (Or.inl (fun w => h ⟨w.1.symm, w.2.1.symm⟩))
  rcases hc with ⟨c1, rfl⟩ | ⟨c1, c2, rfl⟩ | ⟨c1, c2, rfl⟩
  · have hs : ∀ t p, _ := fun t p => g_same (tm := tm) (pb := pb) (vs := vs) (mn := mn) (ac := ac) (t := t) (p := p) (n := n) hn (by
      by_cases e : t = tm n ∧ p = pb n
      · right; rw [e.1, e.2]; exact fun q => c1 (hiff.mpr q)
      · left; exact fun w => e ⟨w.1.symm, w.2.1.symm⟩)
    intro t t0 t1
    obtain ⟨h1, h2, h3, h4⟩ := hB t t0 t1
    refine ⟨fun p p0 p1 => ?_, ?_, ?_, ?_⟩
    · obtain ⟨e1, e2, -⟩ := hs t p
      rw [e2, e1]; exact h1 p p0 p1
    · rw [h2]; exact (s5_same (fun q q0 q1 => (hs t q).2.2.1)).symm
    · rw [h3]; exact (s5_same (fun q q0 q1 => (hs t q).2.2.2.1)).symm
    · rw [h4]; exact (m5_same (fun q q0 q1 => (hs t q).2.2.2.2)).symm
  · have gn : gF tm pb vs ac (tm n) (pb n) n = -1 := hiff.mp c1
    have g1 : gF tm pb vs ac (tm n) (pb n) (n + 1) = -1 := by rw [gF_old hn (Or.inl (fun w => c2 w.2.2.2))]; exact gn
    have hs : ∀ t p, gS tm pb vs ac t p (n + 1) = gS tm pb vs ac t p n ∧ gP tm pb mn vs ac t p (n + 1) = gP tm pb mn vs ac t p n ∧ gM tm pb mn vs ac t p (n + 1) = gM tm pb mn vs ac t p n := fun t p => by
      by_cases e : t = tm n ∧ p = pb n
      · rw [e.1, e.2]; unfold gS gP gM; rw [if_pos g1, if_pos gn, if_pos g1, if_pos gn, if_pos g1, if_pos gn]; exact ⟨rfl, rfl, rfl⟩
      · exact (ho t p e).2.2
    intro t t0' t1'
    obtain ⟨h1, h2, h3, h4⟩ := hB t t0' t1'
    refine ⟨fun p p0' p1' => ?_, ?_, ?_, ?_⟩
    · rw [up_o (by omega)]
      by_cases e : t = tm n ∧ p = pb n
      · rw [e.1, e.2, g1, if_pos rfl, if_pos rfl, up_s, a2, gn, if_pos rfl]
        exact ⟨by rw [a1, if_pos gn], (gC_new hn ⟨rfl, rfl, hv⟩).symm⟩
      · obtain ⟨e1, e2, -⟩ := ho t p e
        rw [e2, e1, up_k (by omega)]; exact h1 p p0' p1'
    · rw [up_o (by omega), h2]; exact (s5_same (fun q q0 q1 => (hs t q).1)).symm
    · rw [up_o (by omega), h3]; exact (s5_same (fun q q0 q1 => (hs t q).2.1)).symm
    · rw [up_o (by omega), h4]; exact (m5_same (fun q q0 q1 => (hs t q).2.2)).symm
  · have gn : gF tm pb vs ac (tm n) (pb n) n = -1 := hiff.mp c1
    have g1 : gF tm pb vs ac (tm n) (pb n) (n + 1) = n := gF_new hn ⟨rfl, rfl, hv, c2⟩ gn
    have hC : M (o + 1) (5 * tm n + pb n) = gC tm pb vs (tm n) (pb n) n := by rw [a2, if_pos gn]
    have hm0 := hm n hn (Int.le_refl _)
    intro t t0' t1'
    obtain ⟨h1, h2, h3, h4⟩ := hB t t0' t1'
    refine ⟨fun p p0' p1' => ?_, ?_, ?_, ?_⟩
    · simp (disch := omega) only [up_o]
      by_cases e : t = tm n ∧ p = pb n
      · rw [e.1, e.2, g1, if_neg (by omega), if_neg (by omega), up_s]
        exact ⟨rfl, hC⟩
      · obtain ⟨e1, e2, -⟩ := ho t p e
        rw [e2, e1, up_k (by omega)]; exact h1 p p0' p1'
    · rw [up_o (by omega), up_o (by omega)]
      by_cases e : t = tm n
      · subst e
        rw [up_s, h2]
        refine (s5_one p0 p1 (fun q _ _ hq => (ho _ q (fun w => hq w.2)).2.2.1) ?_).symm
        unfold gS; rw [g1, if_neg (by omega), if_pos gn]; omega
      · rw [up_k e, up_o (by omega), h2]
        exact (s5_same (fun q _ _ => (ho t q (fun w => e w.1)).2.2.1)).symm
    · rw [up_o (by omega)]
      by_cases e : t = tm n
      · subst e
        rw [up_s, h3]
        refine (s5_one p0 p1 (fun q _ _ hq => (ho _ q (fun w => hq w.2)).2.2.2.1) ?_).symm
        unfold gP; rw [g1, if_neg (by omega), if_pos gn, hC]; omega
      · rw [up_k e, up_o (by omega), up_o (by omega), h3]
        exact (s5_same (fun q _ _ => (ho t q (fun w => e w.1)).2.2.2.1)).symm
    · by_cases e : t = tm n
      · subst e
        rw [up_s, h4]
        have hM := m5_one (f := fun p => gM tm pb mn vs ac (tm n) p n) (h := fun p => gM tm pb mn vs ac (tm n) p (n + 1)) (d := mn n) p0 p1 (fun q _ _ hq => (ho _ q (fun w => hq w.2)).2.2.2.2) (by unfold gM; rw [g1, if_neg (by omega)]) (by unfold gM; rw [if_pos gn]; exact hm0)
        rw [hM]
        split <;> omega
      · rw [up_k e, up_o (by omega), up_o (by omega), up_o (by omega), h4]
        exact (m5_same (fun q _ _ => (ho t q (fun w => e w.1)).2.2.2.2)).symm
end BS
