section ZM
variable {g : GG} {μ : MI} {R : Room} {F : List Frame → Array Value → State → State → Prop} {pc : Nat} {lv : List (Nat × Value)} {st : List Value} {n : Nat} {V : VM} {kc ks : Nat}
theorem outer_mon (c N h0 : Nat) : ∀ i, (Jvm.Free.Multi.outerC c N h0 i).monitor = {} ∧ (Jvm.Free.Multi.outerC c N h0 i).hash = none
  | 0 => ⟨rfl, rfl⟩
  | i + 1 => outer_mon c N h0 i
theorem outer_arr (c N h0 : Nat) : Jvm.Free.Multi.outerC c N h0 N = arrV c N (fun k => .ref (h0 + 1 + k)) := by
  obtain ⟨o1, o2, o3⟩ := Jvm.Free.Multi.outerC_facts c N h0 N
  have os := fun (j : Nat) (hj : j < N) => Jvm.Free.Multi.outerC_slot c N h0 N j hj
  obtain ⟨om, oh⟩ := outer_mon c N h0 N
  generalize Jvm.Free.Multi.outerC c N h0 N = cell at *
  obtain ⟨cl, sl, mo, ha, vm⟩ := cell
  cases o1; cases o2; cases om; cases oh
  unfold arrV
  congr 1
  refine Array.ext_getElem? fun j => ?_
  rcases Nat.lt_or_ge j N with w | w
  · rw [os j w, if_pos w]
    simp [w]
  · rw [Array.getElem?_eq_none (by show sl.size ≤ j; change sl.size = N at o3; omega), Array.getElem?_eq_none (by simp; omega)]
theorem z_mnew {idx : Nat} (hd : decode μ.1 pc = .ok (.multianewarray idx 2, 4)) (hw1 : Cond.classLink μ.2.1 idx "[[I" ∈ wsL_law) (hw2 : Cond.arrayClass .int ∈ wsL_law) (hk0 : kdN n = (33, 4)) (hki : ∀ j, 1 ≤ j → j ≤ 4 → kdN (n + j) = (20, 40)) (hV0 : ∀ k, k < 4 → V n k = rf g (n + 1 + k)) (hVi : ∀ j k, 1 ≤ j → j ≤ 4 → k < 40 → V (n + j) k = iv 0)
    (hc : kc + 5 ≤ R.cells) (hs : ks + 164 ≤ R.slots) (k : Okz g μ R F (pc + 4) lv (rf g n :: st) (n + 5) V (kc + 5) (ks + 164)) : Okz g μ R F pc lv (iv 40 :: iv 4 :: st) n V kc ks := by
  intro p e s m args below meth c H locs ls hC hA hI hP hS hl
  obtain ⟨hx, hb, hr, hml, hown, hts, hlk, hK, hZ, hex⟩ := id hC
  intro T hT X
  have h4 : (iZ 4).toNatClampNeg = 4 := rfl
  have h40 : (iZ 40).toNatClampNeg = 40 := rfl
  obtain ⟨vm₁, cA, comp, hW, hfA, hfC, hO, hIn, X1, stp⟩ := X.multianewarray2F (own := μ.2.1) (index := idx) (ty := .int) (g := F0 m pc ls (iv 40 :: iv 4 :: st)) (n := iZ 4) (k := iZ 40) (rest := st) hx hown (hts _ hw1) hA.1.2.2.2.2.2 (hts _ hw2) rfl (by rw [hb]; exact hd) rfl (by decide) (by decide) (by decide) (by decide) (by decide) rfl rfl hc hs
  rw [h4, h40] at X1 stp
  obtain ⟨f1, f2, f3, f4⟩ := Jvm.Free.Multi.fill_facts (T.setVm vm₁) cA comp 4 40 (defaultValue .int) 4
  have fo := fun (a : Nat) (ha : a < T.heap.size) => Jvm.Free.Multi.fill_old (T.setVm vm₁) cA comp 4 40 (defaultValue .int) (a := a) ha 4
  have fi := fun (j : Nat) (hj : j < 4) => Jvm.Free.Multi.fill_inner (T.setVm vm₁) cA comp 4 40 (defaultValue .int) 4 j hj
  cases hA.1.2.1.2.2.2.symm.trans hfA
  cases hA.1.1.1.symm.trans hfC
  have e0 : (T.setVm vm₁).heap = H := hT
  rw [e0] at f1 f2 fi
  rw [hT] at fo
  rw [hT] at stp
  have hz := hP.1
  rw [hz] at f1 f2 fi fo stp
  generalize Jvm.Free.Multi.fill (T.setVm vm₁) (g.2.2.2 33) (g.2.2.2 20) 4 40 (defaultValue .int) 4 = T' at *
  have hP1 : HV g (n + 5) V T'.heap := by
    refine ⟨by rw [f1]; omega, fun o ho => ?_⟩
    rcases Nat.lt_or_ge o n with w | w
    · exact (hP.2 o w).old ((fo (g.2.1 + (o : Int).toNat) (by omega)).trans (by rw [e0]))
    · rcases Nat.lt_or_ge n o with w2 | w2
      · have hk := hki (o - n) (by omega) (by omega)
        rw [show n + (o - n) = o by omega] at hk
        rw [hk]
        unfold OB
        rw [if_neg (by decide)]
        have := fi (o - n - 1) (by omega)
        rw [show g.2.1 + n + 1 + (o - n - 1) = g.2.1 + (o : Int).toNat by omega] at this
        rw [this]
        refine congrArg some ?_
        show ({ cls := g.2.2.2 20, slots := Array.replicate 40 (defaultValue .int), vm := .none } : Cell) = _
        rw [arrV_new]
        refine arrV_cong (fun k hk2 => ?_)
        have := hVi (o - n) k (by omega) (by omega) hk2
        rw [show n + (o - n) = o by omega] at this
        rw [this]
        rfl
      · have e : o = n := by omega
        subst e
        rw [hk0]
        unfold OB
        rw [if_neg (by decide)]
        refine f2.trans (congrArg some ?_)
        rw [outer_arr]
        refine arrV_cong (fun k hk2 => ?_)
        rw [hV0 k hk2]
        show Value.ref (g.2.1 + o + 1 + k) = Value.ref (g.2.1 + (o + 1 + k))
        rw [show g.2.1 + o + 1 + k = g.2.1 + (o + 1 + k) by omega]
  have hS1 : va_S (gA g) s.heap T'.heap locs := ⟨Nat.le_trans hS.1 (by rw [f1]; omega), fun q h1 h2 => ((fo q (by have := hS.1; omega)).trans (by rw [e0])).trans (hS.2.1 q h1 h2), hS.2.2⟩
  obtain ⟨t2, a1, b1⟩ := k p e s m args below meth c T'.heap locs ls hC hA hI hP1 hS1 hl T' rfl X1
  exact ⟨t2, stp t2 a1, b1⟩
end ZM
