/-- an integer as the int that stands for it -/
def wr (z : Int) : Int := (iZ z).toInt
theorem rg_wr (z : Int) : rg (wr z) := rg_of _
theorem iZ_wr (z : Int) : iZ (wr z) = iZ z := iZ_of _
theorem wr_id {z : Int} (h : rg z) : wr z = z := iZ_ti h
/-- the machine's division -/
def dv (a b : Int) : Int := (iZ a / iZ b).toInt
theorem rg_dv (a b : Int) : rg (dv a b) := rg_of _
theorem iZ_dv (a b : Int) : iZ (dv a b) = iZ a / iZ b := iZ_of _
theorem iZ_ne0 {z : Int} (h : rg z) (h0 : z ≠ 0) : ¬ iZ z = 0 := fun q => h0 ((iZ_eq h rg_0).mp (q.trans iZ_0.symm))
theorem iZ_div {a b : Int} (ha : 0 ≤ a) (ha2 : a < 2147483648) (hb : 0 < b) (hb2 : b < 2147483648) : iZ a / iZ b = iZ (a / b) := by
  have e1 : iZ (a.tdiv b) = iZ a / iZ b := Int32.ofInt_tdiv (by show (-2147483648 : Int) ≤ a; omega) (by show a ≤ 2147483647; omega) (by show (-2147483648 : Int) ≤ b; omega) (by show b ≤ 2147483647; omega)
  rw [← e1, Int.tdiv_eq_ediv_of_nonneg ha]
theorem iZ_or {a b : Int} (ha : a = 0 ∨ a = 1) (hb : b = 0 ∨ b = 1) : iZ a ||| iZ b = iZ (if a = 1 ∨ b = 1 then 1 else 0) := by
  rcases ha with rfl | rfl <;> rcases hb with rfl | rfl <;> rfl
theorem iZ_l {a : Int} (h : rg a) : (iZ a).toInt64 = Int64.ofInt a := by
  rw [← iZ_ti h, iZ_of, Int64.ofInt_int32ToInt]
theorem iZ_char {z : Int} (h0 : 0 ≤ z) (h1 : z < 65536) : narrow .char (iv z) = iv z := by
  have h := (pk_charN (q := z.toNat) (by omega)).1
  have e : iZ z = nI z.toNat := by
    unfold iZ nI
    conv => lhs; rw [← Int.toNat_of_nonneg h0]
    rfl
  rw [show iv z = .int (nI z.toNat) by rw [← e]]
  exact h
theorem iZ_charF {z : Int} (h0 : 0 ≤ z) (h1 : z < 65536) : fits .char (iv z) = true := by
  have h := (pk_charN (q := z.toNat) (by omega)).2
  have e : iZ z = nI z.toNat := by
    unfold iZ nI
    conv => lhs; rw [← Int.toNat_of_nonneg h0]
    rfl
  rw [show iv z = .int (nI z.toNat) by rw [← e]]
  exact h
theorem iZ_bool {z : Int} (h : z = 0 ∨ z = 1) : narrow .boolean (iv z) = iv z := by rcases h with rfl | rfl <;> rfl
theorem iZ_boolF {z : Int} (h : z = 0 ∨ z = 1) : fits .boolean (iv z) = true := by rcases h with rfl | rfl <;> rfl
/-- a field's link: the class's own pool entry, the class in kcl, its place -/
def FL (own : String) (idx t n k : Nat) : Prop := ∃ (C : String) (T : u_T), kcl[t]? = some (C, T, n) ∧ k < n ∧ Cond.fieldLink own idx (T k).1 (T k).2.1 (T k).2.2.1 ∈ wsL_law ∧ ∀ w ∈ u_ws C T n, w ∈ wsL_law
def FW (own : String) (idx t n k : Nat) (ty : FieldType) : Prop := ∃ (C : String) (T : u_T) (ty0 : Nat → FieldType), kcl[t]? = some (C, T, n) ∧ k < n ∧ Cond.fieldLink own idx (T k).1 (T k).2.1 (T k).2.2.1 ∈ wsL_law ∧ (∀ w ∈ u_ws C T n, w ∈ wsL_law) ∧
  (T k).2.2.2 = false ∧ parseFieldDescriptor (T k).2.2.1 = some ty ∧ (∀ k, k < n → parseFieldDescriptor (T k).2.2.1 = some (ty0 k)) ∧ (∀ a, a < n → ∀ b, b < n → a ≠ b → (T a).2.1 ≠ (T b).2.1)
theorem FL.t10 {own : String} {idx t n k : Nat} (h : FL own idx t n k) : t < 10 := by
  obtain ⟨C, T, hc, -⟩ := h
  exact (List.getElem?_eq_some_iff.mp hc).1
theorem FW.fl {own : String} {idx t n k : Nat} {ty : FieldType} (h : FW own idx t n k ty) : FL own idx t n k := by
  obtain ⟨C, T, ty0, hc, hk, hl, hi, -⟩ := h
  exact ⟨C, T, hc, hk, hl, hi⟩
theorem kd497 : ∀ n : Nat, n < 499 → 497 ≤ n → (kdN n).1 = 23 ∨ (kdN n).1 = 24 := by
  intro n h1 h2
  rcases (show n = 497 ∨ n = 498 by omega) with rfl | rfl <;> decide +kernel
theorem x_lt497a {t n : Nat} {o : Int} (hk : isK t n o) (h : t ≠ 23 ∧ t ≠ 24) : o < 497 := by
  obtain ⟨h0, h1, h2⟩ := hk
  by_cases h3 : o < 497
  · exact h3
  · have h4 := kd497 o.toNat (by omega) (by omega)
    rw [show kdN o.toNat = (t, n) from h2] at h4
    omega
theorem x_lt497 {own : String} {idx t n k : Nat} {o : Int} (hk : isK t n o) (hf : FL own idx t n k) : o < 497 := x_lt497a hk (by have := hf.t10; omega)
theorem x_obj {g : GG} {M : Mem} {H : Heap} {t n : Nat} {o : Int} (hk : isK t n o) (ht : t < 10) (hP : HP g M H) : t_OB (g.2.1 + o.toNat) (g.2.2.1.1 t) n (g.2.2.1.2 t) H (fun k => vl g o t k (M o k)) := by
  have h := hP.2 o hk.1 hk.2.1
  rw [hk.2.2] at h
  simpa [OB, ht] using h
theorem x_arr {g : GG} {M : Mem} {H : Heap} {t n : Nat} {o : Int} (hk : isK t n o) (ht : ¬ t < 10) (hP : HP g M H) : H[g.2.1 + o.toNat]? = some (arrV (g.2.2.2 t) n (fun k => vl g o t k (M o k))) := by
  have h := hP.2 o hk.1 hk.2.1
  rw [hk.2.2] at h
  simpa [OB, ht] using h
theorem HP.other {g : GG} {M : Mem} {H H1 : Heap} {o k z : Int} (hP : HP g M H) (ho : 0 ≤ o) (hz : o < 497 → rg z) (h3 : ∀ q : Nat, q ≠ g.2.1 + o.toNat → H1[q]? = H[q]?) (hob : OB g o (kd o) (fun j => vl g o (kd o).1 j (up M o k z o j)) H1) : HP g (up M o k z) H1 := by
  refine ⟨fun o' k' h => ?_, fun o' h0 h1 => ?_⟩
  · by_cases e : o' = o ∧ k' = k
    · obtain ⟨rfl, rfl⟩ := e
      rw [up_s]
      exact hz h
    · rw [up_n e]
      exact hP.1 o' k' h
  · by_cases e : o' = o
    · subst e
      exact hob
    · have hb := hP.2 o' h0 h1
      have e2 : (fun j : Nat => vl g o' (kd o').1 j (up M o k z o' j)) = (fun j : Nat => vl g o' (kd o').1 j (M o' j)) := by
        funext j
        rw [up_o e]
      rw [e2]
      have hq : H1[g.2.1 + o'.toNat]? = H[g.2.1 + o'.toNat]? := h3 _ (by omega)
      unfold OB at hb ⊢
      split at hb
      · rename_i hlt
        rw [if_pos hlt]
        exact hb.kept hq
      · rename_i hlt
        rw [if_neg hlt, hq]
        exact hb
theorem x_arrSet {g : GG} {M : Mem} {H H1 : Heap} {t n : Nat} {o i z : Int} (hk : isK t n o) (ht : ¬ t < 10) (hs : ∀ k : Nat, (sk t k).1 = 0) (hP : HP g M H) (hz : rg z) (h0 : 0 ≤ i) (h1 : i < n)
    (e1 : H1[g.2.1 + o.toNat]? = some ((arrV (g.2.2.2 t) n (fun k => vl g o t k (M o k))).setSlot i.toNat (iv z))) (e3 : ∀ q : Nat, q ≠ g.2.1 + o.toNat → H1[q]? = H[q]?) : HP g (up M o i z) H1 := by
  refine hP.other hk.1 (fun _ => hz) e3 ?_
  rw [hk.2.2]
  unfold OB
  rw [if_neg ht, e1, arrV_store]
  congr 2
  funext j
  by_cases hj : j = i.toNat
  · subst hj
    have hi : ((i.toNat : Nat) : Int) = i := Int.toNat_of_nonneg h0
    simp [updV, hi, up_s, vl, hs]
  · have hne : ((j : Nat) : Int) ≠ i := by omega
    simp [updV, hj, up_k hne]
section XH
variable {g : GG} {μ : MI} {R : Room} {pc : Nat} {st : List Value} {M : Mem} {p : Program} {e : Env} {s : State} {m : MethodId} {args : Array Value} {below : List Frame} {meth : Method} {c : Code} {H : Heap} {locs : List Loc} {ls : Array Slot} {Q : State → Prop}
theorem x_getW {t n k idx : Nat} {o : Int} (hC : Cx g μ p s m args meth c) (hd : decode μ.1 pc = .ok (.getfield idx, 3)) (hf : FL μ.2.1 idx t n k) (hk : isK t n o) (hP : HP g M H)
    (kk : W p g.1 e R s m args below meth c H locs 0 0 Q (F0 m (pc + 3) ls (vl g o t k (M o k) :: st))) : W p g.1 e R s m args below meth c H locs 0 0 Q (F0 m pc ls (rv g o :: st)) := by
  have ht := hf.t10
  obtain ⟨hx, hb, hr, hml, hown, hts, hlk, hK, hZ, hex⟩ := hC
  obtain ⟨C, T, hc, hkn, hlink, hin⟩ := hf
  obtain ⟨cell, q1, q2, q3, q4⟩ := x_obj hk ht hP
  obtain ⟨hS, hfc, kC, hkC, hkind⟩ := hK.1.1 t _ hc
  obtain ⟨cf, kf, fi, f, hi, hsl⟩ := hS k hkn
  refine W.getf hx hb hown (hts _ hlink) hi (u_facts hfc hkC (u_lays hts hin hkn) hi).1 q1 (by rw [q3]; exact fun h => by cases h) (v := vl g o t k (M o k)) ?_ rfl rfl hd kk
  rw [hsl]
  exact q4 k hkn
theorem x_putW {t n k idx : Nat} {o z : Int} {ty : FieldType} (hC : Cx g μ p s m args meth c) (hd : decode μ.1 pc = .ok (.putfield idx, 3)) (hf : FW μ.2.1 idx t n k ty) (hk : isK t n o) (hs : (sk t k).1 = 0) (hz : rg z) (hn : narrow ty (iv z) = iv z) (hfit : fits ty (iv z) = true) (hP : HP g M H) (hS0 : va_S (gA g) s.heap H locs)
    (kk : ∀ (H1 : Heap) (locs1 : List Loc), HP g (up M o k z) H1 → va_S (gA g) s.heap H1 locs1 → W p g.1 e R s m args below meth c H1 locs1 0 0 Q (F0 m (pc + 3) ls st)) : W p g.1 e R s m args below meth c H locs 0 0 Q (F0 m pc ls (iv z :: rv g o :: st)) := by
  have ht := hf.fl.t10
  obtain ⟨hx, hb, hr, hml, hown, hts, hlk, hK, hZ, hex⟩ := hC
  obtain ⟨C, T, ty0, hc, hkn, hlink, hin, hfin, hpd, hty, hnm⟩ := hf
  have hap := va_apart (own := μ.2.1) hts hin ty0 hty hnm hK.1 hc
  obtain ⟨cell, q1, q2, q3, q4⟩ := x_obj hk ht hP
  obtain ⟨hS, hfc, kC, hkC, hkind⟩ := hK.1.1 t _ hc
  obtain ⟨cf, kf, fi, f, hi, hsl⟩ := hS k hkn
  have hlay := hts _ (hin _ (u_in_lay hkn))
  unfold u_lay at hlay
  rw [if_neg (by rw [hfin]; decide)] at hlay
  have hst := (u_facts hfc hkC (u_lays hts hin hkn) hi).1
  have h6 := u_store hfc hkC hkind hlay hi hpd hn hfit
  refine W.putK hx hb (f := f) ⟨hown, hts _ hlink, ⟨_, _, _, hi⟩, hst⟩ (by rw [q2]; exact h6) q1 q3 (by rw [hsl]; exact k2_hasslot (q4 k hkn)) rfl rfl hd fun H' e1 e2 e3 => ?_
  rw [hsl] at e1 ⊢
  refine kk H' _ (hP.other hk.1 (fun _ => hz) e3 ?_) (hS0.put e2 e3 (Nat.le_add_right _ _))
  rw [hk.2.2]
  unfold OB
  rw [if_pos ht]
  refine t_OB.to (V := updV (fun k => vl g o t k (M o k)) k (iv z)) ⟨_, e1, q2, q3, t_set q4 hap hkn (iv z)⟩ (fun j _ => ?_)
  by_cases hj : j = k
  · subst hj
    simp [updV, up_s, vl, hs]
  · have hne : ((j : Nat) : Int) ≠ (k : Int) := by omega
    simp [updV, hj, up_k hne]
end XH
