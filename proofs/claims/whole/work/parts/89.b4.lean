section ZX
variable {g : GG} {μ : MI} {R : Room} {F : List Frame → Array Value → State → State → Prop} {pc : Nat} {lv : List (Nat × Value)} {st : List Value} {n : Nat} {V : VM} {kc ks : Nat}
theorem DF_no {a i n : Nat} {W : VM} (h : ∀ k, k < (kdN a).2 → i ≤ k → W a k = dvl (kdN a).1 k) : ∀ o, o < n → ∀ k, k < (kdN o).2 → DF a i W o k = W o k := by
  intro o _ k hk
  unfold DF
  split
  · rename_i e
    obtain ⟨rfl, e2⟩ := e
    exact (h k hk e2).symm
  · rfl
theorem DF_comm {a b i j : Nat} (h : a ≠ b) : DF a i (DF b j V) = DF b j (DF a i V) := by
  funext o k
  unfold DF
  by_cases h1 : o = a ∧ i ≤ k
  · rw [if_pos h1, if_neg (by omega), if_pos h1]
  · rw [if_neg h1, if_neg h1]
theorem z_no {a i : Nat} {W : VM} (h : ∀ k, k < (kdN a).2 → i ≤ k → W a k = dvl (kdN a).1 k) (k : Okz g μ R F pc lv st n W kc ks) : Okz g μ R F pc lv st n (DF a i W) kc ks := z_cg (DF_no h) k
theorem z_full {a t N : Nat} {W : VM} (hk : kdN a = (t, N)) (k : Okz g μ R F pc lv st n W kc ks) : Okz g μ R F pc lv st n (DF a N W) kc ks := z_cg (DF_no (fun k h1 h2 => by rw [hk] at h1; change k < N at h1; omega)) k
theorem z_sw {a b i j : Nat} {W : VM} (h : a ≠ b) (k : Okz g μ R F pc lv st n (DF b j (DF a i W)) kc ks) : Okz g μ R F pc lv st n (DF a i (DF b j W)) kc ks := by rw [DF_comm h]; exact k
theorem z_skip {a i j : Nat} {W : VM} (hij : i ≤ j) (h : ∀ k, i ≤ k → k < j → W a k = dvl (kdN a).1 k) (k : Okz g μ R F pc lv st n (DF a j W) kc ks) : Okz g μ R F pc lv st n (DF a i W) kc ks := by
  refine z_cg (fun o _ q _ => ?_) k
  unfold DF
  by_cases h1 : o = a ∧ i ≤ q
  · rw [if_pos h1]
    obtain ⟨rfl, h2⟩ := h1
    by_cases h3 : j ≤ q
    · rw [if_pos ⟨rfl, h3⟩]
    · rw [if_neg (fun w => h3 w.2), h q h2 (by omega)]
  · rw [if_neg h1, if_neg (fun w => h1 ⟨w.1, by omega⟩)]
theorem z_k {n' kc' ks' : Nat} (h1 : n = n') (h2 : kc = kc') (h3 : ks = ks') (k : Okz g μ R F pc lv st n' V kc' ks') : Okz g μ R F pc lv st n V kc ks := by subst h1; subst h2; subst h3; exact k
theorem z_iinc1 {i z : Nat} {lv' : List (Nat × Value)} (j : Nat) (hd : decode μ.1 pc = .ok (.iinc i 1, 3)) (hj : lv[j]? = some (i, iv (z : Int))) (hn : i < μ.2.2.1) (hv : (i, iv ((z + 1 : Nat) : Int)) :: lv.filter (fun q => !(q.1 == i) && !(q.1 + 1 == i && q.2.category == 2)) = lv') (k : Okz g μ R F (pc + 3) lv' st n V kc ks) : Okz g μ R F pc lv st n V kc ks :=
  z_iinc j hd hj hn (by rw [show (z : Int) + 1 = ((z + 1 : Nat) : Int) by omega]; exact hv) k
end ZX
/-! what the objects of a class hold in the end -/
def M0k (t k : Nat) : Int := if t = 4 ∧ k = 2 then 1 else if t = 6 ∧ k = 8 then 97 else if t = 6 ∧ k = 9 then -1 else if t = 2 ∧ k = 6 then 45 else 0
def PLc (a : Nat) : Prop := a ≠ 18 ∧ ¬ (148 ≤ a ∧ a < 468 ∧ a % 8 = 3) ∧ a ≠ 0 ∧ a ≠ 468
theorem VI_f {g : GG} {a t N : Nat} (hk : kdN a = (t, N)) (h : PLc a) (k : Nat) : VI g a k = vl g a t k (M0k t k) := by
  obtain ⟨h1, h2, h3, h4⟩ := h
  unfold VI
  rw [hk]
  refine congrArg _ ?_
  unfold M0i M0k
  rw [if_neg (by omega), if_neg (by omega)]
  have e : (kd (a : Int)).1 = t := by
    show (kdN a).1 = t
    rw [hk]
  rw [e]
  have e2 : ∀ q : Nat, ((k : Int) = q) = (k = q) := fun q => by apply propext; omega
  rw [if_neg (c := (a : Int) = 0 ∧ (k : Int) = 13) (by omega), if_neg (c := (a : Int) = 468 ∧ (k : Int) = 36) (by omega)]
  have e3 : ((k : Int) = 2) = (k = 2) := e2 2
  have e4 : ((k : Int) = 8) = (k = 8) := e2 8
  have e5 : ((k : Int) = 9) = (k = 9) := e2 9
  have e6 : ((k : Int) = 6) = (k = 6) := e2 6
  simp only [e3, e4, e5, e6]
theorem vl_ref {g : GG} {a t k d t' n' : Nat} {z : Int} (hs : sk t k = (1, (d : Int), t', n')) : vl g a t k z = rf g (a + d) := by
  unfold vl
  rw [hs, if_neg (fun w : (1 : Nat) = 0 => by omega), if_pos rfl]
  show Value.ref (g.2.1 + ((a : Int) + (d : Int)).toNat) = _
  rw [show ((a : Int) + (d : Int)).toNat = a + d by omega]
def Z5 (g : GG) (o : Nat) : Prop := (kdN o = (5, 4)) ∧ (kdN (o + 1) = (21, 20)) ∧ (kdN (o + 2) = (20, 20)) ∧ (kdN (o + 3) = (20, 20)) ∧ (VI g o 0 = rf g (o + 1)) ∧ (VI g o 1 = rf g (o + 2)) ∧ (VI g o 2 = rf g (o + 3)) ∧ (VI g o 3 = iv 0) ∧ (∀ k, VI g (o + 1) k = iv 0) ∧ (∀ k, VI g (o + 2) k = iv 0) ∧ (∀ k, VI g (o + 3) k = iv 0)
theorem Z5.k0 {g : GG} {o : Nat} (h : Z5 g o) : kdN o = (5, 4) := h.1
theorem Z5.k1 {g : GG} {o : Nat} (h : Z5 g o) : kdN (o + 1) = (21, 20) := h.2.1
theorem Z5.k2 {g : GG} {o : Nat} (h : Z5 g o) : kdN (o + 2) = (20, 20) := h.2.2.1
theorem Z5.k3 {g : GG} {o : Nat} (h : Z5 g o) : kdN (o + 3) = (20, 20) := h.2.2.2.1
theorem Z5.f0 {g : GG} {o : Nat} (h : Z5 g o) : VI g o 0 = rf g (o + 1) := h.2.2.2.2.1
theorem Z5.f1 {g : GG} {o : Nat} (h : Z5 g o) : VI g o 1 = rf g (o + 2) := h.2.2.2.2.2.1
theorem Z5.f2 {g : GG} {o : Nat} (h : Z5 g o) : VI g o 2 = rf g (o + 3) := h.2.2.2.2.2.2.1
theorem Z5.f3 {g : GG} {o : Nat} (h : Z5 g o) : VI g o 3 = iv 0 := h.2.2.2.2.2.2.2.1
theorem Z5.w1 {g : GG} {o : Nat} (h : Z5 g o) : ∀ k, VI g (o + 1) k = iv 0 := h.2.2.2.2.2.2.2.2.1
theorem Z5.w2 {g : GG} {o : Nat} (h : Z5 g o) : ∀ k, VI g (o + 2) k = iv 0 := h.2.2.2.2.2.2.2.2.2.1
theorem Z5.w3 {g : GG} {o : Nat} (h : Z5 g o) : ∀ k, VI g (o + 3) k = iv 0 := h.2.2.2.2.2.2.2.2.2.2
theorem Z5.of {g : GG} {o : Nat} (k0 : kdN o = (5, 4)) (k1 : kdN (o + 1) = (21, 20)) (k2 : kdN (o + 2) = (20, 20)) (k3 : kdN (o + 3) = (20, 20)) (h : ∀ j, j ≤ 3 → PLc (o + j)) : Z5 g o :=
  ⟨k0, k1, k2, k3, (VI_f k0 (h 0 (by omega)) 0).trans (vl_ref (d := 1) rfl), (VI_f k0 (h 0 (by omega)) 1).trans (vl_ref (d := 2) rfl), (VI_f k0 (h 0 (by omega)) 2).trans (vl_ref (d := 3) rfl), VI_f k0 (h 0 (by omega)) 3,
    fun k => VI_f k1 (h 1 (by omega)) k, fun k => VI_f k2 (h 2 (by omega)) k, fun k => VI_f k3 (h 3 (by omega)) k⟩
def Z3 (g : GG) (o : Nat) : Prop := (kdN o = (3, 4)) ∧ (kdN (o + 1) = (20, 4)) ∧ (kdN (o + 2) = (20, 6)) ∧ (VI g o 0 = rf g (o + 1)) ∧ (VI g o 1 = rf g (o + 2)) ∧ (VI g o 2 = iv 0) ∧ (VI g o 3 = iv 0) ∧ (∀ k, VI g (o + 1) k = iv 0) ∧ (∀ k, VI g (o + 2) k = iv 0)
theorem Z3.k0 {g : GG} {o : Nat} (h : Z3 g o) : kdN o = (3, 4) := h.1
theorem Z3.k1 {g : GG} {o : Nat} (h : Z3 g o) : kdN (o + 1) = (20, 4) := h.2.1
theorem Z3.k2 {g : GG} {o : Nat} (h : Z3 g o) : kdN (o + 2) = (20, 6) := h.2.2.1
theorem Z3.f0 {g : GG} {o : Nat} (h : Z3 g o) : VI g o 0 = rf g (o + 1) := h.2.2.2.1
theorem Z3.f1 {g : GG} {o : Nat} (h : Z3 g o) : VI g o 1 = rf g (o + 2) := h.2.2.2.2.1
theorem Z3.f2 {g : GG} {o : Nat} (h : Z3 g o) : VI g o 2 = iv 0 := h.2.2.2.2.2.1
theorem Z3.f3 {g : GG} {o : Nat} (h : Z3 g o) : VI g o 3 = iv 0 := h.2.2.2.2.2.2.1
theorem Z3.w1 {g : GG} {o : Nat} (h : Z3 g o) : ∀ k, VI g (o + 1) k = iv 0 := h.2.2.2.2.2.2.2.1
theorem Z3.w2 {g : GG} {o : Nat} (h : Z3 g o) : ∀ k, VI g (o + 2) k = iv 0 := h.2.2.2.2.2.2.2.2
theorem Z3.of {g : GG} {o : Nat} (k0 : kdN o = (3, 4)) (k1 : kdN (o + 1) = (20, 4)) (k2 : kdN (o + 2) = (20, 6)) (h : ∀ j, j ≤ 2 → PLc (o + j)) : Z3 g o :=
  ⟨k0, k1, k2, (VI_f k0 (h 0 (by omega)) 0).trans (vl_ref (d := 1) rfl), (VI_f k0 (h 0 (by omega)) 1).trans (vl_ref (d := 2) rfl), VI_f k0 (h 0 (by omega)) 2, VI_f k0 (h 0 (by omega)) 3, fun k => VI_f k1 (h 1 (by omega)) k, fun k => VI_f k2 (h 2 (by omega)) k⟩
def Z2 (g : GG) (o : Nat) : Prop := (kdN o = (2, 7)) ∧ (kdN (o + 1) = (20, 4)) ∧ (kdN (o + 2) = (20, 6)) ∧ (VI g o 0 = rf g (o + 1)) ∧ (VI g o 1 = rf g (o + 2)) ∧ (VI g o 2 = iv 0) ∧ (VI g o 3 = iv 0) ∧ (VI g o 4 = iv 0) ∧ (VI g o 5 = iv 0) ∧ (VI g o 6 = iv 45) ∧ (∀ k, VI g (o + 1) k = iv 0) ∧ (∀ k, VI g (o + 2) k = iv 0)
theorem Z2.k0 {g : GG} {o : Nat} (h : Z2 g o) : kdN o = (2, 7) := h.1
theorem Z2.k1 {g : GG} {o : Nat} (h : Z2 g o) : kdN (o + 1) = (20, 4) := h.2.1
theorem Z2.k2 {g : GG} {o : Nat} (h : Z2 g o) : kdN (o + 2) = (20, 6) := h.2.2.1
theorem Z2.f0 {g : GG} {o : Nat} (h : Z2 g o) : VI g o 0 = rf g (o + 1) := h.2.2.2.1
theorem Z2.f1 {g : GG} {o : Nat} (h : Z2 g o) : VI g o 1 = rf g (o + 2) := h.2.2.2.2.1
theorem Z2.f2 {g : GG} {o : Nat} (h : Z2 g o) : VI g o 2 = iv 0 := h.2.2.2.2.2.1
theorem Z2.f3 {g : GG} {o : Nat} (h : Z2 g o) : VI g o 3 = iv 0 := h.2.2.2.2.2.2.1
theorem Z2.f4 {g : GG} {o : Nat} (h : Z2 g o) : VI g o 4 = iv 0 := h.2.2.2.2.2.2.2.1
theorem Z2.f5 {g : GG} {o : Nat} (h : Z2 g o) : VI g o 5 = iv 0 := h.2.2.2.2.2.2.2.2.1
theorem Z2.f6 {g : GG} {o : Nat} (h : Z2 g o) : VI g o 6 = iv 45 := h.2.2.2.2.2.2.2.2.2.1
theorem Z2.w1 {g : GG} {o : Nat} (h : Z2 g o) : ∀ k, VI g (o + 1) k = iv 0 := h.2.2.2.2.2.2.2.2.2.2.1
theorem Z2.w2 {g : GG} {o : Nat} (h : Z2 g o) : ∀ k, VI g (o + 2) k = iv 0 := h.2.2.2.2.2.2.2.2.2.2.2
theorem z2_10 (g : GG) : Z2 g 10 := by
  have k0 : kdN 10 = (2, 7) := rfl
  have h : PLc 10 := ⟨by decide, by decide, by decide, by decide⟩
  have k1 : kdN 11 = (20, 4) := rfl
  have h1 : PLc 11 := ⟨by decide, by decide, by decide, by decide⟩
  have k2 : kdN 12 = (20, 6) := rfl
  have h2 : PLc 12 := ⟨by decide, by decide, by decide, by decide⟩
  exact ⟨k0, k1, k2, (VI_f k0 h 0).trans (vl_ref (d := 1) rfl), (VI_f k0 h 1).trans (vl_ref (d := 2) rfl), VI_f k0 h 2, VI_f k0 h 3, VI_f k0 h 4, VI_f k0 h 5, VI_f k0 h 6, fun k => VI_f k1 h1 k, fun k => VI_f k2 h2 k⟩
def Z7 (g : GG) (o : Nat) : Prop := (kdN o = (7, 4)) ∧ (kdN (o + 1) = (20, 1440)) ∧ (kdN (o + 2) = (20, 240)) ∧ (kdN (o + 3) = (20, 240)) ∧ (VI g o 0 = rf g (o + 1)) ∧ (VI g o 1 = rf g (o + 2)) ∧ (VI g o 2 = rf g (o + 3)) ∧ (VI g o 3 = iv 0) ∧ (∀ k, VI g (o + 1) k = iv 0) ∧ (∀ k, VI g (o + 2) k = iv 0) ∧ (∀ k, VI g (o + 3) k = iv 0)
theorem Z7.k0 {g : GG} {o : Nat} (h : Z7 g o) : kdN o = (7, 4) := h.1
theorem Z7.k1 {g : GG} {o : Nat} (h : Z7 g o) : kdN (o + 1) = (20, 1440) := h.2.1
theorem Z7.k2 {g : GG} {o : Nat} (h : Z7 g o) : kdN (o + 2) = (20, 240) := h.2.2.1
theorem Z7.k3 {g : GG} {o : Nat} (h : Z7 g o) : kdN (o + 3) = (20, 240) := h.2.2.2.1
theorem Z7.f0 {g : GG} {o : Nat} (h : Z7 g o) : VI g o 0 = rf g (o + 1) := h.2.2.2.2.1
theorem Z7.f1 {g : GG} {o : Nat} (h : Z7 g o) : VI g o 1 = rf g (o + 2) := h.2.2.2.2.2.1
theorem Z7.f2 {g : GG} {o : Nat} (h : Z7 g o) : VI g o 2 = rf g (o + 3) := h.2.2.2.2.2.2.1
theorem Z7.f3 {g : GG} {o : Nat} (h : Z7 g o) : VI g o 3 = iv 0 := h.2.2.2.2.2.2.2.1
theorem Z7.w1 {g : GG} {o : Nat} (h : Z7 g o) : ∀ k, VI g (o + 1) k = iv 0 := h.2.2.2.2.2.2.2.2.1
theorem Z7.w2 {g : GG} {o : Nat} (h : Z7 g o) : ∀ k, VI g (o + 2) k = iv 0 := h.2.2.2.2.2.2.2.2.2.1
theorem Z7.w3 {g : GG} {o : Nat} (h : Z7 g o) : ∀ k, VI g (o + 3) k = iv 0 := h.2.2.2.2.2.2.2.2.2.2
theorem z7_13 (g : GG) : Z7 g 13 := by
  have pl : ∀ a, 13 ≤ a → a ≤ 16 → PLc a := fun a h1 h2 => ⟨by omega, by omega, by omega, by omega⟩
  have k0 : kdN 13 = (7, 4) := rfl
  have k1 : kdN 14 = (20, 1440) := rfl
  have k2 : kdN 15 = (20, 240) := rfl
  have k3 : kdN 16 = (20, 240) := rfl
  have h := pl 13 (by omega) (by omega)
  exact ⟨k0, k1, k2, k3, (VI_f k0 h 0).trans (vl_ref (d := 1) rfl), (VI_f k0 h 1).trans (vl_ref (d := 2) rfl), (VI_f k0 h 2).trans (vl_ref (d := 3) rfl), VI_f k0 h 3, fun k => VI_f k1 (pl 14 (by omega) (by omega)) k, fun k => VI_f k2 (pl 15 (by omega) (by omega)) k, fun k => VI_f k3 (pl 16 (by omega) (by omega)) k⟩
def Z1 (g : GG) (o : Nat) : Prop := (kdN o = (1, 7)) ∧ (kdN (o + 1) = (20, 40)) ∧ (kdN (o + 2) = (20, 40)) ∧ (kdN (o + 3) = (20, 8)) ∧ (kdN (o + 4) = (20, 8)) ∧ (kdN (o + 5) = (20, 8)) ∧ (kdN (o + 6) = (20, 8)) ∧ (VI g o 0 = rf g (o + 1)) ∧ (VI g o 1 = rf g (o + 2)) ∧ (VI g o 2 = rf g (o + 3)) ∧ (VI g o 3 = rf g (o + 4)) ∧ (VI g o 4 = rf g (o + 5)) ∧ (VI g o 5 = rf g (o + 6)) ∧ (VI g o 6 = iv 0) ∧ (∀ k, VI g (o + 1) k = iv 0) ∧ (∀ k, VI g (o + 2) k = iv 0) ∧ (∀ k, VI g (o + 3) k = iv 0) ∧ (∀ k, VI g (o + 4) k = iv 0) ∧ (∀ k, VI g (o + 5) k = iv 0) ∧ (∀ k, VI g (o + 6) k = iv 0)
theorem Z1.k0 {g : GG} {o : Nat} (h : Z1 g o) : kdN o = (1, 7) := h.1
theorem Z1.k1 {g : GG} {o : Nat} (h : Z1 g o) : kdN (o + 1) = (20, 40) := h.2.1
theorem Z1.k2 {g : GG} {o : Nat} (h : Z1 g o) : kdN (o + 2) = (20, 40) := h.2.2.1
theorem Z1.k3 {g : GG} {o : Nat} (h : Z1 g o) : kdN (o + 3) = (20, 8) := h.2.2.2.1
theorem Z1.k4 {g : GG} {o : Nat} (h : Z1 g o) : kdN (o + 4) = (20, 8) := h.2.2.2.2.1
theorem Z1.k5 {g : GG} {o : Nat} (h : Z1 g o) : kdN (o + 5) = (20, 8) := h.2.2.2.2.2.1
theorem Z1.k6 {g : GG} {o : Nat} (h : Z1 g o) : kdN (o + 6) = (20, 8) := h.2.2.2.2.2.2.1
theorem Z1.f0 {g : GG} {o : Nat} (h : Z1 g o) : VI g o 0 = rf g (o + 1) := h.2.2.2.2.2.2.2.1
theorem Z1.f1 {g : GG} {o : Nat} (h : Z1 g o) : VI g o 1 = rf g (o + 2) := h.2.2.2.2.2.2.2.2.1
theorem Z1.f2 {g : GG} {o : Nat} (h : Z1 g o) : VI g o 2 = rf g (o + 3) := h.2.2.2.2.2.2.2.2.2.1
theorem Z1.f3 {g : GG} {o : Nat} (h : Z1 g o) : VI g o 3 = rf g (o + 4) := h.2.2.2.2.2.2.2.2.2.2.1
theorem Z1.f4 {g : GG} {o : Nat} (h : Z1 g o) : VI g o 4 = rf g (o + 5) := h.2.2.2.2.2.2.2.2.2.2.2.1
theorem Z1.f5 {g : GG} {o : Nat} (h : Z1 g o) : VI g o 5 = rf g (o + 6) := h.2.2.2.2.2.2.2.2.2.2.2.2.1
theorem Z1.f6 {g : GG} {o : Nat} (h : Z1 g o) : VI g o 6 = iv 0 := h.2.2.2.2.2.2.2.2.2.2.2.2.2.1
theorem Z1.w1 {g : GG} {o : Nat} (h : Z1 g o) : ∀ k, VI g (o + 1) k = iv 0 := h.2.2.2.2.2.2.2.2.2.2.2.2.2.2.1
theorem Z1.w2 {g : GG} {o : Nat} (h : Z1 g o) : ∀ k, VI g (o + 2) k = iv 0 := h.2.2.2.2.2.2.2.2.2.2.2.2.2.2.2.1
theorem Z1.w3 {g : GG} {o : Nat} (h : Z1 g o) : ∀ k, VI g (o + 3) k = iv 0 := h.2.2.2.2.2.2.2.2.2.2.2.2.2.2.2.2.1
theorem Z1.w4 {g : GG} {o : Nat} (h : Z1 g o) : ∀ k, VI g (o + 4) k = iv 0 := h.2.2.2.2.2.2.2.2.2.2.2.2.2.2.2.2.2.1
theorem Z1.w5 {g : GG} {o : Nat} (h : Z1 g o) : ∀ k, VI g (o + 5) k = iv 0 := h.2.2.2.2.2.2.2.2.2.2.2.2.2.2.2.2.2.2.1
theorem Z1.w6 {g : GG} {o : Nat} (h : Z1 g o) : ∀ k, VI g (o + 6) k = iv 0 := h.2.2.2.2.2.2.2.2.2.2.2.2.2.2.2.2.2.2.2
theorem Z1.of {g : GG} {o : Nat} (k0 : kdN o = (1, 7)) (k1 : kdN (o + 1) = (20, 40)) (k2 : kdN (o + 2) = (20, 40)) (k3 : kdN (o + 3) = (20, 8)) (k4 : kdN (o + 4) = (20, 8)) (k5 : kdN (o + 5) = (20, 8)) (k6 : kdN (o + 6) = (20, 8)) (h : ∀ j, j ≤ 6 → PLc (o + j)) : Z1 g o :=
  ⟨k0, k1, k2, k3, k4, k5, k6, (VI_f k0 (h 0 (by omega)) 0).trans (vl_ref (d := 1) rfl), (VI_f k0 (h 0 (by omega)) 1).trans (vl_ref (d := 2) rfl), (VI_f k0 (h 0 (by omega)) 2).trans (vl_ref (d := 3) rfl), (VI_f k0 (h 0 (by omega)) 3).trans (vl_ref (d := 4) rfl), (VI_f k0 (h 0 (by omega)) 4).trans (vl_ref (d := 5) rfl), (VI_f k0 (h 0 (by omega)) 5).trans (vl_ref (d := 6) rfl), VI_f k0 (h 0 (by omega)) 6,
    fun k => VI_f k1 (h 1 (by omega)) k, fun k => VI_f k2 (h 2 (by omega)) k, fun k => VI_f k3 (h 3 (by omega)) k, fun k => VI_f k4 (h 4 (by omega)) k, fun k => VI_f k5 (h 5 (by omega)) k, fun k => VI_f k6 (h 6 (by omega)) k⟩
def Z0 (g : GG) (o : Nat) : Prop := (kdN o = (0, 6)) ∧ (kdN (o + 1) = (21, 40)) ∧ (kdN (o + 2) = (33, 4)) ∧ (∀ j, 1 ≤ j → j ≤ 4 → kdN (o + 2 + j) = (20, 40)) ∧ (kdN (o + 7) = (20, 4)) ∧ (kdN (o + 8) = (20, 4)) ∧ (kdN (o + 9) = (20, 4)) ∧ (VI g o 0 = rf g (o + 1)) ∧ (VI g o 1 = rf g (o + 2)) ∧ (VI g o 2 = rf g (o + 7)) ∧ (VI g o 3 = rf g (o + 8)) ∧ (VI g o 4 = rf g (o + 9)) ∧ (VI g o 5 = iv 0) ∧ (∀ k, VI g (o + 1) k = iv 45) ∧ (∀ k, k < 4 → VI g (o + 2) k = rf g (o + 2 + 1 + k)) ∧ (∀ j k, 1 ≤ j → j ≤ 4 → VI g (o + 2 + j) k = iv 0) ∧ (∀ k, VI g (o + 7) k = iv 0) ∧ (∀ k, VI g (o + 8) k = iv 0) ∧ (∀ k, VI g (o + 9) k = iv 0)
theorem Z0.k0 {g : GG} {o : Nat} (h : Z0 g o) : kdN o = (0, 6) := h.1
theorem Z0.k1 {g : GG} {o : Nat} (h : Z0 g o) : kdN (o + 1) = (21, 40) := h.2.1
theorem Z0.k2 {g : GG} {o : Nat} (h : Z0 g o) : kdN (o + 2) = (33, 4) := h.2.2.1
theorem Z0.k3 {g : GG} {o : Nat} (h : Z0 g o) : ∀ j, 1 ≤ j → j ≤ 4 → kdN (o + 2 + j) = (20, 40) := h.2.2.2.1
theorem Z0.k7 {g : GG} {o : Nat} (h : Z0 g o) : kdN (o + 7) = (20, 4) := h.2.2.2.2.1
theorem Z0.k8 {g : GG} {o : Nat} (h : Z0 g o) : kdN (o + 8) = (20, 4) := h.2.2.2.2.2.1
theorem Z0.k9 {g : GG} {o : Nat} (h : Z0 g o) : kdN (o + 9) = (20, 4) := h.2.2.2.2.2.2.1
theorem Z0.f0 {g : GG} {o : Nat} (h : Z0 g o) : VI g o 0 = rf g (o + 1) := h.2.2.2.2.2.2.2.1
theorem Z0.f1 {g : GG} {o : Nat} (h : Z0 g o) : VI g o 1 = rf g (o + 2) := h.2.2.2.2.2.2.2.2.1
theorem Z0.f2 {g : GG} {o : Nat} (h : Z0 g o) : VI g o 2 = rf g (o + 7) := h.2.2.2.2.2.2.2.2.2.1
theorem Z0.f3 {g : GG} {o : Nat} (h : Z0 g o) : VI g o 3 = rf g (o + 8) := h.2.2.2.2.2.2.2.2.2.2.1
theorem Z0.f4 {g : GG} {o : Nat} (h : Z0 g o) : VI g o 4 = rf g (o + 9) := h.2.2.2.2.2.2.2.2.2.2.2.1
theorem Z0.f5 {g : GG} {o : Nat} (h : Z0 g o) : VI g o 5 = iv 0 := h.2.2.2.2.2.2.2.2.2.2.2.2.1
theorem Z0.w1 {g : GG} {o : Nat} (h : Z0 g o) : ∀ k, VI g (o + 1) k = iv 45 := h.2.2.2.2.2.2.2.2.2.2.2.2.2.1
theorem Z0.w2 {g : GG} {o : Nat} (h : Z0 g o) : ∀ k, k < 4 → VI g (o + 2) k = rf g (o + 2 + 1 + k) := h.2.2.2.2.2.2.2.2.2.2.2.2.2.2.1
theorem Z0.w3 {g : GG} {o : Nat} (h : Z0 g o) : ∀ j k, 1 ≤ j → j ≤ 4 → VI g (o + 2 + j) k = iv 0 := h.2.2.2.2.2.2.2.2.2.2.2.2.2.2.2.1
theorem Z0.w7 {g : GG} {o : Nat} (h : Z0 g o) : ∀ k, VI g (o + 7) k = iv 0 := h.2.2.2.2.2.2.2.2.2.2.2.2.2.2.2.2.1
theorem Z0.w8 {g : GG} {o : Nat} (h : Z0 g o) : ∀ k, VI g (o + 8) k = iv 0 := h.2.2.2.2.2.2.2.2.2.2.2.2.2.2.2.2.2.1
theorem Z0.w9 {g : GG} {o : Nat} (h : Z0 g o) : ∀ k, VI g (o + 9) k = iv 0 := h.2.2.2.2.2.2.2.2.2.2.2.2.2.2.2.2.2.2
theorem z0_17 (g : GG) : Z0 g 17 := by
  have pl : ∀ a, 17 ≤ a → a ≤ 26 → a ≠ 18 → PLc a := fun a h1 h2 h3 => ⟨h3, by omega, by omega, by omega⟩
  have k0 : kdN 17 = (0, 6) := rfl
  have k2 : kdN 19 = (33, 4) := rfl
  have k3 : ∀ j, 1 ≤ j → j ≤ 4 → kdN (17 + 2 + j) = (20, 40) := fun j h1 h2 => by
    rcases (show j = 1 ∨ j = 2 ∨ j = 3 ∨ j = 4 by omega) with rfl | rfl | rfl | rfl <;> rfl
  have k7 : kdN 24 = (20, 4) := rfl
  have k8 : kdN 25 = (20, 4) := rfl
  have k9 : kdN 26 = (20, 4) := rfl
  have h := pl 17 (by omega) (by omega) (by omega)
  refine ⟨k0, rfl, k2, k3, k7, k8, k9, (VI_f k0 h 0).trans (vl_ref (d := 1) rfl), (VI_f k0 h 1).trans (vl_ref (d := 2) rfl), (VI_f k0 h 2).trans (vl_ref (d := 7) rfl), (VI_f k0 h 3).trans (vl_ref (d := 8) rfl), (VI_f k0 h 4).trans (vl_ref (d := 9) rfl), VI_f k0 h 5, fun k => rfl, fun k hk => ?_, fun j k h1 h2 => VI_f (k3 j h1 h2) (pl _ (by omega) (by omega) (by omega)) k, fun k => VI_f k7 (pl _ (by omega) (by omega) (by omega)) k, fun k => VI_f k8 (pl _ (by omega) (by omega) (by omega)) k, fun k => VI_f k9 (pl _ (by omega) (by omega) (by omega)) k⟩
  refine (VI_f k2 (pl 19 (by omega) (by omega) (by omega)) k).trans ((vl_ref (d := 1 + k) (t' := 20) (n' := 40) ?_).trans ?_)
  · show ((1 : Nat), (1 : Int) + (k : Int), 20, 40) = _
    rw [show (1 : Int) + (k : Int) = ((1 + k : Nat) : Int) by omega]
  · rw [show 19 + (1 + k) = 17 + 2 + 1 + k by omega]
def Z4 (g : GG) (o : Nat) : Prop := (kdN o = (4, 4)) ∧ (kdN (o + 1) = (32, 6)) ∧ (VI g o 0 = rf g (o + 1)) ∧ (VI g o 1 = iv 0) ∧ (VI g o 2 = iv 1) ∧ (VI g o 3 = iv 0) ∧ (∀ k, k < 6 → VI g (o + 1) k = rf g (o + 2 + 3 * k)) ∧ (∀ i, i < 6 → Z3 g (o + 2 + 3 * i))
theorem Z4.k0 {g : GG} {o : Nat} (h : Z4 g o) : kdN o = (4, 4) := h.1
theorem Z4.k1 {g : GG} {o : Nat} (h : Z4 g o) : kdN (o + 1) = (32, 6) := h.2.1
theorem Z4.f0 {g : GG} {o : Nat} (h : Z4 g o) : VI g o 0 = rf g (o + 1) := h.2.2.1
theorem Z4.f1 {g : GG} {o : Nat} (h : Z4 g o) : VI g o 1 = iv 0 := h.2.2.2.1
theorem Z4.f2 {g : GG} {o : Nat} (h : Z4 g o) : VI g o 2 = iv 1 := h.2.2.2.2.1
theorem Z4.f3 {g : GG} {o : Nat} (h : Z4 g o) : VI g o 3 = iv 0 := h.2.2.2.2.2.1
theorem Z4.w1 {g : GG} {o : Nat} (h : Z4 g o) : ∀ k, k < 6 → VI g (o + 1) k = rf g (o + 2 + 3 * k) := h.2.2.2.2.2.2.1
theorem Z4.z {g : GG} {o : Nat} (h : Z4 g o) : ∀ i, i < 6 → Z3 g (o + 2 + 3 * i) := h.2.2.2.2.2.2.2
theorem kd4 : ∀ p, p < 5 → kdN (48 + 20 * p) = (4, 4) ∧ kdN (48 + 20 * p + 1) = (32, 6) ∧ ∀ i, i < 6 → kdN (48 + 20 * p + 2 + 3 * i) = (3, 4) ∧ kdN (48 + 20 * p + 2 + 3 * i + 1) = (20, 4) ∧ kdN (48 + 20 * p + 2 + 3 * i + 2) = (20, 6) := by decide +kernel
theorem Z4.of {g : GG} {p : Nat} (hp : p < 5) : Z4 g (48 + 20 * p) := by
  obtain ⟨k0, k1, k2⟩ := kd4 p hp
  have pl : ∀ a, 48 ≤ a → a < 148 → PLc a := fun a h1 h2 => ⟨by omega, by omega, by omega, by omega⟩
  have h := pl (48 + 20 * p) (by omega) (by omega)
  refine ⟨k0, k1, (VI_f k0 h 0).trans (vl_ref (d := 1) rfl), VI_f k0 h 1, VI_f k0 h 2, VI_f k0 h 3, fun k hk => ?_, fun i hi => Z3.of (k2 i hi).1 (k2 i hi).2.1 (k2 i hi).2.2 (fun j hj => pl _ (by omega) (by omega))⟩
  refine (VI_f k1 (pl _ (by omega) (by omega)) k).trans ((vl_ref (d := 1 + 3 * k) (t' := 3) (n' := 4) ?_).trans ?_)
  · show ((1 : Nat), (1 : Int) + 3 * (k : Int), 3, 4) = _
    rw [show (1 : Int) + 3 * (k : Int) = ((1 + 3 * k : Nat) : Int) by omega]
  · rw [show 48 + 20 * p + 1 + (1 + 3 * k) = 48 + 20 * p + 2 + 3 * k by omega]
def Z6 (g : GG) (o : Nat) : Prop := (kdN o = (6, 10)) ∧ (Z5 g (o + 1)) ∧ (kdN (o + 5) = (21, 6)) ∧ (kdN (o + 6) = (20, 6)) ∧ (kdN (o + 7) = (20, 6)) ∧ (VI g o 0 = rf g (o + 1)) ∧ (VI g o 1 = rf g (o + 5)) ∧ (VI g o 2 = rf g (o + 6)) ∧ (VI g o 3 = rf g (o + 7)) ∧ (VI g o 4 = iv 0) ∧ (VI g o 5 = iv 0) ∧ (VI g o 6 = iv 0) ∧ (VI g o 7 = iv 0) ∧ (VI g o 8 = iv 97) ∧ (VI g o 9 = iv (-1)) ∧ (∀ k, VI g (o + 5) k = iv 0) ∧ (∀ k, VI g (o + 6) k = iv 0) ∧ (∀ k, VI g (o + 7) k = iv (-1))
theorem Z6.k0 {g : GG} {o : Nat} (h : Z6 g o) : kdN o = (6, 10) := h.1
theorem Z6.z {g : GG} {o : Nat} (h : Z6 g o) : Z5 g (o + 1) := h.2.1
theorem Z6.k5 {g : GG} {o : Nat} (h : Z6 g o) : kdN (o + 5) = (21, 6) := h.2.2.1
theorem Z6.k6 {g : GG} {o : Nat} (h : Z6 g o) : kdN (o + 6) = (20, 6) := h.2.2.2.1
theorem Z6.k7 {g : GG} {o : Nat} (h : Z6 g o) : kdN (o + 7) = (20, 6) := h.2.2.2.2.1
theorem Z6.f0 {g : GG} {o : Nat} (h : Z6 g o) : VI g o 0 = rf g (o + 1) := h.2.2.2.2.2.1
theorem Z6.f1 {g : GG} {o : Nat} (h : Z6 g o) : VI g o 1 = rf g (o + 5) := h.2.2.2.2.2.2.1
theorem Z6.f2 {g : GG} {o : Nat} (h : Z6 g o) : VI g o 2 = rf g (o + 6) := h.2.2.2.2.2.2.2.1
theorem Z6.f3 {g : GG} {o : Nat} (h : Z6 g o) : VI g o 3 = rf g (o + 7) := h.2.2.2.2.2.2.2.2.1
theorem Z6.f4 {g : GG} {o : Nat} (h : Z6 g o) : VI g o 4 = iv 0 := h.2.2.2.2.2.2.2.2.2.1
theorem Z6.f5 {g : GG} {o : Nat} (h : Z6 g o) : VI g o 5 = iv 0 := h.2.2.2.2.2.2.2.2.2.2.1
theorem Z6.f6 {g : GG} {o : Nat} (h : Z6 g o) : VI g o 6 = iv 0 := h.2.2.2.2.2.2.2.2.2.2.2.1
theorem Z6.f7 {g : GG} {o : Nat} (h : Z6 g o) : VI g o 7 = iv 0 := h.2.2.2.2.2.2.2.2.2.2.2.2.1
theorem Z6.f8 {g : GG} {o : Nat} (h : Z6 g o) : VI g o 8 = iv 97 := h.2.2.2.2.2.2.2.2.2.2.2.2.2.1
theorem Z6.f9 {g : GG} {o : Nat} (h : Z6 g o) : VI g o 9 = iv (-1) := h.2.2.2.2.2.2.2.2.2.2.2.2.2.2.1
theorem Z6.w5 {g : GG} {o : Nat} (h : Z6 g o) : ∀ k, VI g (o + 5) k = iv 0 := h.2.2.2.2.2.2.2.2.2.2.2.2.2.2.2.1
theorem Z6.w6 {g : GG} {o : Nat} (h : Z6 g o) : ∀ k, VI g (o + 6) k = iv 0 := h.2.2.2.2.2.2.2.2.2.2.2.2.2.2.2.2.1
theorem Z6.w7 {g : GG} {o : Nat} (h : Z6 g o) : ∀ k, VI g (o + 7) k = iv (-1) := h.2.2.2.2.2.2.2.2.2.2.2.2.2.2.2.2.2
theorem kd6 : ∀ r, r < 40 → kdN (148 + 8 * r) = (6, 10) ∧ kdN (148 + 8 * r + 1) = (5, 4) ∧ kdN (148 + 8 * r + 1 + 1) = (21, 20) ∧ kdN (148 + 8 * r + 1 + 2) = (20, 20) ∧ kdN (148 + 8 * r + 1 + 3) = (20, 20) ∧ kdN (148 + 8 * r + 5) = (21, 6) ∧ kdN (148 + 8 * r + 6) = (20, 6) ∧ kdN (148 + 8 * r + 7) = (20, 6) := by decide +kernel
theorem Z6.of {g : GG} {r : Nat} (hr : r < 40) : Z6 g (148 + 8 * r) := by
  obtain ⟨k0, k1, k2, k3, k4, k5, k6, k7⟩ := kd6 r hr
  have pl : ∀ j, j < 7 → PLc (148 + 8 * r + j) := fun a h1 => ⟨by omega, by omega, by omega, by omega⟩
  have h := pl 0 (by omega)
  refine ⟨k0, Z5.of k1 k2 k3 k4 (fun j hj => ?_), k5, k6, k7, (VI_f k0 h 0).trans (vl_ref (d := 1) rfl), (VI_f k0 h 1).trans (vl_ref (d := 5) rfl), (VI_f k0 h 2).trans (vl_ref (d := 6) rfl), (VI_f k0 h 3).trans (vl_ref (d := 7) rfl), VI_f k0 h 4, VI_f k0 h 5, VI_f k0 h 6, VI_f k0 h 7, VI_f k0 h 8, VI_f k0 h 9, fun k => VI_f k5 (pl 5 (by omega)) k, fun k => VI_f k6 (pl 6 (by omega)) k, fun k => ?_⟩
  · have := pl (1 + j) (by omega)
    rw [show 148 + 8 * r + (1 + j) = 148 + 8 * r + 1 + j by omega] at this
    exact this
  · unfold VI
    rw [k7]
    show iv (M0i ((148 + 8 * r + 7 : Nat) : Int) k) = iv (-1)
    unfold M0i
    rw [if_neg (by omega), if_pos (by omega)]
