/-! the law's way to its loop: the two objects, the two arrays -/
def Okp (g : GG) (b L : Nat) (xs : Nat → Int32) (pc : Nat) (lv : List (Nat × Value)) (st : List Value) (n : Nat) (V : VM) (kc ks : Nat) : Prop :=
  ∀ (p : Program) (e : Env) (s : State) (m : MethodId) (below : List Frame) (meth : Method) (c : Code) (H : Heap) (locs : List Loc) (ls : Array Slot),
    Cl g b L xs p s m meth c → KA g s → HV g n V H → va_S (gA g) s.heap H locs → lv_has ls 9 lv →
    W p g.1 e room_1 s m #[Value.ref b] below meth c H locs kc ks (lw_Z below #[Value.ref b] s) (F0 m pc ls st)
section PW
variable {g : GG} {b L : Nat} {xs : Nat → Int32} {pc : Nat} {lv : List (Nat × Value)} {st : List Value} {n : Nat} {V : VM} {kc ks : Nat}
theorem p_to (k : Okl g b L xs pc lv st M0i kc ks) : Okp g b L xs pc lv st 499 (VI g) kc ks :=
  fun p e s m below meth c H locs ls hC _ hP hS hl => k p e s m below meth c H locs ls hC (hp_of hP) hS hl
theorem p_cg {V' : VM} (e : ∀ o, o < n → ∀ k, k < (kdN o).2 → V o k = V' o k) (k : Okp g b L xs pc lv st n V' kc ks) : Okp g b L xs pc lv st n V kc ks :=
  fun p e' s m below meth c H locs ls hC hA hP hS hl => k p e' s m below meth c H locs ls hC hA (hP.cong e) hS hl
theorem p_sub {lv' : List (Nat × Value)} (is : List Nat) (hs : lv_pick lv is = lv') (k : Okp g b L xs pc lv' st n V kc ks) : Okp g b L xs pc lv st n V kc ks :=
  fun p e s m below meth c H locs ls hC hA hP hS hl => k p e s m below meth c H locs ls hC hA hP hS (lv_sub hl is hs)
theorem p_iconst {i : Int} (z : Int) (hd : decode code pc = .ok (.iconst i, 1)) (hz : Int32.ofInt i = iZ z) (k : Okp g b L xs (pc + 1) lv (iv z :: st) n V kc ks) : Okp g b L xs pc lv st n V kc ks := by
  intro p e s m below meth c H locs ls hC hA hP hS hl
  exact lv_iconst hC.1 hC.2.1 hd hz (k p e s m below meth c H locs ls hC hA hP hS hl)
theorem p_dup {v : Value} (hd : decode code pc = .ok (.dup, 1)) (hc : v.category = 1) (k : Okp g b L xs (pc + 1) lv (v :: v :: st) n V kc ks) : Okp g b L xs pc lv (v :: st) n V kc ks := by
  intro p e s m below meth c H locs ls hC hA hP hS hl
  exact lv_dup hC.1 hC.2.1 hd hc (k p e s m below meth c H locs ls hC hA hP hS hl)
theorem p_istore {i : Nat} {z : Int} {lv' : List (Nat × Value)} (hd : decode code pc = .ok (.istore i, 2)) (hn : i < 9) (hv : (i, iv z) :: lv.filter (fun q => !(q.1 == i) && !(q.1 + 1 == i && q.2.category == 2)) = lv') (k : Okp g b L xs (pc + 2) lv' st n V kc ks) : Okp g b L xs pc lv (iv z :: st) n V kc ks := by
  intro p e s m below meth c H locs ls hC hA hP hS hl
  exact lv_istore hC.1 hC.2.1 hd hl hn hv (fun ls hl => k p e s m below meth c H locs ls hC hA hP hS hl)
theorem p_astore {i a : Nat} {lv' : List (Nat × Value)} (hd : decode code pc = .ok (.astore i, 2)) (hn : i < 9) (hv : (i, .ref a) :: lv.filter (fun q => !(q.1 == i) && !(q.1 + 1 == i && q.2.category == 2)) = lv') (k : Okp g b L xs (pc + 2) lv' st n V kc ks) : Okp g b L xs pc lv (.ref a :: st) n V kc ks := by
  intro p e s m below meth c H locs ls hC hA hP hS hl
  exact lv_astore hC.1 hC.2.1 hd hl hn hv (fun ls hl => k p e s m below meth c H locs ls hC hA hP hS hl)
theorem p_astore_n {i a : Nat} {q : Fin 4} {lv' : List (Nat × Value)} (hd : decode code pc = .ok (.astore_n q, 1)) (hi : (q : Nat) = i) (hn : i < 9) (hv : (i, .ref a) :: lv.filter (fun q => !(q.1 == i) && !(q.1 + 1 == i && q.2.category == 2)) = lv') (k : Okp g b L xs (pc + 1) lv' st n V kc ks) : Okp g b L xs pc lv (.ref a :: st) n V kc ks := by
  intro p e s m below meth c H locs ls hC hA hP hS hl
  exact lv_astore_n hC.1 hC.2.1 hd hi hl hn hv (fun ls hl => k p e s m below meth c H locs ls hC hA hP hS hl)
theorem p_new {idx t N : Nat} (hd : decode code pc = .ok (.new idx, 3)) (hw : NWd RL idx t N) (hk : kdN n = (t, N)) (hc : kc + 1 ≤ 603072) (hs : ks + N ≤ 7215210) (k : Okp g b L xs (pc + 3) lv (rf g n :: st) (n + 1) (DF n 0 V) (kc + 1) (ks + N)) : Okp g b L xs pc lv st n V kc ks := by
  intro p e s m below meth c H locs ls hCx hA hP hS hl
  obtain ⟨hx, hb, hr, hml, hown, hts0, hlk, hK, hZ, hN, hNc, hX, hbl, hg⟩ := id hCx
  have hts : ∀ w ∈ wsL_law, w.before #[Value.ref b] s = true := fun w hw => hts0 w (wsL_law_in w hw)
  obtain ⟨C, T, ty0, w1, w2, w3, w4, w5, w6, w7⟩ := hw
  have hKn := hK.1.1 t _ w1
  have ht : t < 10 := (List.getElem?_eq_some_iff.mp w1).1
  refine W.newcK hx hb hown (hts _ w2) (hts _ w3) (hts _ w4) rfl hd hc hs hKn.2.1 hP.1 fun H1 kC hkC e1 z1 o1 => ?_
  refine k p e s m below meth c H1 locs ls hCx hA (hP.born z1 o1 ?_) (hS.push hP.1 z1 o1) hl
  rw [hk]
  unfold OB
  rw [if_pos ht]
  exact (u_born ty0 hts w5 hKn hkC e1 w6).to w7
theorem p_newa {at' : ArrayType} {ta N : Nat} {z : Int} (hd : decode code pc = .ok (.newarray at', 2)) (hat : AT g ta (newarray.typeOf at')) (hw : Cond.arrayClass (newarray.typeOf at') ∈ wsL_law) (hk : kdN n = (ta, N)) (hz : z = N) (hN2 : N < 2000) (hb8 : componentBytes (newarray.typeOf at') ≤ 8) (hc : kc + 1 ≤ 603072) (hs : ks + N ≤ 7215210)
    (k : Okp g b L xs (pc + 2) lv (rf g n :: st) (n + 1) (DF n 0 V) (kc + 1) (ks + N)) : Okp g b L xs pc lv (iv z :: st) n V kc ks := by
  intro p e s m below meth c H locs ls hCx hA hP hS hl
  obtain ⟨hx, hb, hr, hml, hown, hts0, hlk, hK, hZ, hN, hNc, hX, hbl, hg⟩ := id hCx
  subst hz
  refine va_newaK hx hb (hts0 _ (wsL_law_in _ hw)) rfl hd rfl (N := N) ?_ ?_ ?_ hc hs hP.1 fun H1 cA e1 z1 o1 hAr hNm => ?_
  · rw [← iZ_0, iZ_lt ⟨by omega, by omega⟩ ⟨by omega, by omega⟩]; omega
  · rw [iZ_cl (by omega) (by omega)]; omega
  · exact Nat.le_trans (Nat.mul_le_mul (Nat.le_of_lt hN2) hb8) (by decide)
  · refine k p e s m below meth c H1 locs ls hCx hA (hP.born z1 o1 ?_) (hS.push hP.1 z1 o1) hl
    rw [hk]
    unfold OB
    rw [if_neg hat.1]
    cases (hat.2.1 s hA).symm.trans hNm
    exact e1.trans (congrArg some (arrV_cong (fun k _ => hat.2.2 k)))
theorem p_init {idx o n' mc ms d nL : Nat} {y : MethodName} {cc : ByteArray} {V' : VM} (hd : decode code pc = .ok (.invokespecial idx, 3)) (hw : IL RL idx y cc nL) (hC : Ctz g y cc nL d o n n' mc ms V V') (hcat : (st.map fun v => v.category).sum ≤ 8)
    (hR : d + 2 ≤ 18 ∧ 8 + (nL + 11) + 40 * (d + 1) ≤ 10774) (hc : kc + mc ≤ 603072) (hs : ks + ms ≤ 7215210) (kk : Okp g b L xs (pc + 3) lv st n' V' (kc + mc) (ks + ms)) : Okp g b L xs pc lv (rf g o :: st) n V kc ks := by
  intro p e s m below meth c H locs ls hCx hA hP hS hl
  obtain ⟨hx, hb, hr, hml, hown, hts0, hlk, hK, hZ, hN, hNc, hX, hbl, hg⟩ := id hCx
  have hts : ∀ w ∈ wsL_law, w.before #[Value.ref b] s = true := fun w hw => hts0 w (wsL_law_in w hw)
  obtain ⟨w1, w2, w3, w4, w5, w6, w7⟩ := hw
  intro T0 hT X
  have cw := cwI (R := room_1) (s := s) (args := #[Value.ref b]) (own := RL) (index := idx) (y := y) (bytes := cc) (maxL := nL) (ws := Cond.code y cc nL none :: wsL_law) (rm := rmz d mc ms) (mc := mc) (ms := ms) 0 hts (wsL_in w4) rfl rfl rfl (hts _ w3) (hts _ w1) (hts _ w2) w5 ⟨w6.1, w6.2, w7⟩ ⟨hR.1, hR.2⟩
  have hp : PreS s H (Pcz g [rf g o] n V) (.ref (g.2.1 + o) :: []) := ⟨Pcz.blind, fun U hU hW => ⟨rfl, by rw [hU]; exact hP, KK.moved hW.alike hK, by rw [hU]; exact ZZ.moved hW.alike (hZ.kept hS.2.1), NN.warm hW hN, hA.warm hW⟩⟩
  obtain ⟨v, st₀, tt, T', L', h0, X', hL, e1, e2, ⟨⟨hv, hHP⟩, hF⟩, stp⟩ := va_runI (As := []) (rest := st) (g := F0 m pc ls (rf g o :: st)) ⟨hx, hb, hml, hown, hts⟩ hC cw hp rfl rfl hl.1 rfl (by simpa [F0, JFrame.monitorRoom] using hcat) hd ⟨hc, hs⟩ T0 hT X
  cases hv
  obtain ⟨f1, f2⟩ := hF
  rw [h0] at f1 f2
  have hS1 : va_S (gA g) s.heap T'.heap (locs ++ L') := hS.call (by rw [e1]; exact f1) (fun q h1 h2 => by rw [e1]; exact f2 q h1 h2) hL
  obtain ⟨t2, a1, b1⟩ := kk p e s m below meth c T'.heap (locs ++ L') ls hCx hA (by rw [e1]; exact hHP) hS1 hl T' rfl X'
  exact ⟨t2, stp t2 a1, b1⟩
theorem VI_497 (g : GG) (o : Nat) (_ : o < 498) (k : Nat) (hk : k < (kdN o).2) : DF 497 0 (VI g) o k = VI g o k := by
  by_cases e : o = 497
  · subst e
    have hk : k < 1 := hk
    obtain rfl : k = 0 := by omega
    rfl
  · exact DF_of (Or.inl e)
theorem VI_498 (g : GG) (o : Nat) (_ : o < 499) (k : Nat) (hk : k < (kdN o).2) : DF 498 0 (VI g) o k = VI g o k := by
  by_cases e : o = 498
  · subst e
    have hk : k < 1 := hk
    obtain rfl : k = 0 := by omega
    rfl
  · exact DF_of (Or.inl e)
theorem lw_pro (k : Okl g b L xs 28 (lv0 g b 0) [] M0i 499 12140) : Okp g b L xs 0 [(0, .ref b)] [] 0 (VI g) 0 0 := by
  refine p_new dL_law_0 nwL_8 rfl (by decide) (by decide) ?_
  refine p_dup dL_law_3 rfl ?_
  refine p_init dL_law_4 ilL_118 (z_X8_init g (VI g) (fun _ _ _ => rfl)) (Nat.le_of_ble_eq_true rfl) ⟨by decide, by decide⟩ (by decide) (by decide) ?_
  refine p_astore_n (i := 1) dL_law_7 rfl (by decide) rfl ?_
  refine p_new dL_law_8 nwL_119 rfl (by decide) (by decide) ?_
  refine p_dup dL_law_11 rfl ?_
  refine p_init dL_law_12 ilL_121 (z_X9_init g (VI g) (fun _ _ _ => rfl)) (Nat.le_of_ble_eq_true rfl) ⟨by decide, by decide⟩ (by decide) (by decide) ?_
  refine p_astore_n (i := 2) dL_law_15 rfl (by decide) rfl ?_
  refine p_iconst 1 dL_law_16 rfl ?_
  refine p_newa (N := 1) dL_law_17 (at_long g) (inr1 _ (List.mem_of_getElem? (i := 6) rfl)) rfl rfl (by decide) (by decide) (by decide) (by decide) ?_
  refine p_cg (VI_497 g) ?_
  refine p_astore_n (i := 3) dL_law_19 rfl (by decide) rfl ?_
  refine p_iconst 1 dL_law_20 rfl ?_
  refine p_newa (N := 1) dL_law_21 (at_double g) (inr1 _ (List.mem_of_getElem? (i := 7) rfl)) rfl rfl (by decide) (by decide) (by decide) (by decide) ?_
  refine p_cg (VI_498 g) ?_
  refine p_astore dL_law_23 (by decide) rfl ?_
  refine p_iconst 0 dL_law_25 rfl ?_
  refine p_istore dL_law_26 (by decide) rfl ?_
  refine p_sub [5, 4, 3, 2, 1, 0] (lv' := lv0 g b 0) rfl ?_
  exact p_to k
end PW
