/-! the law's start -/
theorem kk_known {a : Array Value} {s : State} (hts : ∀ w ∈ lw_tbl, w.before a s = true) : ∃ D : va_G, va_K D kcl [] s := by
  have h : ∀ t : Nat, ∃ z : ClassId × (Nat → Nat), ∀ q : vw_C, kcl[t]? = some q → u_Kn s q.1 q.2.1 q.2.2 z.1 z.2 := by
    intro t
    match t with
    | 0 =>
      obtain ⟨c, i, hk⟩ := u_known (ws := lw_tbl) (C := RX0) (T := TX0) (N := 6) (n := 6) hts (fun w hw => wsL_law_in w (inlX0 w hw)) (hts _ (inT1 _ (List.mem_of_getElem? (i := 135) rfl)))
      exact ⟨(c, i), fun q hq => by cases hq; exact hk⟩
    | 1 =>
      obtain ⟨c, i, hk⟩ := u_known (ws := lw_tbl) (C := RX1) (T := TX1) (N := 7) (n := 7) hts (fun w hw => wsL_law_in w (inlX1 w hw)) (hts _ (inT1 _ (List.mem_of_getElem? (i := 168) rfl)))
      exact ⟨(c, i), fun q hq => by cases hq; exact hk⟩
    | 2 =>
      obtain ⟨c, i, hk⟩ := u_known (ws := lw_tbl) (C := RX2) (T := TX2) (N := 7) (n := 7) hts (fun w hw => wsL_law_in w (inlX2 w hw)) (hts _ (inT1 _ (List.mem_of_getElem? (i := 83) rfl)))
      exact ⟨(c, i), fun q hq => by cases hq; exact hk⟩
    | 3 =>
      obtain ⟨c, i, hk⟩ := u_known (ws := lw_tbl) (C := RX3) (T := TX3) (N := 4) (n := 4) hts (fun w hw => wsL_law_in w (inlX3 w hw)) (hts _ (inT1 _ (List.mem_of_getElem? (i := 58) rfl)))
      exact ⟨(c, i), fun q hq => by cases hq; exact hk⟩
    | 4 =>
      obtain ⟨c, i, hk⟩ := u_known (ws := lw_tbl) (C := RX4) (T := TX4) (N := 4) (n := 4) hts (fun w hw => wsL_law_in w (inlX4 w hw)) (hts _ (inT1 _ (List.mem_of_getElem? (i := 199) rfl)))
      exact ⟨(c, i), fun q hq => by cases hq; exact hk⟩
    | 5 =>
      obtain ⟨c, i, hk⟩ := u_known (ws := lw_tbl) (C := RX5) (T := TX5) (N := 4) (n := 4) hts (fun w hw => wsL_law_in w (inlX5 w hw)) (hts _ (inT1 _ (List.mem_of_getElem? (i := 32) rfl)))
      exact ⟨(c, i), fun q hq => by cases hq; exact hk⟩
    | 6 =>
      obtain ⟨c, i, hk⟩ := u_known (ws := lw_tbl) (C := RX6) (T := TX6) (N := 10) (n := 10) hts (fun w hw => wsL_law_in w (inlX6 w hw)) (hts _ (inT1 _ (List.mem_of_getElem? (i := 224) rfl)))
      exact ⟨(c, i), fun q hq => by cases hq; exact hk⟩
    | 7 =>
      obtain ⟨c, i, hk⟩ := u_known (ws := lw_tbl) (C := RX7) (T := TX7) (N := 4) (n := 4) hts (fun w hw => wsL_law_in w (inlX7 w hw)) (hts _ (inT1 _ (List.mem_of_getElem? (i := 115) rfl)))
      exact ⟨(c, i), fun q hq => by cases hq; exact hk⟩
    | 8 =>
      obtain ⟨c, i, hk⟩ := u_known (ws := lw_tbl) (C := RX8) (T := TX8) (N := 14) (n := 14) hts (fun w hw => wsL_law_in w (inlX8 w hw)) (hts _ (inT1 _ (List.mem_of_getElem? (i := 24) rfl)))
      exact ⟨(c, i), fun q hq => by cases hq; exact hk⟩
    | 9 =>
      obtain ⟨c, i, hk⟩ := u_known (ws := lw_tbl) (C := RX9) (T := TX9) (N := 38) (n := 38) hts (fun w hw => wsL_law_in w (inlX9 w hw)) (hts _ (inT5 _ (List.mem_of_getElem? (i := 49) rfl)))
      exact ⟨(c, i), fun q hq => by cases hq; exact hk⟩
    | n + 10 => exact ⟨(0, fun _ => 0), fun q hq => by cases hq⟩
  exact ⟨(fun t => (Classical.choose (h t)).1, fun t => (Classical.choose (h t)).2), fun c q hq => Classical.choose_spec (h c) q hq, fun k q hq => by cases hq⟩
theorem ac_of {a : Array Value} {s : State} {ty : FieldType} (h : (Cond.arrayClass ty).before a s = true) : ∃ cA, s.vm.findClass ("[" ++ ty.toString) = some cA ∧ ArrOfT s cA ty := by
  obtain ⟨c, k, comp, h1, h2, h3⟩ := Cond.arrayClass_spec h
  exact ⟨c, h1, fun n z => ⟨fun k h => (by cases h), k, h2, comp, h3⟩⟩
theorem ao_of {a : Array Value} {s : State} {C : String} (h : (Cond.arrayOver (.object C)).before a s = true) : ∃ cA, s.vm.findClass ("[" ++ (FieldType.object C).toString) = some cA ∧ ArrOfT s cA (.object C) := by
  obtain ⟨comp, c, k, h1, h2, h3, h4, h5⟩ := Cond.arrayOver_spec h
  exact ⟨c, h5, fun n z => ⟨fun k h => (by cases h), k, h3, comp, h4⟩⟩
theorem aa_of {a : Array Value} {s : State} {t : FieldType} (h : (Cond.arrayOver (.array t)).before a s = true) : ∃ cA, s.vm.findClass ("[" ++ (FieldType.array t).toString) = some cA ∧ ArrOfT s cA (.array t) := by
  obtain ⟨comp, c, k, h1, h2, h3, h4, h5⟩ := arrayOverA_spec h
  exact ⟨c, h5, fun n z => ⟨fun k h => (by cases h), k, h3, comp, h4⟩⟩
def aF (a0 a1 a2 a3 a4 b0 b1 b2 b3 : ClassId) : Nat → ClassId := fun k => match k with
  | 20 => a0
  | 21 => a1
  | 22 => a2
  | 23 => a3
  | 24 => a4
  | 30 => b0
  | 31 => b1
  | 32 => b2
  | 33 => b3
  | _ => 0
theorem nn_of {a : Array Value} {s : State} (hts : ∀ w ∈ lw_tbl, w.before a s = true) : NN s :=
  ⟨va_Nw.of rfl (hts _ (inT3 _ (List.mem_of_getElem? (i := 220) rfl))), va_Nw.of rfl (hts _ (inT2 _ (List.mem_of_getElem? (i := 144) rfl))), va_Nw.of rfl (hts _ (inT4 _ (List.mem_of_getElem? (i := 13) rfl))), fun w hw => by
    simp only [NW, List.mem_cons, List.not_mem_nil, or_false] at hw
    rcases hw with rfl | rfl | rfl | rfl | rfl | rfl | rfl | rfl | rfl
    · exact va_Nw.of rfl (hts _ (inT3 _ (List.mem_of_getElem? (i := 4) rfl)))
    · exact va_Nw.of rfl (hts _ (inT3 _ (List.mem_of_getElem? (i := 6) rfl)))
    · exact va_Nw.of rfl (hts _ (inT3 _ (List.mem_of_getElem? (i := 8) rfl)))
    · exact va_Nw.of rfl (hts _ (inT3 _ (List.mem_of_getElem? (i := 3) rfl)))
    · exact va_Nw.of rfl (hts _ (inT3 _ (List.mem_of_getElem? (i := 71) rfl)))
    · exact va_Nw.of rfl (hts _ (inT3 _ (List.mem_of_getElem? (i := 160) rfl)))
    · exact va_Nw.of rfl (hts _ (inT4 _ (List.mem_of_getElem? (i := 106) rfl)))
    · exact va_Nw.of rfl (hts _ (inT4 _ (List.mem_of_getElem? (i := 180) rfl)))
    · exact va_Nw.of rfl (hts _ (inT5 _ (List.mem_of_getElem? (i := 30) rfl)))⟩
theorem nk_of {a : Array Value} {s : State} (hts : ∀ w ∈ lw_tbl, w.before a s = true) : NK s :=
  ⟨va_Nw.of rfl (hts _ (inT1 _ (List.mem_of_getElem? (i := 33) rfl))), va_Nw.of rfl (hts _ (inT1 _ (List.mem_of_getElem? (i := 59) rfl))), va_Nw.of rfl (hts _ (inT1 _ (List.mem_of_getElem? (i := 84) rfl))), va_Nw.of rfl (hts _ (inT1 _ (List.mem_of_getElem? (i := 116) rfl))), va_Nw.of rfl (hts _ (inT1 _ (List.mem_of_getElem? (i := 169) rfl))), va_Nw.of rfl (hts _ (inT1 _ (List.mem_of_getElem? (i := 206) rfl))), va_Nw.of rfl (hts _ (inT1 _ (List.mem_of_getElem? (i := 230) rfl)))⟩
theorem ncs_of {a : Array Value} {s : State} (hf : (Jvm.Cond.and given_1 narrow_1).before a s = true) : NCs s := by
  have hs := flat_of_before _ hf
  intro w hw
  simp only [NCL, List.mem_cons, List.not_mem_nil, or_false] at hw
  rcases hw with rfl | rfl | rfl | rfl | rfl | rfl
  · exact va_Nc.of (hs (.not (.castable "java/lang/IllegalStateException" "java/lang/IllegalArgumentException")) (by decide +kernel))
  · exact va_Nc.of (hs (.not (.castable "java/lang/IllegalStateException" "java/lang/IndexOutOfBoundsException")) (by decide +kernel))
  · exact va_Nc.of (hs (.not (.castable "java/lang/IllegalArgumentException" "java/lang/IndexOutOfBoundsException")) (by decide +kernel))
  · exact va_Nc.of (hs (.not (.castable "java/util/NoSuchElementException" "java/lang/IndexOutOfBoundsException")) (by decide +kernel))
  · exact va_Nc.of (hs (.not (.castable "java/util/NoSuchElementException" "java/lang/IllegalArgumentException")) (by decide +kernel))
  · exact va_Nc.of (hs (.not (.castable "java/lang/UnsupportedOperationException" "java/lang/IllegalArgumentException")) (by decide +kernel))
theorem zz_of {a : Array Value} {s : State} {g : GG} (hts : ∀ w ∈ lw_tbl, w.before a s = true) (hf : (Jvm.Cond.and given_1 narrow_1).before a s = true) (hg : g.2.1 = s.heap.size) : ZZ g s s.heap := by
  have hs := flat_of_before _ hf
  have hA : ∀ a : Nat, a < s.heap.size → ¬ gA g a := fun a h1 h2 => by
    have h2 : g.2.1 ≤ a := h2
    omega
  exact ⟨vx_Zqof (hts _ (inT3 _ (List.mem_of_getElem? (i := 28) rfl))) (hts _ (inT1 _ (List.mem_of_getElem? (i := 11) rfl))) (hs _ (by decide +kernel)) hA, vx_Zqof (hts _ (inT3 _ (List.mem_of_getElem? (i := 30) rfl))) (hts _ (inT1 _ (List.mem_of_getElem? (i := 11) rfl))) (hs _ (by decide +kernel)) hA⟩
/-- from the entry, for every script, the law comes to its end with true -/
theorem whole_start {p : Program} {e : Env} {s : State} {m : MethodId} {below : List Frame} {meth : Method} {c : Code} (l : Launch) (hflags : l.flags = flags0) {b L : Nat} {xs : Nat → Int32} (hL : L ≤ 2048) (C0 : lw_At p s m meth c b L xs) : W p l e room_1 s m #[Value.ref b] below meth c s.heap [] 0 0 (lw_Z below #[Value.ref b] s) (entryFrame m ([Value.ref b] : List Value).toArray 9) := by
  obtain ⟨hx, hb, hr, hml, hown, hts, hX, hbl, hlk, hgv⟩ := C0
  obtain ⟨D, hK⟩ := kk_known hts
  obtain ⟨a0, e0, f0⟩ := ac_of (hts (.arrayClass .int) (inT1 _ (List.mem_of_getElem? (i := 56) rfl)))
  obtain ⟨a1, e1, f1⟩ := ac_of (hts (.arrayClass .char) (inT1 _ (List.mem_of_getElem? (i := 55) rfl)))
  obtain ⟨a2, e2, f2⟩ := ac_of (hts (.arrayClass .boolean) (inT5 _ (List.mem_of_getElem? (i := 169) rfl)))
  obtain ⟨a3, e3, f3⟩ := ac_of (hts (.arrayClass .long) (inT6 _ (List.mem_of_getElem? (i := 198) rfl)))
  obtain ⟨a4, e4, f4⟩ := ac_of (hts (.arrayClass .double) (inT6 _ (List.mem_of_getElem? (i := 199) rfl)))
  have o0 := hts (.arrayOver (.object "Judgefold$Problem")) (inT1 _ (List.mem_of_getElem? (i := 79) rfl))
  have o1 := hts (.arrayOver (.object "Judgefold$Run")) (inT1 _ (List.mem_of_getElem? (i := 81) rfl))
  have o2 := hts (.arrayOver (.object "Judgefold$Numbers")) (inT1 _ (List.mem_of_getElem? (i := 205) rfl))
  have o3 := hts (.arrayOver (.array .int)) (inT1 _ (List.mem_of_getElem? (i := 141) rfl))
  obtain ⟨b0, e5, f5⟩ := ao_of o0
  obtain ⟨b1, e6, f6⟩ := ao_of o1
  obtain ⟨b2, e7, f7⟩ := ao_of o2
  obtain ⟨b3, e8, f8⟩ := aa_of o3
  let g : GG := (l, s.heap.size, D, aF a0 a1 a2 a3 a4 b0 b1 b2 b3)
  have hKK : KK g s := ⟨hK, f0, f1, f2, f3, f4, f5, f6, f7, f8⟩
  have hKA : KA g s := ⟨⟨⟨e0, e1, e2, e3, e4⟩, ⟨e5, e6, e7, e8⟩, o0, o1, o2, o3⟩, nk_of hts⟩
  have hst : g.1.stackTraces = false := by
    show l.stackTraces = false
    unfold Launch.stackTraces
    rw [hflags]
    decide +kernel
  have hCl : Cl g b L xs p s m meth c := ⟨hx, hb, hr, hml, hown, hts, hlk, hKK, zz_of hts hgv rfl, nn_of hts, ncs_of hgv, hX, hbl, rfl⟩
  have hl := lv_entry [Value.ref b] (n := 9) (Nat.le_of_ble_eq_true rfl)
  rw [lg_entry_eq]
  have k : Okl g b L xs 28 (lv0 g b 0) [] M0i 499 12140 := lw_loop hst hL 512 0 0 (fun _ => []) M0i 499 12140 (by omega) (by omega) (Nat.le_refl _) jj0 (Nat.le_refl _) (Nat.le_refl _)
  exact lw_pro k p e s m below meth c s.heap [] _ hCl hKA ⟨rfl, fun o ho => absurd ho (Nat.not_lt_zero _)⟩ va_S.rf hl
