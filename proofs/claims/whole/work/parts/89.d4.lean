/-! the law's loop -/
section LL
variable {g : GG} {b L : Nat} {xs : Nat → Int32} {j : Nat} {n : Int} {q : Int → List Int} {M : Mem} {kc ks : Nat}
theorem l_next (kk : Okl g b L xs 28 (lv0 g b (j + 1)) [] M kc ks) : Okl g b L xs 2243 (lv0 g b j) [] M kc ks := by
  refine l_iinc (lv' := (5, iv (4 * (j : Int) + 4)) :: [(0, .ref b), (1, rv g 0), (2, rv g 468), (3, rv g 497), (4, rv g 498)]) 5 dL_law_2243 rfl (by decide) rfl ?_
  refine l_goto (tgt := 28) dL_law_2246 (by decide) ?_
  have e : 4 * (j : Int) + 4 = 4 * ((j + 1 : Nat) : Int) := by omega
  rw [e]
  exact l_sub [1, 2, 3, 4, 5, 0] rfl kk
set_option maxRecDepth 100000 in
theorem lw_case (hst : g.1.stackTraces = false) (hL : L ≤ 2048) (hj : 4 * j + 4 ≤ L) (h : JJn n q M) (hn : 0 ≤ n ∧ n ≤ 512) (hroom : kc + 1 ≤ 603072 ∧ ks + 6 ≤ 7215210)
    (kk : ∀ (q2 : Int → List Int) (M2 : Mem), JJn (n + 1) q2 M2 → Okl g b L xs 2243 (lv0 g b j) [] M2 (kc + 1) (ks + 6)) {z : Int} (hz : rg z) (h0 : ¬ z < 0) (h1 : ¬ 33 < z) : Okl g b L xs 44 (lv0 g b j) [iv z] M kc ks := by
  have hc : z = 0 ∨ z = 1 ∨ z = 2 ∨ z = 3 ∨ z = 4 ∨ z = 5 ∨ z = 6 ∨ z = 7 ∨ z = 8 ∨ z = 9 ∨ z = 10 ∨ z = 11 ∨ z = 12 ∨ z = 13 ∨ z = 14 ∨ z = 15 ∨ z = 16 ∨ z = 17 ∨ z = 18 ∨ z = 19 ∨ z = 20 ∨ z = 21 ∨ z = 22 ∨ z = 23 ∨ z = 24 ∨ z = 25 ∨ z = 26 ∨ z = 27 ∨ z = 28 ∨ z = 29 ∨ z = 30 ∨ z = 31 ∨ z = 32 ∨ z = 33 := by omega
  rcases hc with rfl | rfl | rfl | rfl | rfl | rfl | rfl | rfl | rfl | rfl | rfl | rfl | rfl | rfl | rfl | rfl | rfl | rfl | rfl | rfl | rfl | rfl | rfl | rfl | rfl | rfl | rfl | rfl | rfl | rfl | rfl | rfl | rfl | rfl
  · exact l_tabIn (off := 152) (tgt := 196) dL_law_44 hz (by decide) (by decide) rfl (by decide) (lc_step hst hL hj h hn hroom kk)
  · exact l_tabIn (off := 234) (tgt := 278) dL_law_44 hz (by decide) (by decide) rfl (by decide) (lc_number hst hL hj h hn hroom kk)
  · exact l_tabIn (off := 318) (tgt := 362) dL_law_44 hz (by decide) (by decide) rfl (by decide) (lc_wipe hst hL hj h hn hroom kk)
  · exact l_tabIn (off := 359) (tgt := 403) dL_law_44 hz (by decide) (by decide) rfl (by decide) (lc_problem hst hL hj h hn hroom kk)
  · exact l_tabIn (off := 427) (tgt := 471) dL_law_44 hz (by decide) (by decide) rfl (by decide) (lc_test hst hL hj h hn hroom kk)
  · exact l_tabIn (off := 483) (tgt := 527) dL_law_44 hz (by decide) (by decide) rfl (by decide) (lc_fix hst hL hj h hn hroom kk)
  · exact l_tabIn (off := 551) (tgt := 595) dL_law_44 hz (by decide) (by decide) rfl (by decide) (lc_tests hst hL hj h hn hroom kk)
  · exact l_tabIn (off := 607) (tgt := 651) dL_law_44 hz (by decide) (by decide) rfl (by decide) (lc_team hst hL hj h hn hroom kk)
  · exact l_tabIn (off := 651) (tgt := 695) dL_law_44 hz (by decide) (by decide) rfl (by decide) (lc_submit hst hL hj h hn hroom kk)
  · exact l_tabIn (off := 731) (tgt := 775) dL_law_44 hz (by decide) (by decide) rfl (by decide) (lc_verdict hst hL hj h hn hroom kk)
  · exact l_tabIn (off := 787) (tgt := 831) dL_law_44 hz (by decide) (by decide) rfl (by decide) (lc_failed hst hL hj h hn hroom kk)
  · exact l_tabIn (off := 843) (tgt := 887) dL_law_44 hz (by decide) (by decide) rfl (by decide) (lc_ended hst hL hj h hn hroom kk)
  · exact l_tabIn (off := 911) (tgt := 955) dL_law_44 hz (by decide) (by decide) rfl (by decide) (lc_steps hst hL hj h hn hroom kk)
  · exact l_tabIn (off := 979) (tgt := 1023) dL_law_44 hz (by decide) (by decide) rfl (by decide) (lc_outputs hst hL hj h hn hroom kk)
  · exact l_tabIn (off := 1047) (tgt := 1091) dL_law_44 hz (by decide) (by decide) rfl (by decide) (lc_output hst hL hj h hn hroom kk)
  · exact l_tabIn (off := 1127) (tgt := 1171) dL_law_44 hz (by decide) (by decide) rfl (by decide) (lc_kept hst hL hj h hn hroom kk)
  · exact l_tabIn (off := 1140) (tgt := 1184) dL_law_44 hz (by decide) (by decide) rfl (by decide) (lc_sharing hst hL hj h hn hroom kk)
  · exact l_tabIn (off := 1208) (tgt := 1252) dL_law_44 hz (by decide) (by decide) rfl (by decide) (lc_stock hst hL hj h hn hroom kk)
  · exact l_tabIn (off := 1276) (tgt := 1320) dL_law_44 hz (by decide) (by decide) rfl (by decide) (lc_inStock hst hL hj h hn hroom kk)
  · exact l_tabIn (off := 1332) (tgt := 1376) dL_law_44 hz (by decide) (by decide) rfl (by decide) (lc_out hst hL hj h hn hroom kk)
  · exact l_tabIn (off := 1388) (tgt := 1432) dL_law_44 hz (by decide) (by decide) rfl (by decide) (lc_balloon hst hL hj h hn hroom kk)
  · exact l_tabIn (off := 1456) (tgt := 1500) dL_law_44 hz (by decide) (by decide) rfl (by decide) (lc_waiting hst hL hj h hn hroom kk)
  · exact l_tabIn (off := 1524) (tgt := 1568) dL_law_44 hz (by decide) (by decide) rfl (by decide) (lc_calledBack hst hL hj h hn hroom kk)
  · exact l_tabIn (off := 1537) (tgt := 1581) dL_law_44 hz (by decide) (by decide) rfl (by decide) (lc_freeze hst hL hj h hn hroom kk)
  · exact l_tabIn (off := 1593) (tgt := 1637) dL_law_44 hz (by decide) (by decide) rfl (by decide) (lc_pending hst hL hj h hn hroom kk)
  · exact l_tabIn (off := 1661) (tgt := 1705) dL_law_44 hz (by decide) (by decide) rfl (by decide) (lc_open hst hL hj h hn hroom kk)
  · exact l_tabIn (off := 1705) (tgt := 1749) dL_law_44 hz (by decide) (by decide) rfl (by decide) (lc_solved hst hL hj h hn hroom kk)
  · exact l_tabIn (off := 1789) (tgt := 1833) dL_law_44 hz (by decide) (by decide) rfl (by decide) (lc_penalty hst hL hj h hn hroom kk)
  · exact l_tabIn (off := 1873) (tgt := 1917) dL_law_44 hz (by decide) (by decide) rfl (by decide) (lc_rank hst hL hj h hn hroom kk)
  · exact l_tabIn (off := 1957) (tgt := 2001) dL_law_44 hz (by decide) (by decide) rfl (by decide) (lc_ranked hst hL hj h hn hroom kk)
  · exact l_tabIn (off := 2041) (tgt := 2085) dL_law_44 hz (by decide) (by decide) rfl (by decide) (lc_acceptedShare hst hL hj h hn hroom kk)
  · exact l_tabIn (off := 2107) (tgt := 2151) dL_law_44 hz (by decide) (by decide) rfl (by decide) (lc_meanSteps hst hL hj h hn hroom kk)
  · exact l_tabIn (off := 2172) (tgt := 2216) dL_law_44 hz (by decide) (by decide) rfl (by decide) (lc_checksum hst hL hj h hn hroom kk)
  · exact l_tabIn (off := 2186) (tgt := 2230) dL_law_44 hz (by decide) (by decide) rfl (by decide) (lc_isTrue hst hL hj h hn hroom kk)
theorem lw_loop (hst : g.1.stackTraces = false) (hL : L ≤ 2048) : ∀ (f j n : Nat) (q : Int → List Int) (M : Mem) (kc ks : Nat), L ≤ 4 * j + 4 * f → 4 * j ≤ L + 3 → n ≤ j → JJn (n : Int) q M → kc ≤ 499 + j → ks ≤ 12140 + 6 * j → Okl g b L xs 28 (lv0 g b j) [] M kc ks := by
  intro f
  induction f with
  | zero =>
    intro j n q M kc ks hf h4 hn h hk hs
    refine l_iload 5 dL_law_28 rfl ?_
    refine l_aload_n 0 dL_law_30 rfl rfl ?_
    refine l_slen dL_law_31 ?_
    refine l_iconst 4 dL_law_32 rfl ?_
    refine l_isub dL_law_33 ?_
    refine l_icmp_gt (tgt := 2249) dL_law_34 (by decide) ⟨by omega, by omega⟩ ⟨by omega, by omega⟩ (fun _ => ?_) (fun w => absurd w (by omega))
    refine l_iconst 1 dL_law_2249 rfl ?_
    exact l_ret dL_law_2250 ⟨by omega, by omega⟩
  | succ f ih =>
    intro j n q M kc ks hf h4 hn h hk hs
    refine l_iload 5 dL_law_28 rfl ?_
    refine l_aload_n 0 dL_law_30 rfl rfl ?_
    refine l_slen dL_law_31 ?_
    refine l_iconst 4 dL_law_32 rfl ?_
    refine l_isub dL_law_33 ?_
    refine l_icmp_gt (tgt := 2249) dL_law_34 (by decide) ⟨by omega, by omega⟩ ⟨by omega, by omega⟩ (fun _ => ?_) (fun w => ?_)
    · refine l_iconst 1 dL_law_2249 rfl ?_
      exact l_ret dL_law_2250 ⟨by omega, by omega⟩
    · have hj : 4 * j + 4 ≤ L := by omega
      refine l_aload_n 0 dL_law_37 rfl rfl ?_
      refine l_iload 5 dL_law_38 rfl ?_
      refine l_sld (j := 4 * j) dL_law_40 (by omega) (by omega) hL ?_
      refine l_bipush 63 dL_law_41 rfl ?_
      refine l_iand dL_law_43 (fun z hz => ?_)
      have go : ∀ (n2 : Nat) (q2 : Int → List Int) (M2 : Mem), n2 ≤ j + 1 → JJn (n2 : Int) q2 M2 → Okl g b L xs 2243 (lv0 g b j) [] M2 (kc + 1) (ks + 6) := fun n2 q2 M2 h1 h2 => l_next (ih (j + 1) n2 q2 M2 (kc + 1) (ks + 6) (by omega) (by omega) h1 h2 (by omega) (by omega))
      by_cases hz0 : z < 0 ∨ 33 < z
      · exact l_tabOut (tgt := 2243) dL_law_44 hz hz0 (by decide) (l_room (Nat.le_add_right _ _) (Nat.le_add_right _ _) (go n q M (by omega) h))
      · refine lw_case hst hL hj h ⟨by omega, by omega⟩ ⟨by omega, by omega⟩ (fun q2 M2 h2 => ?_) hz (by omega) (by omega)
        exact go (n + 1) q2 M2 (by omega) (by rw [show ((n + 1 : Nat) : Int) = (n : Int) + 1 by omega]; exact h2)
end LL
