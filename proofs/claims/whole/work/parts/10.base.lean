def kT0 : List (Nat × Nat) := [(8, 14), (5, 4), (21, 20), (20, 20), (20, 20), (3, 4), (20, 4), (20, 6), (30, 5), (31, 40), (2, 7), (20, 4), (20, 6), (7, 4), (20, 1440), (20, 240), (20, 240), (0, 6), (21, 40), (33, 4), (20, 40), (20, 40), (20, 40), (20, 40), (20, 4), (20, 4), (20, 4), (1, 7), (20, 40), (20, 40), (20, 8), (20, 8), (20, 8), (20, 8), (1, 7), (20, 40), (20, 40), (20, 8), (20, 8), (20, 8), (20, 8), (1, 7), (20, 40), (20, 40), (20, 8), (20, 8), (20, 8), (20, 8)]
def kTP : List (Nat × Nat) := [(4, 4), (32, 6), (3, 4), (20, 4), (20, 6), (3, 4), (20, 4), (20, 6), (3, 4), (20, 4), (20, 6), (3, 4), (20, 4), (20, 6), (3, 4), (20, 4), (20, 6), (3, 4), (20, 4), (20, 6)]
def kTR : List (Nat × Nat) := [(6, 10), (5, 4), (21, 20), (20, 20), (20, 20), (21, 6), (20, 6), (20, 6)]
def kTM : List (Nat × Nat) := [(9, 38), (21, 20), (20, 20), (20, 20), (20, 4), (20, 6), (20, 5), (20, 5), (20, 5), (20, 120), (20, 30), (20, 180), (20, 30), (20, 40), (20, 40), (20, 40), (20, 40), (21, 800), (20, 800), (20, 800), (21, 240), (20, 240), (20, 1440), (20, 240), (20, 4), (21, 40), (20, 40), (20, 4), (22, 40), (23, 1), (24, 1)]
def sk0 : List (Nat × Int × Nat × Nat) := [(1, 1, 21, 40), (1, 2, 33, 4), (1, 7, 20, 4), (1, 8, 20, 4), (1, 9, 20, 4), (0, 0, 0, 0)]
def sk1 : List (Nat × Int × Nat × Nat) := [(1, 1, 20, 40), (1, 2, 20, 40), (1, 3, 20, 8), (1, 4, 20, 8), (1, 5, 20, 8), (1, 6, 20, 8), (0, 0, 0, 0)]
def sk2 : List (Nat × Int × Nat × Nat) := [(1, 1, 20, 4), (1, 2, 20, 6), (0, 0, 0, 0), (0, 0, 0, 0), (0, 0, 0, 0), (0, 0, 0, 0), (0, 0, 0, 0)]
def sk3 : List (Nat × Int × Nat × Nat) := [(1, 1, 20, 4), (1, 2, 20, 6), (0, 0, 0, 0), (0, 0, 0, 0)]
def sk4 : List (Nat × Int × Nat × Nat) := [(1, 1, 32, 6), (0, 0, 0, 0), (0, 0, 0, 0), (0, 0, 0, 0)]
def sk5 : List (Nat × Int × Nat × Nat) := [(1, 1, 21, 20), (1, 2, 20, 20), (1, 3, 20, 20), (0, 0, 0, 0)]
def sk6 : List (Nat × Int × Nat × Nat) := [(1, 1, 5, 4), (1, 5, 21, 6), (1, 6, 20, 6), (1, 7, 20, 6), (0, 0, 0, 0), (0, 0, 0, 0), (0, 0, 0, 0), (0, 0, 0, 0), (0, 0, 0, 0), (0, 0, 0, 0)]
def sk7 : List (Nat × Int × Nat × Nat) := [(1, 1, 20, 1440), (1, 2, 20, 240), (1, 3, 20, 240), (0, 0, 0, 0)]
def sk8 : List (Nat × Int × Nat × Nat) := [(1, 1, 5, 4), (1, 5, 3, 4), (1, 8, 30, 5), (1, 9, 31, 40), (1, 10, 2, 7), (1, 13, 7, 4), (1, 17, 0, 6), (1, 27, 1, 7), (1, 34, 1, 7), (1, 41, 1, 7), (0, 0, 0, 0), (0, 0, 0, 0), (0, 0, 0, 0), (0, 0, 0, 0)]
def sk9 : List (Nat × Int × Nat × Nat) := [(0, 0, 0, 0), (0, 0, 0, 0), (1, 1, 21, 20), (1, 2, 20, 20), (1, 3, 20, 20), (0, 0, 0, 0), (0, 0, 0, 0), (1, 4, 20, 4), (1, 5, 20, 6), (0, 0, 0, 0), (1, 6, 20, 5), (1, 7, 20, 5), (1, 8, 20, 5), (1, 9, 20, 120), (1, 10, 20, 30), (1, 11, 20, 180), (1, 12, 20, 30), (0, 0, 0, 0), (0, 0, 0, 0), (1, 13, 20, 40), (1, 14, 20, 40), (1, 15, 20, 40), (1, 16, 20, 40), (1, 17, 21, 800), (1, 18, 20, 800), (1, 19, 20, 800), (1, 20, 21, 240), (1, 21, 20, 240), (1, 22, 20, 1440), (1, 23, 20, 240), (1, 24, 20, 4), (1, 25, 21, 40), (1, 26, 20, 40), (1, 27, 20, 4), (0, 0, 0, 0), (0, 0, 0, 0), (0, 0, 0, 0), (1, 28, 22, 40)]
/-- all ints are Int32.ofInt of an integer; the memory: object, place -> integer -/
abbrev Mem : Type := Int → Int → Int
/-- the launch, the base address, where classes and array classes lie -/
abbrev GG : Type := Launch × Nat × va_G × (Nat → ClassId)
def iZ (z : Int) : Int32 := Int32.ofInt z
abbrev iv (z : Int) : Value := .int (iZ z)
abbrev rv (g : GG) (o : Int) : Value := .ref (g.2.1 + o.toNat)
abbrev kcl : List vw_C := [(RX0, TX0, 6), (RX1, TX1, 7), (RX2, TX2, 7), (RX3, TX3, 4), (RX4, TX4, 4), (RX5, TX5, 4), (RX6, TX6, 10), (RX7, TX7, 4), (RX8, TX8, 14), (RX9, TX9, 38)]
def kdN (n : Nat) : Nat × Nat := if n < 48 then kT0.getD n (99, 0) else if n < 148 then kTP.getD ((n - 48) % 20) (99, 0) else if n < 468 then kTR.getD ((n - 148) % 8) (99, 0) else kTM.getD (n - 468) (99, 0)
def kd (o : Int) : Nat × Nat := kdN o.toNat
/-- what a place holds: 0 an int, 1 a reference so much further on and to what, 2 a long, 3 a double -/
def sk (t k : Nat) : Nat × Int × Nat × Nat := match t with
  | 0 => sk0.getD k (0, 0, 0, 0)
  | 1 => sk1.getD k (0, 0, 0, 0)
  | 2 => sk2.getD k (0, 0, 0, 0)
  | 3 => sk3.getD k (0, 0, 0, 0)
  | 4 => sk4.getD k (0, 0, 0, 0)
  | 5 => sk5.getD k (0, 0, 0, 0)
  | 6 => sk6.getD k (0, 0, 0, 0)
  | 7 => sk7.getD k (0, 0, 0, 0)
  | 8 => sk8.getD k (0, 0, 0, 0)
  | 9 => sk9.getD k (0, 0, 0, 0)
  | 23 => (2, 0, 0, 0)
  | 24 => (3, 0, 0, 0)
  | 30 => (1, 40 + 20 * (k : Int), 4, 4)
  | 31 => (1, 139 + 8 * (k : Int), 6, 10)
  | 32 => (1, 1 + 3 * (k : Int), 3, 4)
  | 33 => (1, 1 + (k : Int), 20, 40)
  | _ => (0, 0, 0, 0)
def vl (g : GG) (o : Int) (t k : Nat) (z : Int) : Value := if (sk t k).1 = 0 then iv z else if (sk t k).1 = 1 then rv g (o + (sk t k).2.1) else if (sk t k).1 = 2 then .long (Int64.ofInt z) else .double (UInt64.ofNat z.toNat)
def OB (g : GG) (o : Int) (tn : Nat × Nat) (V : Nat → Value) (H : Heap) : Prop := if tn.1 < 10 then t_OB (g.2.1 + o.toNat) (g.2.2.1.1 tn.1) tn.2 (g.2.2.1.2 tn.1) H V else H[g.2.1 + o.toNat]? = some (arrV (g.2.2.2 tn.1) tn.2 V)
def rg (z : Int) : Prop := -2147483648 ≤ z ∧ z < 2147483648
def HP (g : GG) (M : Mem) (H : Heap) : Prop := (∀ o k : Int, o < 497 → rg (M o k)) ∧ ∀ o : Int, 0 ≤ o → o < 499 → OB g o (kd o) (fun k => vl g o (kd o).1 k (M o k)) H
def isK (t n : Nat) (o : Int) : Prop := 0 ≤ o ∧ o < 499 ∧ kd o = (t, n)
def clB (n k : Nat) : Bool := if (sk (kdN n).1 k).1 = 1 then decide (0 ≤ (sk (kdN n).1 k).2.1) && decide (n + (sk (kdN n).1 k).2.1.toNat < 499) && decide (kdN (n + (sk (kdN n).1 k).2.1.toNat) = ((sk (kdN n).1 k).2.2.1, (sk (kdN n).1 k).2.2.2)) else true
theorem clB_ok : (List.range 499).all (fun n => (List.range (kdN n).2).all (fun k => clB n k)) = true := by decide +kernel
theorem isK.ref {t n t' n' : Nat} {o d : Int} (h : isK t n o) (k : Nat) (hk : k < n) (hs : sk t k = (1, d, t', n')) : isK t' n' (o + d) := by
  obtain ⟨h0, h1, h2⟩ := h
  have h3 := List.all_eq_true.mp clB_ok o.toNat (List.mem_range.mpr (by omega))
  have hkd : kdN o.toNat = (t, n) := h2
  have h4 := List.all_eq_true.mp h3 k (List.mem_range.mpr (by rw [hkd]; exact hk))
  simp only [clB, hkd, hs, if_true, Bool.and_eq_true, decide_eq_true_eq] at h4
  obtain ⟨⟨a1, a2⟩, a3⟩ := h4
  refine ⟨by omega, by omega, ?_⟩
  show kdN (o + d).toNat = _
  rw [show (o + d).toNat = o.toNat + d.toNat by omega]
  exact a3
def up (M : Mem) (o k v : Int) : Mem := fun o' k' => if o' = o ∧ k' = k then v else M o' k'
theorem up_s (M : Mem) (o k v : Int) : up M o k v o k = v := by simp [up]
theorem up_o {M : Mem} {o k v o' k' : Int} (h : o' ≠ o) : up M o k v o' k' = M o' k' := by simp [up, h]
theorem up_k {M : Mem} {o k v o' k' : Int} (h : k' ≠ k) : up M o k v o' k' = M o' k' := by simp [up, h]
theorem up_n {M : Mem} {o k v o' k' : Int} (h : ¬ (o' = o ∧ k' = k)) : up M o k v o' k' = M o' k' := by simp only [up, if_neg h]
/-! ints -/
theorem iZ_add (a b : Int) : iZ a + iZ b = iZ (a + b) := (Int32.ofInt_add a b).symm
theorem iZ_sub (a b : Int) : iZ a - iZ b = iZ (a - b) := (Int32.ofInt_sub a b).symm
theorem iZ_mul (a b : Int) : iZ a * iZ b = iZ (a * b) := (Int32.ofInt_mul a b).symm
theorem iZ_ti {z : Int} (h : rg z) : (iZ z).toInt = z := Int32.toInt_ofInt_of_le (by have := h.1; omega) (by have := h.2; omega)
theorem iZ_of (x : Int32) : iZ x.toInt = x := Int32.ofInt_toInt x
theorem rg_of (x : Int32) : rg x.toInt := ⟨by have := Int32.le_toInt x; omega, by have := Int32.toInt_lt x; omega⟩
theorem iZ_lt {a b : Int} (ha : rg a) (hb : rg b) : iZ a < iZ b ↔ a < b := by rw [Int32.lt_iff_toInt_lt, iZ_ti ha, iZ_ti hb]
theorem iZ_le {a b : Int} (ha : rg a) (hb : rg b) : iZ a ≤ iZ b ↔ a ≤ b := by rw [Int32.le_iff_toInt_le, iZ_ti ha, iZ_ti hb]
theorem iZ_eq {a b : Int} (ha : rg a) (hb : rg b) : iZ a = iZ b ↔ a = b := by rw [← Int32.toInt_inj, iZ_ti ha, iZ_ti hb]
theorem iZ_0 : iZ 0 = 0 := rfl
theorem iZ_cl {z : Int} (h0 : 0 ≤ z) (h1 : z < 2147483648) : (iZ z).toNatClampNeg = z.toNat := Int32.toNatClampNeg_ofInt_of_le (by omega) (by omega)
theorem iZ_in {z : Int} {n : Nat} (h0 : 0 ≤ z) (h1 : z < n) (hn : n < 2147483648) : ¬ (iZ z < 0 ∨ n ≤ (iZ z).toNatClampNeg) := by
  rw [iZ_cl h0 (by omega)]
  rintro (h | h)
  · rw [← iZ_0, iZ_lt ⟨by omega, by omega⟩ ⟨by omega, by omega⟩] at h; omega
  · omega
theorem rg_0 : rg 0 := ⟨by omega, by omega⟩
