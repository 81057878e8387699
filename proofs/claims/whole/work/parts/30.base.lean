/-! ===== ints and longs as whole numbers ===== -/
theorem i0 : (0 : Int32) = iI 0 := by decide
theorem i1 : (1 : Int32) = iI 1 := by decide
theorem l0_ : (0 : Int64) = lI 0 := by decide
theorem nI_iI (n : Nat) : nI n = iI n := by
  unfold nI iI
  exact (Int32.ofInt_eq_ofNat).symm
theorem iI_add (a b : Int) : iI a + iI b = iI (a + b) := (Int32.ofInt_add a b).symm
theorem iI_sub (a b : Int) : iI a - iI b = iI (a - b) := by
  unfold iI
  rw [Int.sub_eq_add_neg, Int32.ofInt_add, Int32.ofInt_neg, Int32.sub_eq_add_neg]
theorem iI_mul (a b : Int) : iI a * iI b = iI (a * b) := (Int32.ofInt_mul a b).symm
theorem iI_neg (a : Int) : -iI a = iI (-a) := (Int32.ofInt_neg a).symm
theorem iI_t {a : Int} (h1 : -2147483648 ≤ a) (h2 : a < 2147483648) : (iI a).toInt = a := by
  unfold iI
  rw [Int32.toInt_ofInt]
  unfold Int.bmod
  omega
theorem iI_of (x : Int32) : iI x.toInt = x := Int32.ofInt_toInt x
theorem iI_r (x : Int32) : -2147483648 ≤ x.toInt ∧ x.toInt < 2147483648 := ⟨Int32.le_toInt x, Int32.toInt_lt x⟩
theorem iI_lt {a b : Int} (h1 : -2147483648 ≤ a) (h2 : a < 2147483648) (h3 : -2147483648 ≤ b) (h4 : b < 2147483648) : (iI a < iI b) = (a < b) := by
  rw [Int32.lt_iff_toInt_lt, iI_t h1 h2, iI_t h3 h4]
theorem iI_le {a b : Int} (h1 : -2147483648 ≤ a) (h2 : a < 2147483648) (h3 : -2147483648 ≤ b) (h4 : b < 2147483648) : (iI a ≤ iI b) = (a ≤ b) := by
  rw [Int32.le_iff_toInt_le, iI_t h1 h2, iI_t h3 h4]
theorem iI_eq {a b : Int} (h1 : -2147483648 ≤ a) (h2 : a < 2147483648) (h3 : -2147483648 ≤ b) (h4 : b < 2147483648) : (iI a = iI b) = (a = b) := by
  rw [← Int32.toInt_inj, iI_t h1 h2, iI_t h3 h4]
theorem iI_cl {a : Int} (h1 : -2147483648 ≤ a) (h2 : a < 2147483648) : (iI a).toNatClampNeg = a.toNat := by
  show (iI a).toInt.toNat = _
  rw [iI_t h1 h2]
theorem inB_i {a : Int} {N : Nat} (h1 : -2147483648 ≤ a) (h2 : a < 2147483648) : inB (iI a) N = decide (0 ≤ a ∧ a < N) := by
  unfold inB
  rw [i0, iI_cl h1 h2]
  have e := iI_lt h1 h2 (b := 0) (by omega) (by omega)
  simp only [e, ← decide_not, ← Bool.decide_and]
  exact decide_eq_decide.mpr ⟨fun h => by omega, fun h => by omega⟩
/-- a truth as an int -/
def bI (p : Prop) [Decidable p] : Int32 := if p then iI 1 else iI 0
theorem bI_0 {p : Prop} [Decidable p] : (bI p = 0) = ¬ p := by
  unfold bI
  by_cases h : p
  · rw [if_pos h]; simp only [h, not_true_eq_false, eq_iff_iff, iff_false]; decide
  · rw [if_neg h]; simp only [h, not_false_eq_true, eq_iff_iff, iff_true]; decide
theorem bI_ok {p : Prop} [Decidable p] : (bI p == 0 || bI p == 1) = true := by
  unfold bI
  by_cases h : p
  · rw [if_pos h]; decide
  · rw [if_neg h]; decide
theorem bI_T : bI True = iI 1 := rfl
theorem bI_F : bI False = iI 0 := rfl
theorem z1 : (iI 1 == 0 || iI 1 == 1) = true := by decide
theorem z0 : (iI 0 == 0 || iI 0 == 1) = true := by decide
theorem gI_I {ty : FieldType} {N : Nat} {f : Nat → Int32} {j : Int} (h1 : 0 ≤ j) (h2 : j < N) (h3 : j < 2147483648) : gI (some (aI ty N f)) (iI j) = some (f j.toNat) := by
  show (if inB (iI j) N then some (f (iI j).toNatClampNeg) else none) = _
  rw [inB_i (by omega) h3, iI_cl (by omega) h3, if_pos (decide_eq_true ⟨h1, h2⟩)]
theorem gL_L {N : Nat} {f : Nat → Int64} {j : Int} (h1 : 0 ≤ j) (h2 : j < N) (h3 : j < 2147483648) : gL (some (aL N f)) (iI j) = some (f j.toNat) := by
  show (if inB (iI j) N then some (f (iI j).toNatClampNeg) else none) = _
  rw [inB_i (by omega) h3, iI_cl (by omega) h3, if_pos (decide_eq_true ⟨h1, h2⟩)]
theorem sI_I {N : Nat} {f : Nat → Int32} {j : Int} {x : Int32} (h1 : 0 ≤ j) (h2 : j < N) (h3 : j < 2147483648) : sI (some (aI .int N f)) (iI j) x = some (aI .int N (upd f j.toNat x)) := by
  show (if inB (iI j) N then some (aI .int N (upd f (iI j).toNatClampNeg x)) else none) = _
  rw [inB_i (by omega) h3, iI_cl (by omega) h3, if_pos (decide_eq_true ⟨h1, h2⟩)]
theorem sL_L {N : Nat} {f : Nat → Int64} {j : Int} {x : Int64} (h1 : 0 ≤ j) (h2 : j < N) (h3 : j < 2147483648) : sL (some (aL N f)) (iI j) x = some (aL N (vp_updL f j.toNat x)) := by
  show (if inB (iI j) N then some (aL N (vp_updL f (iI j).toNatClampNeg x)) else none) = _
  rw [inB_i (by omega) h3, iI_cl (by omega) h3, if_pos (decide_eq_true ⟨h1, h2⟩)]
theorem gN_I {ty : FieldType} {N : Nat} {f : Nat → Int32} : gN (some (aI ty N f)) = some N := rfl
theorem gN_L {N : Nat} {f : Nat → Int64} : gN (some (aL N f)) = some N := rfl
theorem gN_P {ty : FieldType} {N : Nat} {f : Nat → Option Nat} : gN (some (aP ty N f)) = some N := rfl
/-! ===== the class's small methods ===== -/
section
variable {d : Nat} {h : aHf} {r : Nat × Nat × Nat}
theorem s_isWithin {v a b : Int} (h1 : -2147483648 ≤ v) (h2 : v < 2147483648) (h3 : -2147483648 ≤ a) (h4 : a < 2147483648) (h5 : -2147483648 ≤ b) (h6 : b < 2147483648) : aE (d + 1) 33 [.int (iI v), .int (iI a), .int (iI b)] (h, r) = some (.inl (some (.int (bI (a ≤ v ∧ v ≤ b)))), (h, r)) := by
  simp (disch := omega) only [e33, r33_0, r33_1, r33_2, r33_5, r33_6, r33_7, r33_10, r33_11, r33_14, r33_15, iI_lt, iI_le, bI]
  split <;> split <;> simp only [*, if_true, if_false, and_self, and_true, true_and, and_false, false_and, z1, z0] <;> omega
theorem s_longAt {c N : Nat} {f : Nat → Int64} {j : Int} (hc : h c = some (aL N f)) (hN : N < 2147483648) (h1 : -2147483648 ≤ j) (h2 : j < 2147483648) : aE (d + 1) 30 [.ref c, .int (iI j)] (h, r) = some (.inl (some (.long (if 0 ≤ j ∧ j < N then f j.toNat else lI 0))), (h, r)) := by
  simp (disch := omega) only [e30, r30_0, r30_1, r30_1n, r30_4, r30_5, r30_8, r30_9, r30_10, r30_11, r30_14, r30_15, r30_16, r30_17, r30_20, r30_21, hc, gN_L, Option.bind_some, nI_iI, i0, iI_lt, iI_le]
  split
  · rw [if_neg (by omega)]
  · split
    · rw [if_neg (by omega)]
    · simp (disch := omega) only [gL_L, Option.bind_some, r30_17, r30_21]
      rw [if_pos (by omega)]
end
