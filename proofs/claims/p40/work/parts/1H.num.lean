/-! ===== ints and longs as whole numbers ===== -/
theorem i0 : (0 : Int32) = iI 0 := by decide
theorem i1 : (1 : Int32) = iI 1 := by decide
theorem l0_ : (0 : Int64) = lI 0 := by decide
theorem nI_iI (n : Nat) : nI n = iI n := by
  unfold nI iI
  exact (Int32.ofInt_eq_ofNat).symm
theorem iI_add (a b : Int) : iI a + iI b = iI (a + b) := (Int32.ofInt_add a b).symm
theorem iI_sub (a b : Int) : iI a - iI b = iI (a - b) := by
  unfold iI
  rw [Int.sub_eq_add_neg, Int32.ofInt_add, Int32.ofInt_neg, Int32.sub_eq_add_neg]
theorem iI_mul (a b : Int) : iI a * iI b = iI (a * b) := (Int32.ofInt_mul a b).symm
theorem iI_neg (a : Int) : -iI a = iI (-a) := (Int32.ofInt_neg a).symm
theorem iI_t {a : Int} (h1 : -2147483648 ≤ a) (h2 : a < 2147483648) : (iI a).toInt = a := by
  exact Int32.toInt_ofInt_of_le (by omega) (by omega)
theorem iI_of (x : Int32) : iI x.toInt = x := Int32.ofInt_toInt x
theorem iI_r (x : Int32) : -2147483648 ≤ x.toInt ∧ x.toInt < 2147483648 := ⟨Int32.le_toInt x, Int32.toInt_lt x⟩
theorem iI_lt {a b : Int} (h1 : -2147483648 ≤ a) (h2 : a < 2147483648) (h3 : -2147483648 ≤ b) (h4 : b < 2147483648) : (iI a < iI b) = (a < b) := by
  rw [Int32.lt_iff_toInt_lt, iI_t h1 h2, iI_t h3 h4]
theorem iI_le {a b : Int} (h1 : -2147483648 ≤ a) (h2 : a < 2147483648) (h3 : -2147483648 ≤ b) (h4 : b < 2147483648) : (iI a ≤ iI b) = (a ≤ b) := by
  rw [Int32.le_iff_toInt_le, iI_t h1 h2, iI_t h3 h4]
theorem iI_eq {a b : Int} (h1 : -2147483648 ≤ a) (h2 : a < 2147483648) (h3 : -2147483648 ≤ b) (h4 : b < 2147483648) : (iI a = iI b) = (a = b) := by
  rw [← Int32.toInt_inj, iI_t h1 h2, iI_t h3 h4]
theorem iI_cl {a : Int} (h1 : -2147483648 ≤ a) (h2 : a < 2147483648) : (iI a).toNatClampNeg = a.toNat := by
  show (iI a).toInt.toNat = _
  rw [iI_t h1 h2]
theorem iI_td {a b : Int} (h1 : -2147483648 < a) (h2 : a < 2147483648) (h3 : -2147483648 ≤ b) (h4 : b < 2147483648) : iI a / iI b = iI (a.tdiv b) := by
  have e : (iI a / iI b).toInt = a.tdiv b := by
    rw [Int32.toInt_div_of_ne_left _ _ (fun h => by
      have := congrArg Int32.toInt h
      rw [iI_t (by omega) h2] at this
      have e2 : Int32.minValue.toInt = -2147483648 := by decide
      omega), iI_t (by omega) h2, iI_t h3 h4]
  rw [← iI_of (iI a / iI b), e]
/-- a division by more than nothing -/
theorem iI_div {a b : Int} (h1 : 0 ≤ a) (h2 : a < 2147483648) (h3 : 0 < b) (h4 : b < 2147483648) : iI a / iI b = iI (a / b) := by
  rw [iI_td (by omega) h2 (by omega) h4, Int.tdiv_eq_ediv_of_nonneg h1]
theorem inB_i {a : Int} {N : Nat} (h1 : -2147483648 ≤ a) (h2 : a < 2147483648) : inB (iI a) N = decide (0 ≤ a ∧ a < N) := by
  unfold inB
  rw [i0, iI_cl h1 h2]
  have e := iI_lt h1 h2 (b := 0) (by omega) (by omega)
  simp only [e, ← decide_not, ← Bool.decide_and]
  exact decide_eq_decide.mpr ⟨fun h => by omega, fun h => by omega⟩
/-! longs -/
theorem lI_add (a b : Int) : lI a + lI b = lI (a + b) := (Int64.ofInt_add a b).symm
theorem lI_sub (a b : Int) : lI a - lI b = lI (a - b) := by
  unfold lI
  rw [Int.sub_eq_add_neg, Int64.ofInt_add, Int64.ofInt_neg, Int64.sub_eq_add_neg]
theorem lI_mul (a b : Int) : lI a * lI b = lI (a * b) := (Int64.ofInt_mul a b).symm
theorem lI_t {a : Int} (h1 : -9223372036854775808 ≤ a) (h2 : a < 9223372036854775808) : (lI a).toInt = a := by
  exact Int64.toInt_ofInt_of_le (by omega) (by omega)
theorem lI_of (x : Int64) : lI x.toInt = x := Int64.ofInt_toInt x
theorem lI_lt {a b : Int} (h1 : -9223372036854775808 ≤ a) (h2 : a < 9223372036854775808) (h3 : -9223372036854775808 ≤ b) (h4 : b < 9223372036854775808) : (lI a < lI b) = (a < b) := by
  rw [Int64.lt_iff_toInt_lt, lI_t h1 h2, lI_t h3 h4]
theorem lI_le {a b : Int} (h1 : -9223372036854775808 ≤ a) (h2 : a < 9223372036854775808) (h3 : -9223372036854775808 ≤ b) (h4 : b < 9223372036854775808) : (lI a ≤ lI b) = (a ≤ b) := by
  rw [Int64.le_iff_toInt_le, lI_t h1 h2, lI_t h3 h4]
theorem lI_eq {a b : Int} (h1 : -9223372036854775808 ≤ a) (h2 : a < 9223372036854775808) (h3 : -9223372036854775808 ≤ b) (h4 : b < 9223372036854775808) : (lI a = lI b) = (a = b) := by
  rw [← Int64.toInt_inj, lI_t h1 h2, lI_t h3 h4]
theorem lI_td {a b : Int} (h1 : -9223372036854775808 < a) (h2 : a < 9223372036854775808) (h3 : -9223372036854775808 ≤ b) (h4 : b < 9223372036854775808) : lI a / lI b = lI (a.tdiv b) := by
  have e : (lI a / lI b).toInt = a.tdiv b := by
    rw [Int64.toInt_div_of_ne_left _ _ (fun h => by
      have := congrArg Int64.toInt h
      rw [lI_t (by omega) h2] at this
      have e2 : Int64.minValue.toInt = -9223372036854775808 := by decide
      omega), lI_t (by omega) h2, lI_t h3 h4]
  rw [← lI_of (lI a / lI b), e]
theorem lI_div {a b : Int} (h1 : 0 ≤ a) (h2 : a < 9223372036854775808) (h3 : 0 < b) (h4 : b < 9223372036854775808) : lI a / lI b = lI (a / b) := by
  rw [lI_td (by omega) h2 (by omega) h4, Int.tdiv_eq_ediv_of_nonneg h1]
theorem l_i (a : Int) : (lI a).toInt32 = iI a := Int64.toInt32_ofInt
theorem i_l {a : Int} (h1 : -2147483648 ≤ a) (h2 : a < 2147483648) : (iI a).toInt64 = lI a := by
  rw [← lI_of (iI a).toInt64, Int32.toInt_toInt64, iI_t h1 h2]
/-- a comparison of longs -/
theorem lc_lt (x y : Int64) : (lg_cmp x y < iI 0) = (x < y) := by
  unfold lg_cmp
  simp only [gt_iff_lt, Int64.lt_iff_toInt_lt, ← Int64.toInt_inj]
  repeat' split
  all_goals (apply propext; constructor <;> intro hh <;> first | omega | decide | exact absurd hh (by decide))
theorem lc_gt (x y : Int64) : (iI 0 < lg_cmp x y) = (y < x) := by
  unfold lg_cmp
  simp only [gt_iff_lt, Int64.lt_iff_toInt_lt, ← Int64.toInt_inj]
  repeat' split
  all_goals (apply propext; constructor <;> intro hh <;> first | omega | decide | exact absurd hh (by decide))
theorem lc_le (x y : Int64) : (lg_cmp x y ≤ iI 0) = (x ≤ y) := propext (lg_cmp_le x y)
theorem lc_ge (x y : Int64) : (iI 0 ≤ lg_cmp x y) = (y ≤ x) := propext (lg_cmp_ge x y)
theorem lc_eq (x y : Int64) : (lg_cmp x y = iI 0) = (x = y) := by
  unfold lg_cmp
  simp only [gt_iff_lt, Int64.lt_iff_toInt_lt, ← Int64.toInt_inj]
  repeat' split
  all_goals (apply propext; constructor <;> intro hh <;> first | omega | decide | exact absurd hh (by decide))
/-! bits -/
theorem ln_bv {n : Nat} : (lI n).toBitVec = BitVec.ofNat 64 n := by
  show (Int64.ofInt n).toBitVec = _
  rw [Int64.toBitVec_ofInt, BitVec.ofInt_natCast]
theorem in_bv {n : Nat} : (iI n).toBitVec = BitVec.ofNat 32 n := by
  show (Int32.ofInt n).toBitVec = _
  rw [Int32.toBitVec_ofInt, BitVec.ofInt_natCast]
theorem sm64 {k : Nat} (hk : k < 64) : ((iI k).toInt64 &&& 63).toBitVec.smod 64 = BitVec.ofNat 64 k := by
  have : ∀ k : Fin 64, ((iI (k.val : Nat)).toInt64 &&& 63).toBitVec.smod 64 = BitVec.ofNat 64 k.val := by decide +kernel
  exact this ⟨k, hk⟩
theorem sm32 {k : Nat} (hk : k < 32) : (iI k &&& 31).toBitVec.smod 32 = BitVec.ofNat 32 k := by
  have : ∀ k : Fin 32, (iI (k.val : Nat) &&& 31).toBitVec.smod 32 = BitVec.ofNat 32 k.val := by decide +kernel
  exact this ⟨k, hk⟩
/-- a long shifted right, its sign kept -/
theorem lshr {a : Int} (k : Nat) (hk : k < 64) (h1 : -9223372036854775808 ≤ a) (h2 : a < 9223372036854775808) : lI a >>> ((iI k).toInt64 &&& 63) = lI (a / 2 ^ k) := by
  have e : (lI a >>> ((iI k).toInt64 &&& 63)).toInt = a / 2 ^ k := by
    show (lI a >>> ((iI k).toInt64 &&& 63)).toBitVec.toInt = _
    rw [Int64.toBitVec_shiftRight, sm64 hk, BitVec.toInt_sshiftRight']
    show (lI a).toInt >>> _ = _
    rw [lI_t h1 h2, BitVec.toNat_ofNat, Nat.mod_eq_of_lt (by omega), Int.shiftRight_eq_div_pow]
    norm_cast
  rw [← lI_of (lI a >>> _), e]
theorem lshl (a : Int) (k : Nat) (hk : k < 64) : lI a <<< ((iI k).toInt64 &&& 63) = lI (a * 2 ^ k) := by
  apply Int64.toBitVec.inj
  rw [Int64.toBitVec_shiftLeft, sm64 hk]
  show BitVec.ofInt 64 a <<< (BitVec.ofNat 64 k) = BitVec.ofInt 64 (a * 2 ^ k)
  rw [BitVec.shiftLeft_eq', BitVec.toNat_ofNat, Nat.mod_eq_of_lt (by omega)]
  apply BitVec.eq_of_toInt_eq
  rw [BitVec.toInt_shiftLeft, BitVec.toInt_ofInt, BitVec.toNat_ofInt, Nat.shiftLeft_eq]
  rw [show (((a % ((2 ^ 64 : Nat) : Int)).toNat * 2 ^ k : Nat) : Int) = (a % ((2 ^ 64 : Nat) : Int)) * 2 ^ k by
    rw [Int.natCast_mul, Int.toNat_of_nonneg (Int.emod_nonneg _ (by decide)), Int.natCast_pow]; rfl]
  exact Int.emod_mul_bmod _ _
theorem ishl (a : Int) (k : Nat) (hk : k < 32) : iI a <<< (iI k &&& 31) = iI (a * 2 ^ k) := by
  apply Int32.toBitVec.inj
  rw [Int32.toBitVec_shiftLeft, sm32 hk]
  show BitVec.ofInt 32 a <<< (BitVec.ofNat 32 k) = BitVec.ofInt 32 (a * 2 ^ k)
  rw [BitVec.shiftLeft_eq', BitVec.toNat_ofNat, Nat.mod_eq_of_lt (by omega)]
  apply BitVec.eq_of_toInt_eq
  rw [BitVec.toInt_shiftLeft, BitVec.toInt_ofInt, BitVec.toNat_ofInt, Nat.shiftLeft_eq]
  rw [show (((a % ((2 ^ 32 : Nat) : Int)).toNat * 2 ^ k : Nat) : Int) = (a % ((2 ^ 32 : Nat) : Int)) * 2 ^ k by
    rw [Int.natCast_mul, Int.toNat_of_nonneg (Int.emod_nonneg _ (by decide)), Int.natCast_pow]; rfl]
  exact Int.emod_mul_bmod _ _
/-- the lowest bits -/
theorem iand {a : Int} (k : Nat) (hk : k < 31) (h1 : 0 ≤ a) : iI a &&& iI (2 ^ k - 1 : Nat) = iI (a % 2 ^ k) := by
  obtain ⟨n, rfl⟩ := Int.eq_ofNat_of_zero_le h1
  apply Int32.toBitVec.inj
  rw [Int32.toBitVec_and, in_bv, in_bv, show ((n : Int) % 2 ^ k) = ((n % 2 ^ k : Nat) : Int) by norm_cast, in_bv]
  apply BitVec.eq_of_toNat_eq
  have hp : 2 ^ k < 2 ^ 32 := Nat.pow_lt_pow_right (by decide) (by omega)
  have hp0 : 0 < 2 ^ k := Nat.two_pow_pos k
  have h3 : n % 2 ^ k < 2 ^ k := Nat.mod_lt _ hp0
  rw [BitVec.toNat_and, BitVec.toNat_ofNat, BitVec.toNat_ofNat, BitVec.toNat_ofNat, Nat.mod_eq_of_lt (a := 2 ^ k - 1) (by omega), Nat.and_two_pow_sub_one_eq_mod, Nat.mod_eq_of_lt (a := n % 2 ^ k) (by omega)]
  exact Nat.mod_mod_of_dvd n (Nat.pow_dvd_pow 2 (by omega))
theorem land {a : Int} (k : Nat) (hk : k < 63) (h1 : 0 ≤ a) : lI a &&& lI (2 ^ k - 1 : Nat) = lI (a % 2 ^ k) := by
  obtain ⟨n, rfl⟩ := Int.eq_ofNat_of_zero_le h1
  apply Int64.toBitVec.inj
  rw [Int64.toBitVec_and, ln_bv, ln_bv, show ((n : Int) % 2 ^ k) = ((n % 2 ^ k : Nat) : Int) by norm_cast, ln_bv]
  apply BitVec.eq_of_toNat_eq
  have hp : 2 ^ k < 2 ^ 64 := Nat.pow_lt_pow_right (by decide) (by omega)
  have hp0 : 0 < 2 ^ k := Nat.two_pow_pos k
  have h3 : n % 2 ^ k < 2 ^ k := Nat.mod_lt _ hp0
  rw [BitVec.toNat_and, BitVec.toNat_ofNat, BitVec.toNat_ofNat, BitVec.toNat_ofNat, Nat.mod_eq_of_lt (a := 2 ^ k - 1) (by omega), Nat.and_two_pow_sub_one_eq_mod, Nat.mod_eq_of_lt (a := n % 2 ^ k) (by omega)]
  exact Nat.mod_mod_of_dvd n (Nat.pow_dvd_pow 2 (by omega))
/-- bits that lie apart -/
theorem lor {a b : Int} (k : Nat) (h1 : 0 ≤ a) (h2 : 0 ≤ b) (h3 : b < 2 ^ k) (h4 : a * 2 ^ k + b < 9223372036854775808) : lI (a * 2 ^ k) ||| lI b = lI (a * 2 ^ k + b) := by
  obtain ⟨n, rfl⟩ := Int.eq_ofNat_of_zero_le h1
  obtain ⟨m, rfl⟩ := Int.eq_ofNat_of_zero_le h2
  have h3' : m < 2 ^ k := by
    rw [show (2 : Int) ^ k = ((2 ^ k : Nat) : Int) by rw [Int.natCast_pow]; rfl] at h3
    exact Int.ofNat_lt.mp h3
  obtain ⟨N, hN⟩ : ∃ N, N = n * 2 ^ k := ⟨_, rfl⟩
  have e : (N : Int) = (n : Int) * 2 ^ k := by rw [hN, Int.natCast_mul, Int.natCast_pow]; rfl
  rw [← e] at h4 ⊢
  have e2 : (N : Int) + (m : Int) = ((N + m : Nat) : Int) := (Int.natCast_add N m).symm
  rw [e2] at h4 ⊢
  have h5 : N + m < 18446744073709551616 := by omega
  have h6 : N < 18446744073709551616 := by omega
  have h7 : m < 18446744073709551616 := by omega
  apply Int64.toBitVec.inj
  rw [Int64.toBitVec_or, ln_bv, ln_bv, ln_bv]
  apply BitVec.eq_of_toNat_eq
  rw [BitVec.toNat_or, BitVec.toNat_ofNat, BitVec.toNat_ofNat, BitVec.toNat_ofNat]
  rw [Nat.mod_eq_of_lt (show N < 2 ^ 64 from h6), Nat.mod_eq_of_lt (show m < 2 ^ 64 from h7), Nat.mod_eq_of_lt (show N + m < 2 ^ 64 from h5), hN, Nat.mul_comm n, Nat.two_pow_add_eq_or_of_lt h3']
/-! a truth as an int -/
def bI (p : Prop) [Decidable p] : Int32 := if p then iI 1 else iI 0
theorem bI_0 {p : Prop} [Decidable p] : (bI p = iI 0) = ¬ p := by
  unfold bI
  by_cases h : p
  · rw [if_pos h]; simp only [h, not_true_eq_false, eq_iff_iff, iff_false]; decide
  · rw [if_neg h]; simp only [h, not_false_eq_true, eq_iff_iff, iff_true]
theorem bI_ok {p : Prop} [Decidable p] : (bI p == iI 0 || bI p == iI 1) = true := by
  unfold bI
  by_cases h : p
  · rw [if_pos h]; decide
  · rw [if_neg h]; decide
theorem bI_T {p : Prop} [Decidable p] (h : p) : iI 1 = bI p := (if_pos h).symm
theorem bI_F {p : Prop} [Decidable p] (h : ¬ p) : iI 0 = bI p := (if_neg h).symm
theorem z1 : (iI 1 == iI 0 || iI 1 == iI 1) = true := by decide
theorem z0 : (iI 0 == iI 0 || iI 0 == iI 1) = true := by decide
/-! cells -/
theorem gI_I {N : Nat} {f : Nat → Int32} {j : Int} (h1 : 0 ≤ j) (h2 : j < N) (h3 : j < 2147483648) : gI (some (aI .int N f)) (iI j) = some (f j.toNat) := by
  show (if inB (iI j) N then some (f (iI j).toNatClampNeg) else none) = _
  rw [inB_i (by omega) h3, iI_cl (by omega) h3, if_pos (decide_eq_true ⟨h1, h2⟩)]
theorem gI_F {N : Nat} {f : Nat → Int32} {j : Int} (h1 : 0 ≤ j) (h2 : j < N) (h3 : j < 2147483648) : gI (some (aI .float N f)) (iI j) = some (f j.toNat) := by
  show (if inB (iI j) N then some (f (iI j).toNatClampNeg) else none) = _
  rw [inB_i (by omega) h3, iI_cl (by omega) h3, if_pos (decide_eq_true ⟨h1, h2⟩)]
theorem gL_L {N : Nat} {f : Nat → Int64} {j : Int} (h1 : 0 ≤ j) (h2 : j < N) (h3 : j < 2147483648) : gL (some (aL N f)) (iI j) = some (f j.toNat) := by
  show (if inB (iI j) N then some (f (iI j).toNatClampNeg) else none) = _
  rw [inB_i (by omega) h3, iI_cl (by omega) h3, if_pos (decide_eq_true ⟨h1, h2⟩)]
theorem gZ_Z {N : Nat} {f : Nat → Int32} {j : Int} (h1 : 0 ≤ j) (h2 : j < N) (h3 : j < 2147483648) : gZ (some (aI .boolean N f)) (iI j) = some (f j.toNat) := by
  show (if inB (iI j) N then some (f (iI j).toNatClampNeg) else none) = _
  rw [inB_i (by omega) h3, iI_cl (by omega) h3, if_pos (decide_eq_true ⟨h1, h2⟩)]
theorem gP_P {ty : FieldType} {N : Nat} {f : Nat → Option Nat} {j : Int} (h1 : 0 ≤ j) (h2 : j < N) (h3 : j < 2147483648) : gP (some (aP ty N f)) (iI j) = some (va_rf (f j.toNat)) := by
  show (if inB (iI j) N then some (va_rf (f (iI j).toNatClampNeg)) else none) = _
  rw [inB_i (by omega) h3, iI_cl (by omega) h3, if_pos (decide_eq_true ⟨h1, h2⟩)]
theorem sI_I {N : Nat} {f : Nat → Int32} {j : Int} {x : Int32} (h1 : 0 ≤ j) (h2 : j < N) (h3 : j < 2147483648) : sI (some (aI .int N f)) (iI j) x = some (aI .int N (upd f j.toNat x)) := by
  show (if inB (iI j) N then some (aI .int N (upd f (iI j).toNatClampNeg x)) else none) = _
  rw [inB_i (by omega) h3, iI_cl (by omega) h3, if_pos (decide_eq_true ⟨h1, h2⟩)]
theorem sL_L {N : Nat} {f : Nat → Int64} {j : Int} {x : Int64} (h1 : 0 ≤ j) (h2 : j < N) (h3 : j < 2147483648) : sL (some (aL N f)) (iI j) x = some (aL N (vp_updL f j.toNat x)) := by
  show (if inB (iI j) N then some (aL N (vp_updL f (iI j).toNatClampNeg x)) else none) = _
  rw [inB_i (by omega) h3, iI_cl (by omega) h3, if_pos (decide_eq_true ⟨h1, h2⟩)]
theorem gN_I {ty : FieldType} {N : Nat} {f : Nat → Int32} : gN (some (aI ty N f)) = some N := rfl
theorem gN_L {N : Nat} {f : Nat → Int64} : gN (some (aL N f)) = some N := rfl
theorem gN_P {ty : FieldType} {N : Nat} {f : Nat → Option Nat} : gN (some (aP ty N f)) = some N := rfl
theorem rvB {ci : Nat} {fs : List Value} : rv (some (aB ci fs)) ci = true := by
  show (ci == ci) = true
  simp
/-! fields by their places -/
theorem gFx {ci k : Nat} {fs : List Value} {v : Value} (h : fs[k]? = some v) : gF (some (aB ci fs)) ci k = some v := by
  show (if ci = ci then fs[k]? else none) = _
  rw [if_pos rfl, h]
theorem gB0 {ci : Nat} {v : Value} {l : List Value} : gF (some (aB ci (v :: l))) ci 0 = some v := gFx rfl
theorem gB1 {ci : Nat} {a v : Value} {l : List Value} : gF (some (aB ci (a :: v :: l))) ci 1 = some v := gFx rfl
theorem gB2 {ci : Nat} {a b v : Value} {l : List Value} : gF (some (aB ci (a :: b :: v :: l))) ci 2 = some v := gFx rfl
theorem gB3 {ci : Nat} {a b c v : Value} {l : List Value} : gF (some (aB ci (a :: b :: c :: v :: l))) ci 3 = some v := gFx rfl
theorem gB4 {ci : Nat} {a b c d v : Value} {l : List Value} : gF (some (aB ci (a :: b :: c :: d :: v :: l))) ci 4 = some v := gFx rfl
theorem sFx {ci k tc : Nat} {fs fs' : List Value} {v : Value} (hk : k < fs.length) (hf : fitK tc v = true) (h : fs.set k v = fs') : sF (some (aB ci fs)) ci k tc v = some (aB ci fs') := by
  show (if ci = ci ∧ k < fs.length ∧ fitK tc v = true then some (aB ci (fs.set k v)) else none) = _
  rw [if_pos ⟨rfl, hk, hf⟩, h]
theorem ft0 {x : Int32} : fitK 0 (.int x) = true := rfl
theorem ft1 {p : Prop} [Decidable p] : fitK 1 (.int (bI p)) = true := bI_ok
theorem ft2 {x : Int64} : fitK 2 (.long x) = true := rfl
theorem ft3 {a : Nat} : fitK 3 (.ref a) = true := rfl
theorem sB0i {ci : Nat} {v : Value} {l : List Value} {x : Int32} : sF (some (aB ci (v :: l))) ci 0 0 (.int x) = some (aB ci ((.int x) :: l)) := sFx (by simp) ft0 rfl
theorem sB0r {ci : Nat} {v : Value} {l : List Value} {q : Nat} : sF (some (aB ci (v :: l))) ci 0 3 (.ref q) = some (aB ci ((.ref q) :: l)) := sFx (by simp) ft3 rfl
theorem sB0l {ci : Nat} {v : Value} {l : List Value} {x : Int64} : sF (some (aB ci (v :: l))) ci 0 2 (.long x) = some (aB ci ((.long x) :: l)) := sFx (by simp) ft2 rfl
theorem sB0z {ci : Nat} {v : Value} {l : List Value} {p : Prop} [Decidable p] : sF (some (aB ci (v :: l))) ci 0 1 (.int (bI p)) = some (aB ci ((.int (bI p)) :: l)) := sFx (by simp) ft1 rfl
theorem sB1i {ci : Nat} {a0 v : Value} {l : List Value} {x : Int32} : sF (some (aB ci (a0 :: v :: l))) ci 1 0 (.int x) = some (aB ci (a0 :: (.int x) :: l)) := sFx (by simp) ft0 rfl
theorem sB1r {ci : Nat} {a0 v : Value} {l : List Value} {q : Nat} : sF (some (aB ci (a0 :: v :: l))) ci 1 3 (.ref q) = some (aB ci (a0 :: (.ref q) :: l)) := sFx (by simp) ft3 rfl
theorem sB1l {ci : Nat} {a0 v : Value} {l : List Value} {x : Int64} : sF (some (aB ci (a0 :: v :: l))) ci 1 2 (.long x) = some (aB ci (a0 :: (.long x) :: l)) := sFx (by simp) ft2 rfl
theorem sB1z {ci : Nat} {a0 v : Value} {l : List Value} {p : Prop} [Decidable p] : sF (some (aB ci (a0 :: v :: l))) ci 1 1 (.int (bI p)) = some (aB ci (a0 :: (.int (bI p)) :: l)) := sFx (by simp) ft1 rfl
theorem sB2i {ci : Nat} {a0 a1 v : Value} {l : List Value} {x : Int32} : sF (some (aB ci (a0 :: a1 :: v :: l))) ci 2 0 (.int x) = some (aB ci (a0 :: a1 :: (.int x) :: l)) := sFx (by simp) ft0 rfl
theorem sB2r {ci : Nat} {a0 a1 v : Value} {l : List Value} {q : Nat} : sF (some (aB ci (a0 :: a1 :: v :: l))) ci 2 3 (.ref q) = some (aB ci (a0 :: a1 :: (.ref q) :: l)) := sFx (by simp) ft3 rfl
theorem sB2l {ci : Nat} {a0 a1 v : Value} {l : List Value} {x : Int64} : sF (some (aB ci (a0 :: a1 :: v :: l))) ci 2 2 (.long x) = some (aB ci (a0 :: a1 :: (.long x) :: l)) := sFx (by simp) ft2 rfl
theorem sB2z {ci : Nat} {a0 a1 v : Value} {l : List Value} {p : Prop} [Decidable p] : sF (some (aB ci (a0 :: a1 :: v :: l))) ci 2 1 (.int (bI p)) = some (aB ci (a0 :: a1 :: (.int (bI p)) :: l)) := sFx (by simp) ft1 rfl
theorem sB3i {ci : Nat} {a0 a1 a2 v : Value} {l : List Value} {x : Int32} : sF (some (aB ci (a0 :: a1 :: a2 :: v :: l))) ci 3 0 (.int x) = some (aB ci (a0 :: a1 :: a2 :: (.int x) :: l)) := sFx (by simp) ft0 rfl
theorem sB3r {ci : Nat} {a0 a1 a2 v : Value} {l : List Value} {q : Nat} : sF (some (aB ci (a0 :: a1 :: a2 :: v :: l))) ci 3 3 (.ref q) = some (aB ci (a0 :: a1 :: a2 :: (.ref q) :: l)) := sFx (by simp) ft3 rfl
theorem sB3l {ci : Nat} {a0 a1 a2 v : Value} {l : List Value} {x : Int64} : sF (some (aB ci (a0 :: a1 :: a2 :: v :: l))) ci 3 2 (.long x) = some (aB ci (a0 :: a1 :: a2 :: (.long x) :: l)) := sFx (by simp) ft2 rfl
theorem sB3z {ci : Nat} {a0 a1 a2 v : Value} {l : List Value} {p : Prop} [Decidable p] : sF (some (aB ci (a0 :: a1 :: a2 :: v :: l))) ci 3 1 (.int (bI p)) = some (aB ci (a0 :: a1 :: a2 :: (.int (bI p)) :: l)) := sFx (by simp) ft1 rfl
theorem sB4i {ci : Nat} {a0 a1 a2 a3 v : Value} {l : List Value} {x : Int32} : sF (some (aB ci (a0 :: a1 :: a2 :: a3 :: v :: l))) ci 4 0 (.int x) = some (aB ci (a0 :: a1 :: a2 :: a3 :: (.int x) :: l)) := sFx (by simp) ft0 rfl
theorem sB4r {ci : Nat} {a0 a1 a2 a3 v : Value} {l : List Value} {q : Nat} : sF (some (aB ci (a0 :: a1 :: a2 :: a3 :: v :: l))) ci 4 3 (.ref q) = some (aB ci (a0 :: a1 :: a2 :: a3 :: (.ref q) :: l)) := sFx (by simp) ft3 rfl
theorem sB4l {ci : Nat} {a0 a1 a2 a3 v : Value} {l : List Value} {x : Int64} : sF (some (aB ci (a0 :: a1 :: a2 :: a3 :: v :: l))) ci 4 2 (.long x) = some (aB ci (a0 :: a1 :: a2 :: a3 :: (.long x) :: l)) := sFx (by simp) ft2 rfl
theorem sB4z {ci : Nat} {a0 a1 a2 a3 v : Value} {l : List Value} {p : Prop} [Decidable p] : sF (some (aB ci (a0 :: a1 :: a2 :: a3 :: v :: l))) ci 4 1 (.int (bI p)) = some (aB ci (a0 :: a1 :: a2 :: a3 :: (.int (bI p)) :: l)) := sFx (by simp) ft1 rfl
