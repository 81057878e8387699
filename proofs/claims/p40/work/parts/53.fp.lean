/-! ===== quotients of small whole numbers are numbers ===== -/
/-- bits of no NaN -/
def gdN (n : Nat) : Prop := n % 9223372036854775808 ≤ 9218868437227405312
theorem b64_t : Jvm.FP.Core.b64.tails = 4503599627370496 := by decide
theorem b64_e : Jvm.FP.Core.b64.exps = 2048 := by decide
theorem b64_q : Jvm.FP.Core.b64.qmin = -1074 ∧ Jvm.FP.Core.b64.qmax = 971 := by decide
theorem gd_as {s : Bool} {e t : Nat} (he : e ≤ 2046) (ht : t < 4503599627370496) : gdN (Jvm.FP.Core.assemble Jvm.FP.Core.b64 s e t) := by
  unfold gdN Jvm.FP.Core.assemble
  rw [b64_t, b64_e]
  cases s
  · show ((0 * 2048 + e) * 4503599627370496 + t) % _ ≤ _
    omega
  · show ((1 * 2048 + e) * 4503599627370496 + t) % _ ≤ _
    omega
theorem gd_inf {s : Bool} : gdN (Jvm.FP.Core.encode Jvm.FP.Core.b64 (.inf s)) := by
  unfold Jvm.FP.Core.encode gdN Jvm.FP.Core.assemble
  dsimp only
  rw [b64_t, b64_e]
  cases s
  · show ((0 * 2048 + (2048 - 1)) * 4503599627370496 + 0) % _ ≤ _
    omega
  · show ((1 * 2048 + (2048 - 1)) * 4503599627370496 + 0) % _ ≤ _
    omega
theorem gd_fin {s : Bool} {c : Nat} {q : Int} (hc : c < 9007199254740992) (hq : q ≤ 971) : gdN (Jvm.FP.Core.encode Jvm.FP.Core.b64 (.fin s c q)) := by
  unfold Jvm.FP.Core.encode
  dsimp only
  rw [b64_t, b64_q.1]
  by_cases h : c < 4503599627370496
  · rw [if_pos h]
    exact gd_as (by omega) h
  · rw [if_neg h]
    exact gd_as (by omega) (by omega)
theorem gd_bound {s : Bool} {c : Nat} {q : Int} (hc : c < 9007199254740992) : gdN (Jvm.FP.Core.encode Jvm.FP.Core.b64 (Jvm.FP.Core.bound Jvm.FP.Core.b64 s c q)) := by
  unfold Jvm.FP.Core.bound
  rw [b64_q.2]
  by_cases h : q ≤ 971
  · rw [if_pos h]
    exact gd_fin hc h
  · rw [if_neg h]
    exact gd_inf
theorem gd_settle {s : Bool} {c : Nat} {q : Int} : gdN (Jvm.FP.Core.encode Jvm.FP.Core.b64 (Jvm.FP.Core.settle Jvm.FP.Core.b64 s c q)) := by
  unfold Jvm.FP.Core.settle
  by_cases h : c < 2 ^ Jvm.FP.Core.b64.p
  · rw [if_pos h]
    exact gd_bound (by
      have e : 2 ^ Jvm.FP.Core.b64.p = 9007199254740992 := by decide
      omega)
  · rw [if_neg h]
    exact gd_bound (by rw [b64_t]; omega)
theorem gd_ratio {s : Bool} {a b : Nat} {e : Int} : gdN (Jvm.FP.Core.encode Jvm.FP.Core.b64 (Jvm.FP.Core.roundRatio Jvm.FP.Core.b64 s a b e)) := by
  unfold Jvm.FP.Core.roundRatio
  by_cases h : a = 0
  · rw [if_pos h]
    exact gd_fin (by omega) (by rw [b64_q.1]; omega)
  · rw [if_neg h]
    exact gd_settle
theorem gd_int {i : Int} : gdN (Jvm.FP.Core.fromInt Jvm.FP.Core.b64 i) := gd_ratio
theorem gd_mod {n : Nat} (h : gdN n) : gdN (n % 18446744073709551616) := by
  unfold gdN at *
  omega
theorem gd_dec {n : Nat} (h : gdN n) : Jvm.FP.Core.decode Jvm.FP.Core.b64 n ≠ .nan := by
  unfold Jvm.FP.Core.decode
  by_cases h1 : Jvm.FP.Core.fieldE Jvm.FP.Core.b64 n = Jvm.FP.Core.b64.exps - 1
  · rw [if_pos h1]
    have h2 : Jvm.FP.Core.fieldT Jvm.FP.Core.b64 n = 0 := by
      unfold Jvm.FP.Core.fieldE at h1
      unfold Jvm.FP.Core.fieldT
      rw [b64_t, b64_e] at h1
      rw [b64_t]
      unfold gdN at h
      omega
    rw [if_pos h2]
    exact fun z => Jvm.FP.Core.Datum.noConfusion z
  · rw [if_neg h1]
    split
    · exact fun z => Jvm.FP.Core.Datum.noConfusion z
    · exact fun z => Jvm.FP.Core.Datum.noConfusion z
def finP : Jvm.FP.Core.Datum → Bool
  | .fin _ d _ => d != 0
  | _ => false
theorem fin_sm : ∀ i : Fin 8, ∀ j : Fin 64, i.val * 64 + j.val = 0 ∨ finP (Jvm.FP.Core.decode Jvm.FP.Core.b64 (Jvm.FP.Core.fromInt Jvm.FP.Core.b64 ((i.val * 64 + j.val : Nat) : Int) % 18446744073709551616)) = true := by decide +kernel
theorem fin_b {b : Nat} (h : 1 ≤ b ∧ b ≤ 480) : finP (Jvm.FP.Core.decode Jvm.FP.Core.b64 (Jvm.FP.Core.fromInt Jvm.FP.Core.b64 (b : Int) % 18446744073709551616)) = true := by
  have z := fin_sm ⟨b / 64, by omega⟩ ⟨b % 64, by omega⟩
  have e : b / 64 * 64 + b % 64 = b := by omega
  dsimp only at z
  rw [e] at z
  exact z.resolve_left (by omega)
theorem gd_q {x y : Jvm.FP.Core.Datum} (hx : x ≠ .nan) (hy : finP y = true) : gdN (Jvm.FP.Core.encode Jvm.FP.Core.b64 (Jvm.FP.Core.quotient Jvm.FP.Core.b64 x y)) := by
  cases y with
  | nan => exact absurd hy Bool.false_ne_true
  | inf t => exact absurd hy Bool.false_ne_true
  | fin t d r =>
    cases x with
    | nan => exact absurd rfl hx
    | inf s => exact gd_inf
    | fin s c q =>
      show gdN (Jvm.FP.Core.encode Jvm.FP.Core.b64 (if d = 0 then _ else _))
      rw [if_neg (fun z => by rw [z] at hy; exact absurd hy Bool.false_ne_true)]
      exact gd_ratio
/-- the mean of the forces -/
def mnD (a b : Nat) : UInt64 := if b = 0 then FP.dconst0 else FP.ddiv (FP.i2d (iI a)) (FP.i2d (iI b))
theorem of64 (n : Nat) : (UInt64.ofNat n).toNat = n % 18446744073709551616 := UInt64.toNat_ofNat
theorem gd_ddiv {a b : Nat} (hb : 1 ≤ b ∧ b ≤ 480) : gdN (FP.ddiv (FP.i2d (iI a)) (FP.i2d (iI b))).toNat := by
  show gdN (UInt64.ofNat (Jvm.FP.Core.div Jvm.FP.Core.b64 (UInt64.ofNat _).toNat (UInt64.ofNat _).toNat)).toNat
  rw [of64, of64, of64]
  refine gd_mod (gd_q (gd_dec (gd_mod gd_int)) ?_)
  have e : (iI (b : Int)).toInt = b := Int32.toInt_ofInt_of_le (by omega) (by omega)
  rw [e]
  exact fin_b hb
theorem gd_mask {x : UInt64} (h : gdN x.toNat) : x &&& 0x7fffffffffffffff ≤ 0x7ff0000000000000 := by
  rw [UInt64.le_iff_toNat_le, UInt64.toNat_and]
  have e : x.toNat &&& (2 ^ 63 - 1) = x.toNat % 2 ^ 63 := Nat.and_two_pow_sub_one_eq_mod _ _
  show x.toNat &&& (2 ^ 63 - 1) ≤ 9218868437227405312
  rw [e]
  exact h
theorem mn_mask {a b : Nat} (hb : 1 ≤ b ∧ b ≤ 480) : FP.ddiv (FP.i2d (iI a)) (FP.i2d (iI b)) &&& 0x7fffffffffffffff ≤ 0x7ff0000000000000 := gd_mask (gd_ddiv hb)
theorem order_s {d : Jvm.FP.Core.Datum} (h : d ≠ .nan) : Jvm.FP.Core.order d d = some .eq := by
  cases d with
  | nan => exact absurd rfl h
  | inf s => cases s <;> rfl
  | fin s c q =>
    show some (compare _ _) = some .eq
    exact congrArg some (by rw [Int.compare_eq_eq])
theorem mn_cmp {a b : Nat} (hb : b ≤ 480) : FP.dcmp (mnD a b) (mnD a b) = some .eq := by
  refine order_s (gd_dec ?_)
  unfold mnD
  by_cases h : b = 0
  · rw [if_pos h]
    show gdN 0
    unfold gdN
    omega
  · rw [if_neg h]
    exact gd_ddiv (by omega)
