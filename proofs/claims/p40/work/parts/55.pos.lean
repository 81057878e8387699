/-! ===== a mean of forces is not zero ===== -/
/-- bits of a number other than zero -/
def nzB (n : Nat) : Prop := n % 9223372036854775808 ≠ 0
theorem nz_dec {n : Nat} (h : nzB n) : Jvm.FP.Core.order (Jvm.FP.Core.decode Jvm.FP.Core.b64 n) (Jvm.FP.Core.decode Jvm.FP.Core.b64 0) ≠ some .eq := by
  have e0 : Jvm.FP.Core.decode Jvm.FP.Core.b64 0 = .fin false 0 (-1074) := by decide
  rw [e0]
  have key : ∀ (s : Bool) (c : Nat) (q : Int), c ≠ 0 → Jvm.FP.Core.order (.fin s c q) (.fin false 0 (-1074)) ≠ some .eq := by
    intro s c q hc z
    have z : some (compare (Jvm.FP.Core.signed s (Jvm.FP.Core.inUnits c q (min q (-1074)))) (Jvm.FP.Core.signed false (Jvm.FP.Core.inUnits 0 (-1074) (min q (-1074))))) = some .eq := z
    have z2 := Int.compare_eq_eq.mp (Option.some.inj z)
    have u0 : Jvm.FP.Core.inUnits 0 (-1074) (min q (-1074)) = 0 := Nat.zero_mul _
    have u1 : 0 < Jvm.FP.Core.inUnits c q (min q (-1074)) := Nat.mul_pos (by omega) (Nat.two_pow_pos _)
    rw [u0] at z2
    generalize Jvm.FP.Core.inUnits c q (min q (-1074)) = y at *
    cases s
    · have z2 : (y : Int) = ((0 : Nat) : Int) := z2
      omega
    · have z2 : -(y : Int) = ((0 : Nat) : Int) := z2
      omega
  unfold Jvm.FP.Core.decode
  by_cases h1 : Jvm.FP.Core.fieldE Jvm.FP.Core.b64 n = Jvm.FP.Core.b64.exps - 1
  · rw [if_pos h1]
    split
    · intro z
      generalize Jvm.FP.Core.fieldS Jvm.FP.Core.b64 n = s at z
      cases s
      · exact absurd z (by decide)
      · exact absurd z (by decide)
    · exact fun z => by cases z
  · rw [if_neg h1]
    by_cases h2 : Jvm.FP.Core.fieldE Jvm.FP.Core.b64 n = 0
    · rw [if_pos h2]
      refine key _ _ _ (fun z => h ?_)
      unfold Jvm.FP.Core.fieldE at h2
      unfold Jvm.FP.Core.fieldT at z
      rw [b64_t, b64_e] at h2
      rw [b64_t] at z
      omega
    · rw [if_neg h2]
      exact key _ _ _ (by rw [b64_t]; omega)
theorem nz_as {s : Bool} {e t : Nat} (he : e ≤ 2047) (ht : t < 4503599627370496) (hn : e ≠ 0 ∨ t ≠ 0) : nzB (Jvm.FP.Core.assemble Jvm.FP.Core.b64 s e t) := by
  unfold nzB Jvm.FP.Core.assemble
  rw [b64_t, b64_e]
  cases s
  · show ((0 * 2048 + e) * 4503599627370496 + t) % _ ≠ _
    omega
  · show ((1 * 2048 + e) * 4503599627370496 + t) % _ ≠ _
    omega
theorem nz_settle {s : Bool} {c : Nat} {q : Int} (hc : c ≠ 0) : nzB (Jvm.FP.Core.encode Jvm.FP.Core.b64 (Jvm.FP.Core.settle Jvm.FP.Core.b64 s c q)) := by
  have hinf : nzB (Jvm.FP.Core.encode Jvm.FP.Core.b64 (.inf s)) := by
    unfold Jvm.FP.Core.encode
    dsimp only
    rw [b64_e]
    exact nz_as (by omega) (by omega) (Or.inl (by omega))
  have hb : ∀ (c : Nat) (q : Int), c ≠ 0 → c < 9007199254740992 → nzB (Jvm.FP.Core.encode Jvm.FP.Core.b64 (Jvm.FP.Core.bound Jvm.FP.Core.b64 s c q)) := by
    intro c q hc h9
    unfold Jvm.FP.Core.bound
    rw [b64_q.2]
    by_cases h : q ≤ 971
    · rw [if_pos h]
      unfold Jvm.FP.Core.encode
      dsimp only
      rw [b64_t, b64_q.1]
      by_cases h2 : c < 4503599627370496
      · rw [if_pos h2]
        exact nz_as (by omega) h2 (Or.inr hc)
      · rw [if_neg h2]
        exact nz_as (by omega) (by omega) (Or.inl (by omega))
    · rw [if_neg h]
      exact hinf
  have e : 2 ^ Jvm.FP.Core.b64.p = 9007199254740992 := by decide
  unfold Jvm.FP.Core.settle
  rw [e]
  by_cases h : c < 9007199254740992
  · rw [if_pos h]
    exact hb c q hc h
  · rw [if_neg h]
    exact hb _ _ (by rw [b64_t]; omega) (by rw [b64_t]; omega)
theorem near_1 {a b : Nat} (hb : 0 < b) (h : b ≤ a) : Jvm.FP.Core.nearest a b ≠ 0 := by
  have z : 1 ≤ a / b := (Nat.le_div_iff_mul_le hb).mpr (by omega)
  unfold Jvm.FP.Core.nearest
  split
  · omega
  · split <;> omega
/-- a small whole number as a double -/
theorem dec_i {a : Nat} (h1 : 1 ≤ a) (h2 : a < 131072) : Jvm.FP.Core.decode Jvm.FP.Core.b64 (Jvm.FP.Core.fromInt Jvm.FP.Core.b64 (a : Int) % 18446744073709551616) = .fin false (a * 2 ^ (52 - a.log2)) ((a.log2 : Int) - 52) := by
  have l1 : 2 ^ a.log2 ≤ a := Nat.log2_self_le (by omega)
  have l2 : a < 2 ^ (a.log2 + 1) := Nat.lt_log2_self
  have l3 : a.log2 < 17 := (Nat.log2_lt (by omega)).mpr h2
  generalize hL : a.log2 = L at *
  have p1 : 2 ^ L * 2 ^ (52 - L) = 4503599627370496 := by
    rw [← Nat.pow_add, show L + (52 - L) = 52 by omega]
  have p2 : 2 ^ (L + 1) * 2 ^ (52 - L) = 9007199254740992 := by
    rw [← Nat.pow_add, show L + 1 + (52 - L) = 53 by omega]
  have c1 : 4503599627370496 ≤ a * 2 ^ (52 - L) := by
    rw [← p1]
    exact Nat.mul_le_mul_right _ l1
  have c2 : a * 2 ^ (52 - L) < 9007199254740992 := by
    rw [← p2]
    exact Nat.mul_lt_mul_of_pos_right l2 (Nat.two_pow_pos _)
  have hlead : Jvm.FP.Core.leading a 1 = (L : Int) := by
    unfold Jvm.FP.Core.leading
    rw [hL, show (1 : Nat).log2 = 0 by decide]
    dsimp only
    rw [show ((L : Int) - ((0 : Nat) : Int)).toNat = L by omega, show (-((L : Int) - ((0 : Nat) : Int))).toNat = 0 by omega, if_pos (by omega)]
    omega
  have hq : Jvm.FP.Core.quantum Jvm.FP.Core.b64 a 1 0 = (L : Int) - 52 := by
    unfold Jvm.FP.Core.quantum
    rw [hlead, b64_q.1, show (Jvm.FP.Core.b64.p : Int) = 53 by decide]
    omega
  have hn : Jvm.FP.Core.nearest (Jvm.FP.Core.unitsNum a 0 ((L : Int) - 52)) (Jvm.FP.Core.unitsDen 1 0 ((L : Int) - 52)) = a * 2 ^ (52 - L) := by
    unfold Jvm.FP.Core.unitsNum Jvm.FP.Core.unitsDen
    rw [show ((0 : Int) - ((L : Int) - 52)).toNat = 52 - L by omega, show (((L : Int) - 52) - 0).toNat = 0 by omega]
    unfold Jvm.FP.Core.nearest
    rw [show 1 * 2 ^ 0 = 1 by decide, Nat.mod_one, if_pos (by omega), Nat.div_one]
  have hr : Jvm.FP.Core.fromInt Jvm.FP.Core.b64 (a : Int) = Jvm.FP.Core.encode Jvm.FP.Core.b64 (.fin false (a * 2 ^ (52 - L)) ((L : Int) - 52)) := by
    show Jvm.FP.Core.encode Jvm.FP.Core.b64 (Jvm.FP.Core.roundRatio Jvm.FP.Core.b64 (decide ((a : Int) < 0)) (a : Int).natAbs 1 0) = _
    rw [show decide ((a : Int) < 0) = false from decide_eq_false (by omega), show (a : Int).natAbs = a by omega]
    unfold Jvm.FP.Core.roundRatio
    rw [if_neg (by omega)]
    unfold Jvm.FP.Core.roundAt
    rw [hq, hn]
    unfold Jvm.FP.Core.settle
    rw [if_pos (by rw [show 2 ^ Jvm.FP.Core.b64.p = 9007199254740992 by decide]; exact c2)]
    unfold Jvm.FP.Core.bound
    rw [b64_q.2, if_pos (by omega)]
  rw [hr]
  generalize a * 2 ^ (52 - L) = c at *
  unfold Jvm.FP.Core.encode
  dsimp only
  rw [b64_t, b64_q.1, if_neg (by omega)]
  have ee : ((L : Int) - 52 - -1074).toNat + 1 = L + 1023 := by omega
  rw [ee]
  unfold Jvm.FP.Core.assemble
  rw [b64_t, b64_e, show Bool.toNat false = 0 from rfl]
  have en : ((0 * 2048 + (L + 1023)) * 4503599627370496 + (c - 4503599627370496)) % 18446744073709551616 = (L + 1023) * 4503599627370496 + (c - 4503599627370496) := by omega
  rw [en]
  have fE : Jvm.FP.Core.fieldE Jvm.FP.Core.b64 ((L + 1023) * 4503599627370496 + (c - 4503599627370496)) = L + 1023 := by
    unfold Jvm.FP.Core.fieldE
    rw [b64_t, b64_e]
    omega
  have fT : Jvm.FP.Core.fieldT Jvm.FP.Core.b64 ((L + 1023) * 4503599627370496 + (c - 4503599627370496)) = c - 4503599627370496 := by
    unfold Jvm.FP.Core.fieldT
    rw [b64_t, Nat.add_comm, Nat.add_mul_mod_self_right]
    exact Nat.mod_eq_of_lt (by omega)
  have fS : Jvm.FP.Core.fieldS Jvm.FP.Core.b64 ((L + 1023) * 4503599627370496 + (c - 4503599627370496)) = false := by
    unfold Jvm.FP.Core.fieldS
    rw [b64_t, b64_e]
    have : ((L + 1023) * 4503599627370496 + (c - 4503599627370496)) / 4503599627370496 / 2048 % 2 = 0 := by omega
    rw [this]
    rfl
  unfold Jvm.FP.Core.decode
  rw [fE, fT, fS, b64_e, b64_t, b64_q.1, if_neg (by omega), if_neg (by omega)]
  have g1 : 4503599627370496 + (c - 4503599627370496) = c := by omega
  have g2 : (-1074 : Int) + (((L + 1023 : Nat) : Int) - 1) = (L : Int) - 52 := by omega
  rw [g1, g2]
theorem nz_quot {a b : Nat} (ha : 1 ≤ a) (h2 : a < 131072) (hb : 1 ≤ b) (h3 : b ≤ a) : nzB (Jvm.FP.Core.encode Jvm.FP.Core.b64 (Jvm.FP.Core.quotient Jvm.FP.Core.b64 (.fin false (a * 2 ^ (52 - a.log2)) ((a.log2 : Int) - 52)) (.fin false (b * 2 ^ (52 - b.log2)) ((b.log2 : Int) - 52)))) := by
  have bd : ∀ {a : Nat}, 1 ≤ a → a < 131072 → a.log2 < 17 ∧ 4503599627370496 ≤ a * 2 ^ (52 - a.log2) ∧ a * 2 ^ (52 - a.log2) < 9007199254740992 := by
    intro a h1 h2
    have l1 : 2 ^ a.log2 ≤ a := Nat.log2_self_le (by omega)
    have l2 : a < 2 ^ (a.log2 + 1) := Nat.lt_log2_self
    have l3 : a.log2 < 17 := (Nat.log2_lt (by omega)).mpr h2
    generalize a.log2 = L at *
    have p1 : 2 ^ L * 2 ^ (52 - L) = 4503599627370496 := by
      rw [← Nat.pow_add, show L + (52 - L) = 52 by omega]
    have p2 : 2 ^ (L + 1) * 2 ^ (52 - L) = 9007199254740992 := by
      rw [← Nat.pow_add, show L + 1 + (52 - L) = 53 by omega]
    refine ⟨l3, ?_, ?_⟩
    · rw [← p1]
      exact Nat.mul_le_mul_right _ l1
    · rw [← p2]
      exact Nat.mul_lt_mul_of_pos_right l2 (Nat.two_pow_pos _)
  obtain ⟨x1, x2, x3⟩ := bd ha h2
  obtain ⟨y1, y2, y3⟩ := bd hb (by omega)
  generalize a * 2 ^ (52 - a.log2) = c at *
  generalize b * 2 ^ (52 - b.log2) = e at *
  generalize a.log2 = L at *
  generalize b.log2 = K at *
  show nzB (Jvm.FP.Core.encode Jvm.FP.Core.b64 (if e = 0 then _ else Jvm.FP.Core.roundRatio Jvm.FP.Core.b64 (false != false) c e ((L : Int) - 52 - ((K : Int) - 52))))
  rw [if_neg (by omega)]
  have lc : c.log2 = 52 := (Nat.log2_eq_iff (by omega)).mpr ⟨x2, x3⟩
  have le : e.log2 = 52 := (Nat.log2_eq_iff (by omega)).mpr ⟨y2, y3⟩
  have lead : Jvm.FP.Core.leading c e = 0 ∨ Jvm.FP.Core.leading c e = -1 := by
    unfold Jvm.FP.Core.leading
    rw [lc, le]
    dsimp only
    split
    · exact Or.inl rfl
    · exact Or.inr rfl
  unfold Jvm.FP.Core.roundRatio
  rw [if_neg (by omega)]
  unfold Jvm.FP.Core.roundAt
  refine nz_settle (near_1 ?_ ?_)
  · exact Nat.mul_pos (by omega) (Nat.two_pow_pos _)
  · have hq : Jvm.FP.Core.quantum Jvm.FP.Core.b64 c e ((L : Int) - 52 - ((K : Int) - 52)) = Jvm.FP.Core.leading c e + ((L : Int) - K) - 52 := by
      unfold Jvm.FP.Core.quantum
      rw [b64_q.1, show (Jvm.FP.Core.b64.p : Int) = 53 by decide]
      omega
    rw [hq]
    unfold Jvm.FP.Core.unitsNum Jvm.FP.Core.unitsDen
    rw [show (Jvm.FP.Core.leading c e + ((L : Int) - K) - 52 - ((L : Int) - 52 - ((K : Int) - 52))).toNat = 0 by omega]
    have hp : 2 ^ 52 ≤ 2 ^ ((L : Int) - 52 - ((K : Int) - 52) - (Jvm.FP.Core.leading c e + ((L : Int) - K) - 52)).toNat := Nat.pow_le_pow_right (by decide) (by omega)
    generalize 2 ^ ((L : Int) - 52 - ((K : Int) - 52) - (Jvm.FP.Core.leading c e + ((L : Int) - K) - 52)).toNat = P at *
    have hp : 4503599627370496 ≤ P := hp
    have : c * 4503599627370496 ≤ c * P := Nat.mul_le_mul_left _ hp
    have e1 : e * 2 ^ 0 = e := Nat.mul_one _
    rw [e1]
    omega
/-- the mean is not 0 where there is a force -/
theorem mn_nz {a b : Nat} (hb : 1 ≤ b ∧ b ≤ 480) (hab : b ≤ a) (ha : a < 131072) : FP.dcmp (mnD a b) FP.dconst0 ≠ some .eq := by
  have e : mnD a b = FP.ddiv (FP.i2d (iI a)) (FP.i2d (iI b)) := if_neg (by omega)
  rw [e]
  show Jvm.FP.Core.order (Jvm.FP.Core.decode Jvm.FP.Core.b64 (UInt64.ofNat (Jvm.FP.Core.div Jvm.FP.Core.b64 (UInt64.ofNat _).toNat (UInt64.ofNat _).toNat)).toNat) (Jvm.FP.Core.decode Jvm.FP.Core.b64 0) ≠ _
  refine nz_dec ?_
  rw [of64, of64, of64]
  have t1 : (iI (a : Int)).toInt = a := Int32.toInt_ofInt_of_le (by omega) (by omega)
  have t2 : (iI (b : Int)).toInt = b := Int32.toInt_ofInt_of_le (by omega) (by omega)
  have z : nzB (Jvm.FP.Core.div Jvm.FP.Core.b64 (Jvm.FP.Core.fromInt Jvm.FP.Core.b64 (iI (a : Int)).toInt % 18446744073709551616) (Jvm.FP.Core.fromInt Jvm.FP.Core.b64 (iI (b : Int)).toInt % 18446744073709551616)) := by
    rw [t1, t2]
    show nzB (Jvm.FP.Core.encode Jvm.FP.Core.b64 (Jvm.FP.Core.quotient Jvm.FP.Core.b64 (Jvm.FP.Core.decode Jvm.FP.Core.b64 _) (Jvm.FP.Core.decode Jvm.FP.Core.b64 _)))
    rw [dec_i (by omega) (by omega), dec_i (by omega) (by omega)]
    exact nz_quot (by omega) ha hb.1 hab
  unfold nzB at *
  omega
