/-! ===== two ints read as one long ===== -/
section
variable {d n w : Nat} {g : Nat × Nat} {h : aHf}
theorem r_getLong {p N k : Nat} {f : Nat → Int32} (hp : h p = some (aI .int N f)) (hk : 2 * k + 1 < N) (hN : N < 100000) :
    aE (d + 1) 283 [.ref g.2, .ref p, .long (lI (16 + 8 * (k : Int)))] (h, n, w, g) = some (.inl (some (.long (lJ (f (2 * k)) (f (2 * k + 1))))), (h, n, w, g)) := by
  have l7 : lI (16 + 8 * (k : Int)) &&& lI 7 = lI ((16 + 8 * (k : Int)) % 8) := land 3 (by decide) (by omega)
  have m0 : (16 + 8 * (k : Int)) % 8 = 0 := by omega
  have pr : aPrim 1002 [.ref g.2, .ref p, .long (lI (16 + 8 * (k : Int)))] (h, n, w, g) = some (.inl (some (.long (lJ (f (2 * k)) (f (2 * k + 1))))), (h, n, w, g)) := by
    have rc : recv 0 11 [.ref g.2] (h, n, w, g) = true := by
      show (g.2 == g.2) = true
      exact beq_self_eq_true _
    have t1 : (lI (16 + 8 * (k : Int))).toInt = 16 + 8 * (k : Int) := lI_t (by omega) (by omega)
    have e1 : ((16 + 8 * (k : Int) - 16) / 4).toNat = 2 * k := by omega
    show (if recv 0 11 [.ref g.2] (h, n, w, g) = true then (pGL (h p) (lI (16 + 8 * (k : Int)))).bind fun v => (some ((.inl (some (.long v)) : aO), (h, n, w, g)) : aR) else none) = _
    rw [if_pos rc, hp]
    show ((if 16 ≤ (lI (16 + 8 * (k : Int))).toInt ∧ (lI (16 + 8 * (k : Int))).toInt % 8 = 0 ∧ (((lI (16 + 8 * (k : Int))).toInt - 16) / 4).toNat + 1 < N then some (lJ (f (((lI (16 + 8 * (k : Int))).toInt - 16) / 4).toNat) (f ((((lI (16 + 8 * (k : Int))).toInt - 16) / 4).toNat + 1))) else none)).bind _ = _
    rw [t1, e1, if_pos (by omega)]
    rfl
  simp (disch := omega) only [e283, r283_0, r283_1, r283_4, r283_5, r283_6, r283_7, r283_10, r283_11, r283_12, r283_13, r283_16, l7, m0, lc_eq, pr, kl_n, kl_i, kl_r, kl_z, kl_l, kl_d, catS_0, catS_c, cat_i, cat_l, cat_d, cat_r, cat_n, kC_r, kC_x, Option.bind_some, Option.toList_some, Option.toList_none, List.cons_append, List.nil_append, gB0, gB1, gB2, gB3, gB4, rvB, nI_iI, i0, i1, l0_, wr_s, aup_s, and_true, true_and, and_self, eq_self, if_true, if_false, Nat.zero_le, Nat.reduceAdd, Nat.reduceLeDiff, gN_I, gN_L, gN_P, bI_0, bI_ok, z0, z1, Bool.true_eq, Bool.false_eq_true, not_true_eq_false, not_false_eq_true]
end
