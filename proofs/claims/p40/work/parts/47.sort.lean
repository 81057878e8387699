/-! ===== events sorted ===== -/
/-- sorted in runs of R -/
def runs (R : Nat) (C : Nat → Nat) (N : Nat) : Prop := ∀ k, sor C (R * k) (min (R * (k + 1)) N)
theorem shl_p : ∀ p : Fin 10, iI 1 <<< (iI ((p.val : Nat) : Int) &&& 31) = iI ((2 ^ p.val : Nat) : Int) := by decide +kernel
section
variable {d : Nat} {h : aHf} {r : Nat × Nat × Nat × Nat} {x : Nat} {W : Dk}
theorem from_loop {p R N : Nat} {C : Nat → Nat} (hR : 0 < R ∧ R ≤ 512) (hN : N ≤ 960) (hC : ∀ i, vOk (C i)) (hr : runs R C N) : ∀ (m k : Nat) (S : Nat → Nat), N ≤ 2 * R * k + m → 2 * R * k ≤ 4000 → (∀ k', k' < k → sor S (2 * R * k') (min (2 * R * (k' + 1)) N)) → (∀ v, cn S v (min (2 * R * k) N) = cn C v (min (2 * R * k) N)) → (∀ i, vOk (S i)) →
    ∃ S' y, runs (2 * R) S' N ∧ (∀ v, cn S' v N = cn C v N) ∧ (∀ i, vOk (S' i)) ∧ L (d + 5) 161 14 [some (.ref (x + 401)), some (.int (iI p)), some (.int (iI R)), some (.int (iI (2 * R * k : Nat)))] [] (dkW h x (W.1, W.2.1, W.2.2.1, (N, C, S), W.2.2.2.2), r) =
      L (d + 5) 161 58 [some (.ref (x + 401)), some (.int (iI p)), some (.int (iI R)), some (.int y)] [] (dkW h x (W.1, W.2.1, W.2.2.1, (N, C, S'), W.2.2.2.2), r) := by
  have fin : ∀ (k : Nat) (S : Nat → Nat), N ≤ 2 * R * k → 2 * R * k ≤ 4000 → (∀ k', k' < k → sor S (2 * R * k') (min (2 * R * (k' + 1)) N)) → (∀ v, cn S v (min (2 * R * k) N) = cn C v (min (2 * R * k) N)) → (∀ i, vOk (S i)) →
    ∃ S' y, runs (2 * R) S' N ∧ (∀ v, cn S' v N = cn C v N) ∧ (∀ i, vOk (S' i)) ∧ L (d + 5) 161 14 [some (.ref (x + 401)), some (.int (iI p)), some (.int (iI R)), some (.int (iI (2 * R * k : Nat)))] [] (dkW h x (W.1, W.2.1, W.2.2.1, (N, C, S), W.2.2.2.2), r) =
      L (d + 5) 161 58 [some (.ref (x + 401)), some (.int (iI p)), some (.int (iI R)), some (.int y)] [] (dkW h x (W.1, W.2.1, W.2.2.1, (N, C, S'), W.2.2.2.2), r) := by
    intro k S q hm4 h1 h2 h3
    refine ⟨S, iI (2 * R * k : Nat), fun k' => ?_, fun v => ?_, h3, ?_⟩
    · by_cases e : k' < k
      · exact h1 k' e
      · have : 2 * R * k ≤ 2 * R * k' := Nat.mul_le_mul_left _ (by omega)
        intro i j h4 h5 h6
        generalize 2 * R * k = y1 at *
        generalize 2 * R * k' = y2 at *
        omega
    · have := h2 v
      rwa [Nat.min_eq_right q] at this
    · have c1 : (N : Int) ≤ ((2 * R * k : Nat) : Int) := by omega
      rw [r161_14]
      simp (disch := omega) only [r161_15, r161_16, r161_19, r161_22, r161_23, r161_24, r161_25, r161_26, r161_27, r161_28, r161_31, r161_34, r161_35, r161_36, r161_37, r161_38, r161_39, r161_40, r161_43, r161_46, r161_49, r161_50, r161_51, r161_52, r161_53, r161_54, r161_55, dk_r, iI_le, c1, kl_n, kl_i, kl_r, kl_z, kl_l, kl_d, catS_0, catS_c, cat_i, cat_l, cat_d, cat_r, cat_n, kC_r, kC_x, Option.bind_some, Option.toList_some, Option.toList_none, List.cons_append, List.nil_append, gB0, gB1, gB2, gB3, gB4, rvB, nI_iI, i0, i1, l0_, wr_s, aup_s, and_true, true_and, and_self, eq_self, if_true, if_false, Nat.zero_le, Nat.reduceAdd, Nat.reduceLeDiff, gN_I, gN_L, gN_P, bI_0, bI_ok, z0, z1, Bool.true_eq, Bool.false_eq_true, not_true_eq_false, not_false_eq_true]
  intro m
  induction m with
  | zero =>
    intro k S hm hm4 h1 h2 h3
    exact fin k S hm hm4 h1 h2 h3
  | succ m ih =>
    intro k S hm hm4 h1 h2 h3
    by_cases q : N ≤ 2 * R * k
    · exact fin k S q hm4 h1 h2 h3
    · have y1 : R * (2 * k) = 2 * R * k := by rw [Nat.mul_left_comm, Nat.mul_assoc]
      have y2 : R * (2 * k + 1) = 2 * R * k + R := by rw [Nat.mul_add, y1, Nat.mul_one]
      have y3 : R * (2 * k + 1 + 1) = 2 * R * k + 2 * R := by rw [Nat.mul_add, y2, Nat.mul_one]; omega
      have y4 : 2 * R * (k + 1) = 2 * R * k + 2 * R := by rw [Nat.mul_add, Nat.mul_one]
      have s1 := hr (2 * k)
      have s2 := hr (2 * k + 1)
      rw [y1, y2] at s1
      rw [y2, y3] at s2
      have kk : ∀ k', k' < k → 2 * R * (k' + 1) ≤ 2 * R * k := fun k' hk' => Nat.mul_le_mul_left _ (by omega)
      have ih2 := ih (k + 1)
      rw [y4] at ih2
      generalize hy : 2 * R * k = y at *
      have s2' : sor C (min (y + R) N) (min (y + 2 * R) N) := by
        by_cases e : y + R ≤ N
        · rwa [Nat.min_eq_left e]
        · intro i j a1 a2 a3
          omega
      obtain ⟨S', z1, z2, z3, z4, z5⟩ := s_merge (d := d + 1) (h := h) (r := r) (x := x) (W := W) (n' := N) (a := y) (b := min (y + R) N) (c := min (y + 2 * R) N) (C := C) (S := S) (by omega) hC h3 s1 s2'
      obtain ⟨S2, y9, w1, w2, w3, w4⟩ := ih2 S' (by omega) (by omega) (fun k' hk' => by
        by_cases e : k' = k
        · rw [e, hy, y4]
          exact z2
        · have hh := h1 k' (by omega)
          have hb := kk k' (by omega)
          intro i j a1 a2 a3
          rw [z1 i (by omega), z1 j (by omega)]
          exact hh i j a1 a2 a3) (fun v => by
        have e1 := z3 v
        have e2 := h2 v
        rw [Nat.min_eq_left (show y ≤ N by omega)] at e2
        rw [cn_congr (F := S') (G := S) (k := y) z1] at e1
        omega) z4
      refine ⟨S2, y9, w1, w2, w3, ?_⟩
      have c1 : ¬ (N : Int) ≤ (y : Int) := by omega
      have m1 := s_min (d := d + 4) (h := dkW h x (W.1, W.2.1, W.2.2.1, (N, C, S), W.2.2.2.2)) (r := r) (a := (y : Int) + R) (b := (N : Int)) (by omega) (by omega) (by omega) (by omega)
      have m2 := s_min (d := d + 4) (h := dkW h x (W.1, W.2.1, W.2.2.1, (N, C, S), W.2.2.2.2)) (r := r) (a := (y : Int) + 2 * R) (b := (N : Int)) (by omega) (by omega) (by omega) (by omega)
      have f1 : min ((y : Int) + R) (N : Int) = ((min (y + R) N : Nat) : Int) := by omega
      have f2 : min ((y : Int) + 2 * R) (N : Int) = ((min (y + 2 * R) N : Nat) : Int) := by omega
      rw [f1] at m1
      rw [f2] at m2
      have e1 : (y : Int) + 2 * R = ((y + 2 * R : Nat) : Int) := by omega
      rw [r161_14]
      simp (disch := omega) only [r161_15, r161_16, r161_19, r161_22, r161_23, r161_24, r161_25, r161_26, r161_27, r161_28, r161_31, r161_34, r161_35, r161_36, r161_37, r161_38, r161_39, r161_40, r161_43, r161_46, r161_49, r161_50, r161_51, r161_52, r161_53, r161_54, r161_55, dk_r, iI_le, c1, iI_mul, iI_add, m1, m2, z5, kl_n, kl_i, kl_r, kl_z, kl_l, kl_d, catS_0, catS_c, cat_i, cat_l, cat_d, cat_r, cat_n, kC_r, kC_x, Option.bind_some, Option.toList_some, Option.toList_none, List.cons_append, List.nil_append, gB0, gB1, gB2, gB3, gB4, rvB, nI_iI, i0, i1, l0_, wr_s, aup_s, and_true, true_and, and_self, eq_self, if_true, if_false, Nat.zero_le, Nat.reduceAdd, Nat.reduceLeDiff, gN_I, gN_L, gN_P, bI_0, bI_ok, z0, z1, Bool.true_eq, Bool.false_eq_true, not_true_eq_false, not_false_eq_true]
      rw [e1]
      exact w4
theorem copy_loop {p R N : Nat} {C S : Nat → Nat} (hN : N ≤ 960) : ∀ m i : Nat, i + m = N → L (d + 5) 161 60 [some (.ref (x + 401)), some (.int (iI p)), some (.int (iI R)), some (.int (iI i))] [] (dkW h x (W.1, W.2.1, W.2.2.1, (N, mixN C S i, S), W.2.2.2.2), r) =
      L (d + 5) 161 90 [some (.ref (x + 401)), some (.int (iI p)), some (.int (iI R)), some (.int (iI N))] [] (dkW h x (W.1, W.2.1, W.2.2.1, (N, mixN C S N, S), W.2.2.2.2), r) := by
  intro m
  induction m with
  | zero =>
    intro i hi
    obtain rfl : i = N := by omega
    have c1 : (i : Int) ≤ i := by omega
    rw [r161_60]
    simp (disch := omega) only [r161_61, r161_62, r161_65, r161_68, r161_69, r161_72, r161_73, r161_74, r161_77, r161_78, r161_81, r161_84, r161_87, dk_r, iI_le, c1, kl_n, kl_i, kl_r, kl_z, kl_l, kl_d, catS_0, catS_c, cat_i, cat_l, cat_d, cat_r, cat_n, kC_r, kC_x, Option.bind_some, Option.toList_some, Option.toList_none, List.cons_append, List.nil_append, gB0, gB1, gB2, gB3, gB4, rvB, nI_iI, i0, i1, l0_, wr_s, aup_s, and_true, true_and, and_self, eq_self, if_true, if_false, Nat.zero_le, Nat.reduceAdd, Nat.reduceLeDiff, gN_I, gN_L, gN_P, bI_0, bI_ok, z0, z1, Bool.true_eq, Bool.false_eq_true, not_true_eq_false, not_false_eq_true]
  | succ m ih =>
    intro i hi
    have c1 : ¬ (N : Int) ≤ i := by omega
    have e1 : (i : Int) + 1 = ((i + 1 : Nat) : Int) := by omega
    have h9 := ih (i + 1) (by omega)
    have la := s_longAt (d := d + 4) (r := r) (h := dkW h x (W.1, W.2.1, W.2.2.1, (N, mixN C S i, S), W.2.2.2.2)) (j := (i : Int)) dk_rend.2.2 (by omega) (by omega) (by decide)
    rw [Int.toNat_natCast] at la
    have pl := s_putLong (d := d + 4) (r := r) (h := dkW h x (W.1, W.2.1, W.2.2.1, (N, mixN C S i, S), W.2.2.2.2)) (x := lI (S i)) (j := (i : Int)) dk_rend.2.1 (by omega) (by omega) (by decide)
    rw [Int.toNat_natCast, updL_N, dk_rc, mixN_s] at pl
    rw [r161_60]
    simp (disch := omega) only [r161_61, r161_62, r161_65, r161_68, r161_69, r161_72, r161_73, r161_74, r161_77, r161_78, r161_81, r161_84, r161_87, dk_r, iI_le, c1, la, pl, iI_add, e1, h9, kl_n, kl_i, kl_r, kl_z, kl_l, kl_d, catS_0, catS_c, cat_i, cat_l, cat_d, cat_r, cat_n, kC_r, kC_x, Option.bind_some, Option.toList_some, Option.toList_none, List.cons_append, List.nil_append, gB0, gB1, gB2, gB3, gB4, rvB, nI_iI, i0, i1, l0_, wr_s, aup_s, and_true, true_and, and_self, eq_self, if_true, if_false, Nat.zero_le, Nat.reduceAdd, Nat.reduceLeDiff, gN_I, gN_L, gN_P, bI_0, bI_ok, z0, z1, Bool.true_eq, Bool.false_eq_true, not_true_eq_false, not_false_eq_true]
theorem mixN_lt {F G : Nat → Nat} {m i : Nat} (h : i < m) : mixN F G m i = G i := if_pos h
theorem pow_loop {N : Nat} (hN : N ≤ 960) : ∀ (m p : Nat) (C S : Nat → Nat), p + m = 10 → (∀ i, vOk (C i)) → (∀ i, vOk (S i)) → runs (2 ^ p) C N → ∀ l2 l3 : Option Value,
    ∃ C' S', sor C' 0 N ∧ (∀ v, cn C' v N = cn C v N) ∧ (∀ i, vOk (C' i)) ∧ (∀ i, vOk (S' i)) ∧ L (d + 5) 161 2 [some (.ref (x + 401)), some (.int (iI p)), l2, l3] [] (dkW h x (W.1, W.2.1, W.2.2.1, (N, C, S), W.2.2.2.2), r) =
      some (.inl none, (dkW h x (W.1, W.2.1, W.2.2.1, (N, C', S'), W.2.2.2.2), r)) := by
  intro m
  induction m with
  | zero =>
    intro p C S hp hC hS hr l2 l3
    obtain rfl : p = 10 := by omega
    have s0 := hr 0
    have c1 : (10 : Int) ≤ ((10 : Nat) : Int) := by omega
    refine ⟨C, S, fun i j a1 a2 a3 => s0 i j (by omega) a2 (by
      have : (2 ^ 10 : Nat) = 1024 := rfl
      rw [this]
      omega), fun v => rfl, hC, hS, ?_⟩
    rw [r161_2]
    simp (disch := omega) only [r161_0, r161_1, r161_3, r161_5, r161_8, r161_9, r161_10, r161_11, r161_12, r161_13, r161_15, r161_16, r161_19, r161_22, r161_23, r161_24, r161_25, r161_26, r161_27, r161_28, r161_31, r161_34, r161_35, r161_36, r161_37, r161_38, r161_39, r161_40, r161_43, r161_46, r161_49, r161_50, r161_51, r161_52, r161_53, r161_54, r161_55, r161_58, r161_59, r161_61, r161_62, r161_65, r161_68, r161_69, r161_72, r161_73, r161_74, r161_77, r161_78, r161_81, r161_84, r161_87, r161_90, r161_93, r161_96, iI_le, c1, kl_n, kl_i, kl_r, kl_z, kl_l, kl_d, catS_0, catS_c, cat_i, cat_l, cat_d, cat_r, cat_n, kC_r, kC_x, Option.bind_some, Option.toList_some, Option.toList_none, List.cons_append, List.nil_append, gB0, gB1, gB2, gB3, gB4, rvB, nI_iI, i0, i1, l0_, wr_s, aup_s, and_true, true_and, and_self, eq_self, if_true, if_false, Nat.zero_le, Nat.reduceAdd, Nat.reduceLeDiff, gN_I, gN_L, gN_P, bI_0, bI_ok, z0, z1, Bool.true_eq, Bool.false_eq_true, not_true_eq_false, not_false_eq_true]
  | succ m ih =>
    intro p C S hp hC hS hr l2 l3
    have c1 : ¬ (10 : Int) ≤ (p : Int) := by omega
    have e1 : (p : Int) + 1 = ((p + 1 : Nat) : Int) := by omega
    have hR : 0 < 2 ^ p ∧ 2 ^ p ≤ 512 := ⟨Nat.two_pow_pos p, Nat.pow_le_pow_right (n := 2) (by decide) (show p ≤ 9 by omega)⟩
    have sh : iI 1 <<< (iI (p : Int) &&& 31) = iI ((2 ^ p : Nat) : Int) := shl_p ⟨p, by omega⟩
    have p2 : 2 ^ (p + 1) = 2 * 2 ^ p := by rw [Nat.pow_succ, Nat.mul_comm]
    have ih2 := ih (p + 1)
    rw [p2] at ih2
    generalize 2 ^ p = R at *
    obtain ⟨S', y, f1, f2, f3, f4⟩ := from_loop (d := d) (h := h) (r := r) (x := x) (W := W) (p := p) hR hN hC hr N 0 S (by omega) (by omega) (fun k' hk' => by omega) (fun v => by
      rw [show min (2 * R * 0) N = 0 by omega]
      rfl) hS
    have cl := copy_loop (d := d) (h := h) (r := r) (x := x) (W := W) (p := p) (R := R) (N := N) (C := C) (S := S') hN N 0 (by omega)
    rw [mixN_0, show ((0 : Nat) : Int) = 0 from rfl] at cl
    rw [show ((2 * R * 0 : Nat) : Int) = 0 from rfl] at f4
    obtain ⟨C2, S2, g1, g2, g3, g4, g5⟩ := ih2 (mixN C S' N) S' (by omega) (fun i => by
      unfold mixN
      split
      · exact f3 i
      · exact hC i) f3 (fun k i j a1 a2 a3 => by
      rw [mixN_lt (by omega), mixN_lt (by omega)]
      exact f1 k i j a1 a2 a3) (some (.int (iI R))) (some (.int (iI N)))
    refine ⟨C2, S2, g1, fun v => ?_, g3, g4, ?_⟩
    · rw [g2 v, ← f2 v]
      exact cn_congr (fun i hi => mixN_lt hi)
    · rw [r161_2]
      simp (disch := omega) only [r161_3, r161_5, r161_8, r161_9, r161_10, r161_11, r161_12, r161_13, iI_le, c1, sh, kl_n, kl_i, kl_r, kl_z, kl_l, kl_d, catS_0, catS_c, cat_i, cat_l, cat_d, cat_r, cat_n, kC_r, kC_x, Option.bind_some, Option.toList_some, Option.toList_none, List.cons_append, List.nil_append, gB0, gB1, gB2, gB3, gB4, rvB, nI_iI, i0, i1, l0_, wr_s, aup_s, and_true, true_and, and_self, eq_self, if_true, if_false, Nat.zero_le, Nat.reduceAdd, Nat.reduceLeDiff, gN_I, gN_L, gN_P, bI_0, bI_ok, z0, z1, Bool.true_eq, Bool.false_eq_true, not_true_eq_false, not_false_eq_true]
      rw [f4]
      simp (disch := omega) only [r161_58, r161_59, kl_n, kl_i, kl_r, kl_z, kl_l, kl_d, catS_0, catS_c, cat_i, cat_l, cat_d, cat_r, cat_n, kC_r, kC_x, Option.bind_some, Option.toList_some, Option.toList_none, List.cons_append, List.nil_append, gB0, gB1, gB2, gB3, gB4, rvB, nI_iI, i0, i1, l0_, wr_s, aup_s, and_true, true_and, and_self, eq_self, if_true, if_false, Nat.zero_le, Nat.reduceAdd, Nat.reduceLeDiff, gN_I, gN_L, gN_P, bI_0, bI_ok, z0, z1, Bool.true_eq, Bool.false_eq_true, not_true_eq_false, not_false_eq_true]
      rw [cl]
      simp (disch := omega) only [r161_90, r161_93, iI_add, e1, kl_n, kl_i, kl_r, kl_z, kl_l, kl_d, catS_0, catS_c, cat_i, cat_l, cat_d, cat_r, cat_n, kC_r, kC_x, Option.bind_some, Option.toList_some, Option.toList_none, List.cons_append, List.nil_append, gB0, gB1, gB2, gB3, gB4, rvB, nI_iI, i0, i1, l0_, wr_s, aup_s, and_true, true_and, and_self, eq_self, if_true, if_false, Nat.zero_le, Nat.reduceAdd, Nat.reduceLeDiff, gN_I, gN_L, gN_P, bI_0, bI_ok, z0, z1, Bool.true_eq, Bool.false_eq_true, not_true_eq_false, not_false_eq_true]
      exact g5
theorem s_sort {N : Nat} {C S : Nat → Nat} (hN : N ≤ 960) (hC : ∀ i, vOk (C i)) (hS : ∀ i, vOk (S i)) :
    ∃ C' S', sor C' 0 N ∧ (∀ v, cn C' v N = cn C v N) ∧ (∀ i, vOk (C' i)) ∧ (∀ i, vOk (S' i)) ∧ aE (d + 6) 161 [.ref (x + 401)] (dkW h x (W.1, W.2.1, W.2.2.1, (N, C, S), W.2.2.2.2), r) =
      some (.inl none, (dkW h x (W.1, W.2.1, W.2.2.1, (N, C', S'), W.2.2.2.2), r)) := by
  obtain ⟨C', S', g1, g2, g3, g4, g5⟩ := pow_loop (d := d) (h := h) (r := r) (x := x) (W := W) hN 10 0 C S (by omega) hC hS (fun k i j a1 a2 a3 => by
    have : (2 ^ 0 : Nat) = 1 := rfl
    rw [this] at a1 a3
    omega) none none
  refine ⟨C', S', g1, g2, g3, g4, ?_⟩
  rw [show ((0 : Nat) : Int) = 0 from rfl] at g5
  simp only [e161, r161_0, r161_1, g5, kl_n, kl_i, kl_r, kl_z, kl_l, kl_d, catS_0, catS_c, cat_i, cat_l, cat_d, cat_r, cat_n, kC_r, kC_x, Option.bind_some, Option.toList_some, Option.toList_none, List.cons_append, List.nil_append, gB0, gB1, gB2, gB3, gB4, rvB, nI_iI, i0, i1, l0_, wr_s, aup_s, and_true, true_and, and_self, eq_self, if_true, if_false, Nat.zero_le, Nat.reduceAdd, Nat.reduceLeDiff, gN_I, gN_L, gN_P, bI_0, bI_ok, z0, z1, Bool.true_eq, Bool.false_eq_true, not_true_eq_false, not_false_eq_true]
end
