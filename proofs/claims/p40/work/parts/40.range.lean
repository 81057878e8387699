/-! ===== the desk's changes of a range: transposed, weighed ===== -/
/-- the first k notes changed -/
def mapN (F g : Nat → Nat) (k : Nat) : Nat → Nat := fun i => if i < k then g (F i) else F i
theorem mapN_0 (F g : Nat → Nat) : mapN F g 0 = F := funext fun i => if_neg (by omega)
theorem mapN_at (F g : Nat → Nat) (k : Nat) : mapN F g k k = F k := if_neg (by omega)
theorem mapN_s (F g : Nat → Nat) (k : Nat) : upN (mapN F g k) k (g (F k)) = mapN F g (k + 1) := by
  funext i
  unfold upN mapN
  by_cases e : i = k
  · rw [if_pos e, if_pos (by omega), e]
  · rw [if_neg e]
    by_cases e2 : i < k
    · rw [if_pos e2, if_pos (by omega)]
    · rw [if_neg e2, if_neg (by omega)]
theorem mapN_z {F g : Nat → Nat} {k : Nat} (hg : g (F k) = F k) : mapN F g k = mapN F g (k + 1) := by
  funext i
  unfold mapN
  by_cases e : i = k
  · rw [if_neg (by omega), if_pos (by omega), e, hg]
  · by_cases e2 : i < k
    · rw [if_pos e2, if_pos (by omega)]
    · rw [if_neg e2, if_neg (by omega)]
theorem mapN_ok {F g : Nat → Nat} {k : Nat} {P : Nat → Prop} (hg : ∀ c, P c → P (g c)) (hF : ∀ i, P (F i)) : ∀ i, P (mapN F g k i) := fun i => by
  unfold mapN
  split
  · exact hg _ (hF i)
  · exact hF i
/-- how many of the first k -/
def cntP (p : Nat → Bool) (F : Nat → Nat) : Nat → Nat := sm (fun i => if p (F i) = true then 1 else 0)
theorem cntP_le (p : Nat → Bool) (F : Nat → Nat) (k : Nat) : cntP p F k ≤ k := by
  have := sm_le (g := fun i => if p (F i) = true then 1 else 0) (b := 1) (fun i => by split <;> omega) k
  unfold cntP
  omega
theorem cntP_t {p : Nat → Bool} {F : Nat → Nat} {k : Nat} (h : p (F k) = true) : cntP p F (k + 1) = cntP p F k + 1 := by
  show sm _ k + (if p (F k) = true then 1 else 0) = _
  rw [if_pos h]
  rfl
theorem cntP_f {p : Nat → Bool} {F : Nat → Nat} {k : Nat} (h : ¬ p (F k) = true) : cntP p F (k + 1) = cntP p F k := by
  show sm _ k + (if p (F k) = true then 1 else 0) = _
  rw [if_neg h]
  rfl
def inB4 (t v u : Int) (c : Nat) : Bool := decide (cIn c t v u)
abbrev rgOk (t v u : Int) : Prop := -1 ≤ t ∧ t ≤ 5 ∧ 0 ≤ v ∧ v < u ∧ u ≤ 9600
abbrev tpOk (t v u b : Int) (c : Nat) : Prop := cIn c t v u → 0 ≤ (cP c : Int) + b ∧ (cP c : Int) + b ≤ 127
def tpG (t v u b : Int) (c : Nat) : Nat := if cIn c t v u then cO (cT c) (cS c) ((cP c : Int) + b).toNat (cL c) (cF c) else c
def wgG (t v u : Int) (p : Nat) (c : Nat) : Nat := if cIn c t v u then cO (cT c) (cS c) (cP c) (cL c) (max 1 (min 127 (cF c * p / 100))) else c
theorem wgG_ok {t v u : Int} {p c : Nat} (hc : cOk c) : cOk (wgG t v u p c) := by
  unfold wgG
  split
  · exact cO_ok (cT_lt hc) (cS_lt c) (cP_lt c) (cL_lt c) (by omega)
  · exact hc
section
variable {d n w : Nat} {g : Nat × Nat} {h : aHf} {x : Nat} {W : Dk}
theorem can_loop {t v u b : Int} (hO : dkOk W) (hr : rgOk t v u) (hb : -127 ≤ b ∧ b ≤ 127) : ∀ m i : Nat, i + m = W.1.1.1 → ∀ l6 l7 : Option Value, L (d + 10) 43 3 [some (.ref x), some (.int (iI t)), some (.int (iI v)), some (.int (iI u)), some (.int (iI b)), some (.int (iI i)), l6, l7] [] (dkW h x W, n, w, g) =
    some (.inl (some (.int (bI (alR (fun j => decide (tpOk t v u b (W.1.1.2 j))) i m = true)))), (dkW h x W, n, w, g)) := by
  have hn := hO.1.1
  intro m
  induction m with
  | zero =>
    intro i hi l6 l7
    have c1 : (W.1.1.1 : Int) ≤ i := by omega
    rw [r43_3]
    simp (disch := omega) only [r43_0, r43_1, r43_5, r43_6, r43_9, r43_12, r43_15, r43_18, r43_19, r43_22, r43_25, r43_27, r43_30, r43_32, r43_34, r43_35, r43_36, r43_37, r43_40, r43_43, r43_45, r43_48, r43_50, r43_51, r43_52, r43_54, r43_57, r43_60, r43_61, r43_62, r43_65, r43_68, r43_69, dk_0, dk_1, dk_2, k_size, iI_le, c1, kl_n, kl_i, kl_r, kl_z, kl_l, kl_d, catS_0, catS_c, cat_i, cat_l, cat_d, cat_r, cat_n, kC_r, kC_x, Option.bind_some, Option.toList_some, Option.toList_none, List.cons_append, List.nil_append, gB0, gB1, gB2, gB3, gB4, rvB, nI_iI, i0, i1, l0_, wr_s, aup_s, and_true, true_and, and_self, eq_self, if_true, if_false, Nat.zero_le, Nat.reduceAdd, Nat.reduceLeDiff, gN_I, gN_L, gN_P, bI_0, bI_ok, z0, z1, Bool.true_eq, Bool.false_eq_true, not_true_eq_false, not_false_eq_true]
    exact fin_T rfl
  | succ m ih =>
    intro i hi l6 l7
    have c1 : ¬ (W.1.1.1 : Int) ≤ i := by omega
    have e1 : (i : Int) + 1 = ((i + 1 : Nat) : Int) := by omega
    have hc := hO.1.2.1 i
    have a3 := cP_lt (W.1.1.2 i)
    have h9 := fun l4 l5 => ih (i + 1) (by omega) l4 l5
    have s1 : alR (fun j => decide (tpOk t v u b (W.1.1.2 j))) i (m + 1) = (decide (tpOk t v u b (W.1.1.2 i)) && alR (fun j => decide (tpOk t v u b (W.1.1.2 j))) (i + 1) m) := rfl
    rw [s1, r43_3]
    by_cases q : cIn (W.1.1.2 i) t v u
    · have qT := eq_true q
      by_cases q2 : 0 ≤ (cP (W.1.1.2 i) : Int) + b ∧ (cP (W.1.1.2 i) : Int) + b ≤ 127
      · have q3 : decide (tpOk t v u b (W.1.1.2 i)) = true := decide_eq_true (fun _ => q2)
        rw [q3]
        simp (disch := omega) only [r43_0, r43_1, r43_5, r43_6, r43_9, r43_12, r43_15, r43_18, r43_19, r43_22, r43_25, r43_27, r43_30, r43_32, r43_34, r43_35, r43_36, r43_37, r43_40, r43_43, r43_45, r43_48, r43_50, r43_51, r43_52, r43_54, r43_57, r43_60, r43_61, r43_62, r43_65, r43_68, r43_69, dk_0, dk_1, dk_2, k_size, iI_le, c1, k_codeAt, s_isIn hc, qT, s_pitch hc, iI_add, s_isWithin, q2, e1, h9, Bool.true_and, kl_n, kl_i, kl_r, kl_z, kl_l, kl_d, catS_0, catS_c, cat_i, cat_l, cat_d, cat_r, cat_n, kC_r, kC_x, Option.bind_some, Option.toList_some, Option.toList_none, List.cons_append, List.nil_append, gB0, gB1, gB2, gB3, gB4, rvB, nI_iI, i0, i1, l0_, wr_s, aup_s, and_true, true_and, and_self, eq_self, if_true, if_false, Nat.zero_le, Nat.reduceAdd, Nat.reduceLeDiff, gN_I, gN_L, gN_P, bI_0, bI_ok, z0, z1, Bool.true_eq, Bool.false_eq_true, not_true_eq_false, not_false_eq_true]
      · have q3 : decide (tpOk t v u b (W.1.1.2 i)) = false := decide_eq_false (fun z => q2 (z q))
        rw [q3]
        simp (disch := omega) only [r43_0, r43_1, r43_5, r43_6, r43_9, r43_12, r43_15, r43_18, r43_19, r43_22, r43_25, r43_27, r43_30, r43_32, r43_34, r43_35, r43_36, r43_37, r43_40, r43_43, r43_45, r43_48, r43_50, r43_51, r43_52, r43_54, r43_57, r43_60, r43_61, r43_62, r43_65, r43_68, r43_69, dk_0, dk_1, dk_2, k_size, iI_le, c1, k_codeAt, s_isIn hc, qT, s_pitch hc, iI_add, s_isWithin, q2, e1, Bool.false_and, kl_n, kl_i, kl_r, kl_z, kl_l, kl_d, catS_0, catS_c, cat_i, cat_l, cat_d, cat_r, cat_n, kC_r, kC_x, Option.bind_some, Option.toList_some, Option.toList_none, List.cons_append, List.nil_append, gB0, gB1, gB2, gB3, gB4, rvB, nI_iI, i0, i1, l0_, wr_s, aup_s, and_true, true_and, and_self, eq_self, if_true, if_false, Nat.zero_le, Nat.reduceAdd, Nat.reduceLeDiff, gN_I, gN_L, gN_P, bI_0, bI_ok, z0, z1, Bool.true_eq, Bool.false_eq_true, not_true_eq_false, not_false_eq_true]
        exact fin_F id
    · have qT := eq_false q
      have q3 : decide (tpOk t v u b (W.1.1.2 i)) = true := decide_eq_true (fun z => absurd z q)
      rw [q3]
      simp (disch := omega) only [r43_0, r43_1, r43_5, r43_6, r43_9, r43_12, r43_15, r43_18, r43_19, r43_22, r43_25, r43_27, r43_30, r43_32, r43_34, r43_35, r43_36, r43_37, r43_40, r43_43, r43_45, r43_48, r43_50, r43_51, r43_52, r43_54, r43_57, r43_60, r43_61, r43_62, r43_65, r43_68, r43_69, dk_0, dk_1, dk_2, k_size, iI_le, c1, k_codeAt, s_isIn hc, qT, iI_add, e1, h9, Bool.true_and, kl_n, kl_i, kl_r, kl_z, kl_l, kl_d, catS_0, catS_c, cat_i, cat_l, cat_d, cat_r, cat_n, kC_r, kC_x, Option.bind_some, Option.toList_some, Option.toList_none, List.cons_append, List.nil_append, gB0, gB1, gB2, gB3, gB4, rvB, nI_iI, i0, i1, l0_, wr_s, aup_s, and_true, true_and, and_self, eq_self, if_true, if_false, Nat.zero_le, Nat.reduceAdd, Nat.reduceLeDiff, gN_I, gN_L, gN_P, bI_0, bI_ok, z0, z1, Bool.true_eq, Bool.false_eq_true, not_true_eq_false, not_false_eq_true]
theorem s_canTranspose {t v u b : Int} (hO : dkOk W) (hr : rgOk t v u) (hb : -127 ≤ b ∧ b ≤ 127) : aE (d + 11) 43 [.ref x, .int (iI t), .int (iI v), .int (iI u), .int (iI b)] (dkW h x W, n, w, g) =
    some (.inl (some (.int (bI (∀ j, j < W.1.1.1 → tpOk t v u b (W.1.1.2 j))))), (dkW h x W, n, w, g)) := by
  have hl := can_loop (d := d) (n := n) (w := w) (g := g) (h := h) (x := x) hO hr hb W.1.1.1 0 (by omega) none none
  rw [show ((0 : Nat) : Int) = 0 from rfl] at hl
  have e0 : bI (alR (fun j => decide (tpOk t v u b (W.1.1.2 j))) 0 W.1.1.1 = true) = bI (∀ j, j < W.1.1.1 → tpOk t v u b (W.1.1.2 j)) := by
    have e1 : (alR (fun j => decide (tpOk t v u b (W.1.1.2 j))) 0 W.1.1.1 = true) ↔ (∀ j, j < W.1.1.1 → tpOk t v u b (W.1.1.2 j)) := by
      rw [alR_0]
      exact ⟨fun z j hj => of_decide_eq_true (z j hj), fun z j hj => decide_eq_true (z j hj)⟩
    by_cases q : ∀ j, j < W.1.1.1 → tpOk t v u b (W.1.1.2 j)
    · rw [← bI_T q, ← bI_T (e1.mpr q)]
    · rw [← bI_F q, ← bI_F (fun z => q (e1.mp z))]
  rw [e0] at hl
  simp only [e43, r43_0, r43_1, r43_5, r43_6, r43_9, r43_12, r43_15, r43_18, r43_19, r43_22, r43_25, r43_27, r43_30, r43_32, r43_34, r43_35, r43_36, r43_37, r43_40, r43_43, r43_45, r43_48, r43_50, r43_51, r43_52, r43_54, r43_57, r43_60, r43_61, r43_62, r43_65, r43_68, r43_69, hl, kl_n, kl_i, kl_r, kl_z, kl_l, kl_d, catS_0, catS_c, cat_i, cat_l, cat_d, cat_r, cat_n, kC_r, kC_x, Option.bind_some, Option.toList_some, Option.toList_none, List.cons_append, List.nil_append, gB0, gB1, gB2, gB3, gB4, rvB, nI_iI, i0, i1, l0_, wr_s, aup_s, and_true, true_and, and_self, eq_self, if_true, if_false, Nat.zero_le, Nat.reduceAdd, Nat.reduceLeDiff, gN_I, gN_L, gN_P, bI_0, bI_ok, z0, z1, Bool.true_eq, Bool.false_eq_true, not_true_eq_false, not_false_eq_true]
theorem tp_loop {t v u b : Int} (hO : dkOk W) (hr : rgOk t v u) (hb : -127 ≤ b ∧ b ≤ 127) (hP : ∀ j, j < W.1.1.1 → tpOk t v u b (W.1.1.2 j)) (hS : sgOk ((W.1.1.1, srtN (mapN W.1.1.2 (tpG t v u b) W.1.1.1) W.1.1.1), W.1.2))
    (hM : ∀ i, cOk (mapN W.1.1.2 (tpG t v u b) W.1.1.1 i)) : ∀ m i : Nat, i + m = W.1.1.1 → ∀ l7 l8 : Option Value, L (d + 11) 44 59 [some (.ref x), some (.int (iI t)), some (.int (iI v)), some (.int (iI u)), some (.int (iI b)), some (.int (iI (cntP (inB4 t v u) W.1.1.2 i))), some (.int (iI i)), l7, l8] [] (dkW h x (((W.1.1.1, mapN W.1.1.2 (tpG t v u b) i), W.1.2), W.2), n, w, g) =
    some (.inl (some (.int (iI (cntP (inB4 t v u) W.1.1.2 W.1.1.1)))), (dkW h x (seW (((W.1.1.1, srtN (mapN W.1.1.2 (tpG t v u b) W.1.1.1) W.1.1.1), W.1.2), W.2)), n, w, g)) := by
  have hn := hO.1.1
  intro m
  induction m with
  | zero =>
    intro i hi l7 l8
    obtain rfl : i = W.1.1.1 := by omega
    have c1 : (W.1.1.1 : Int) ≤ W.1.1.1 := by omega
    have d1 := k_sort (d := d + 7) (h := h) (r := (n, w, g)) (x := x) (W := (((W.1.1.1, mapN W.1.1.2 (tpG t v u b) W.1.1.1), W.1.2), W.2)) hn hM
    have d2 := s_settle (d := d + 5) (h := h) (r := (n, w, g)) (x := x) (W := (((W.1.1.1, srtN (mapN W.1.1.2 (tpG t v u b) W.1.1.1) W.1.1.1), W.1.2), W.2)) hS hO.2.1
    rw [r44_59]
    simp (disch := omega) only [r44_0, r44_1, r44_2, r44_3, r44_6, r44_9, r44_11, r44_13, r44_15, r44_18, r44_21, r44_31, r44_32, r44_33, r44_34, r44_35, r44_37, r44_40, r44_43, r44_53, r44_54, r44_56, r44_57, r44_61, r44_62, r44_65, r44_68, r44_71, r44_74, r44_75, r44_78, r44_81, r44_83, r44_86, r44_88, r44_90, r44_91, r44_92, r44_93, r44_96, r44_99, r44_102, r44_103, r44_106, r44_109, r44_111, r44_113, r44_115, r44_118, r44_120, r44_121, r44_124, r44_127, r44_130, r44_133, r44_134, r44_137, r44_140, r44_143, r44_144, r44_147, r44_149, dk_0, dk_1, dk_2, k_size, iI_le, c1, d1, d2, kl_n, kl_i, kl_r, kl_z, kl_l, kl_d, catS_0, catS_c, cat_i, cat_l, cat_d, cat_r, cat_n, kC_r, kC_x, Option.bind_some, Option.toList_some, Option.toList_none, List.cons_append, List.nil_append, gB0, gB1, gB2, gB3, gB4, rvB, nI_iI, i0, i1, l0_, wr_s, aup_s, and_true, true_and, and_self, eq_self, if_true, if_false, Nat.zero_le, Nat.reduceAdd, Nat.reduceLeDiff, gN_I, gN_L, gN_P, bI_0, bI_ok, z0, z1, Bool.true_eq, Bool.false_eq_true, not_true_eq_false, not_false_eq_true]
  | succ m ih =>
    intro i hi l7 l8
    have c1 : ¬ (W.1.1.1 : Int) ≤ i := by omega
    have e1 : (i : Int) + 1 = ((i + 1 : Nat) : Int) := by omega
    have hc := hO.1.2.1 i
    have a3 := cP_lt (W.1.1.2 i)
    have h9 := fun l4 l5 => ih (i + 1) (by omega) l4 l5
    rw [r44_59]
    by_cases q : cIn (W.1.1.2 i) t v u
    · have qT := eq_true q
      have q2 := hP i (by omega) q
      have e2 : (cP (W.1.1.2 i) : Int) + b = ((((cP (W.1.1.2 i) : Int) + b).toNat : Nat) : Int) := by omega
      have e3 : (cntP (inB4 t v u) W.1.1.2 i : Int) + 1 = (cntP (inB4 t v u) W.1.1.2 (i + 1) : Int) := by rw [cntP_t (decide_eq_true q)]; omega
      have e4 : cO (cT (W.1.1.2 i)) (cS (W.1.1.2 i)) ((cP (W.1.1.2 i) : Int) + b).toNat (cL (W.1.1.2 i)) (cF (W.1.1.2 i)) = tpG t v u b (W.1.1.2 i) := (if_pos q).symm
      have p1 : ((cP (W.1.1.2 i) : Int) + b).toNat < 128 := by omega
      generalize hpp : ((cP (W.1.1.2 i) : Int) + b).toNat = pp at e2 e4 p1
      simp (disch := omega) only [r44_0, r44_1, r44_2, r44_3, r44_6, r44_9, r44_11, r44_13, r44_15, r44_18, r44_21, r44_31, r44_32, r44_33, r44_34, r44_35, r44_37, r44_40, r44_43, r44_53, r44_54, r44_56, r44_57, r44_61, r44_62, r44_65, r44_68, r44_71, r44_74, r44_75, r44_78, r44_81, r44_83, r44_86, r44_88, r44_90, r44_91, r44_92, r44_93, r44_96, r44_99, r44_102, r44_103, r44_106, r44_109, r44_111, r44_113, r44_115, r44_118, r44_120, r44_121, r44_124, r44_127, r44_130, r44_133, r44_134, r44_137, r44_140, r44_143, r44_144, r44_147, r44_149, dk_0, dk_1, dk_2, k_size, iI_le, c1, k_codeAt, mapN_at, s_isIn hc, qT, s_pitch hc, iI_add, e2, s_withPitch hc p1, e4, k_put, mapN_s, e3, e1, h9, kl_n, kl_i, kl_r, kl_z, kl_l, kl_d, catS_0, catS_c, cat_i, cat_l, cat_d, cat_r, cat_n, kC_r, kC_x, Option.bind_some, Option.toList_some, Option.toList_none, List.cons_append, List.nil_append, gB0, gB1, gB2, gB3, gB4, rvB, nI_iI, i0, i1, l0_, wr_s, aup_s, and_true, true_and, and_self, eq_self, if_true, if_false, Nat.zero_le, Nat.reduceAdd, Nat.reduceLeDiff, gN_I, gN_L, gN_P, bI_0, bI_ok, z0, z1, Bool.true_eq, Bool.false_eq_true, not_true_eq_false, not_false_eq_true]
    · have qT := eq_false q
      have e3 : cntP (inB4 t v u) W.1.1.2 i = cntP (inB4 t v u) W.1.1.2 (i + 1) := (cntP_f (fun z => q (of_decide_eq_true z))).symm
      have e4 : tpG t v u b (W.1.1.2 i) = W.1.1.2 i := if_neg q
      rw [← e3, ← mapN_z e4] at h9
      simp (disch := omega) only [r44_0, r44_1, r44_2, r44_3, r44_6, r44_9, r44_11, r44_13, r44_15, r44_18, r44_21, r44_31, r44_32, r44_33, r44_34, r44_35, r44_37, r44_40, r44_43, r44_53, r44_54, r44_56, r44_57, r44_61, r44_62, r44_65, r44_68, r44_71, r44_74, r44_75, r44_78, r44_81, r44_83, r44_86, r44_88, r44_90, r44_91, r44_92, r44_93, r44_96, r44_99, r44_102, r44_103, r44_106, r44_109, r44_111, r44_113, r44_115, r44_118, r44_120, r44_121, r44_124, r44_127, r44_130, r44_133, r44_134, r44_137, r44_140, r44_143, r44_144, r44_147, r44_149, dk_0, dk_1, dk_2, k_size, iI_le, c1, k_codeAt, mapN_at, s_isIn hc, qT, iI_add, e1, h9, kl_n, kl_i, kl_r, kl_z, kl_l, kl_d, catS_0, catS_c, cat_i, cat_l, cat_d, cat_r, cat_n, kC_r, kC_x, Option.bind_some, Option.toList_some, Option.toList_none, List.cons_append, List.nil_append, gB0, gB1, gB2, gB3, gB4, rvB, nI_iI, i0, i1, l0_, wr_s, aup_s, and_true, true_and, and_self, eq_self, if_true, if_false, Nat.zero_le, Nat.reduceAdd, Nat.reduceLeDiff, gN_I, gN_L, gN_P, bI_0, bI_ok, z0, z1, Bool.true_eq, Bool.false_eq_true, not_true_eq_false, not_false_eq_true]
theorem s_transpose {t v u b : Int} (hO : dkOk W) (hr : rgOk t v u) (hb : -127 ≤ b ∧ b ≤ 127) (hP : ∀ j, j < W.1.1.1 → tpOk t v u b (W.1.1.2 j)) (hS : sgOk ((W.1.1.1, srtN (mapN W.1.1.2 (tpG t v u b) W.1.1.1) W.1.1.1), W.1.2))
    (hM : ∀ i, cOk (mapN W.1.1.2 (tpG t v u b) W.1.1.1 i)) : aE (d + 12) 44 [.ref x, .int (iI t), .int (iI v), .int (iI u), .int (iI b)] (dkW h x W, n, w, g) =
    some (.inl (some (.int (iI (cntP (inB4 t v u) W.1.1.2 W.1.1.1)))), (dkW h x (seW (((W.1.1.1, srtN (mapN W.1.1.2 (tpG t v u b) W.1.1.1) W.1.1.1), W.1.2), W.2)), n, w, g)) := by
  have hl := tp_loop (d := d) (n := n) (w := w) (g := g) (h := h) (x := x) hO hr hb hP hS hM W.1.1.1 0 (by omega) none none
  rw [show ((0 : Nat) : Int) = 0 from rfl, show ((cntP (inB4 t v u) W.1.1.2 0 : Nat) : Int) = 0 from rfl, mapN_0] at hl
  have hr2 : rgOk t v u := hr
  unfold rgOk at hr2
  have q1 := eq_true hr2
  have q2 := eq_true hP
  simp (disch := omega) only [e44, r44_0, r44_1, r44_2, r44_3, r44_6, r44_9, r44_11, r44_13, r44_15, r44_18, r44_21, r44_31, r44_32, r44_33, r44_34, r44_35, r44_37, r44_40, r44_43, r44_53, r44_54, r44_56, r44_57, r44_61, r44_62, r44_65, r44_68, r44_71, r44_74, r44_75, r44_78, r44_81, r44_83, r44_86, r44_88, r44_90, r44_91, r44_92, r44_93, r44_96, r44_99, r44_102, r44_103, r44_106, r44_109, r44_111, r44_113, r44_115, r44_118, r44_120, r44_121, r44_124, r44_127, r44_130, r44_133, r44_134, r44_137, r44_140, r44_143, r44_144, r44_147, r44_149, s_isRange, q1, s_isWithin, hb, s_canTranspose hO hr hb, q2, hl, dk_0, kl_n, kl_i, kl_r, kl_z, kl_l, kl_d, catS_0, catS_c, cat_i, cat_l, cat_d, cat_r, cat_n, kC_r, kC_x, Option.bind_some, Option.toList_some, Option.toList_none, List.cons_append, List.nil_append, gB0, gB1, gB2, gB3, gB4, rvB, nI_iI, i0, i1, l0_, wr_s, aup_s, and_true, true_and, and_self, eq_self, if_true, if_false, Nat.zero_le, Nat.reduceAdd, Nat.reduceLeDiff, gN_I, gN_L, gN_P, bI_0, bI_ok, z0, z1, Bool.true_eq, Bool.false_eq_true, not_true_eq_false, not_false_eq_true]
theorem s_transpose_1 {t v u b : Int} (b1 : -2147483648 ≤ t ∧ t < 2147483648) (b2 : -2147483648 ≤ v ∧ v < 2147483648) (b3 : -2147483648 ≤ u ∧ u < 2147483648) (b4 : -2147483648 ≤ b ∧ b < 2147483648) (hc : ¬ (rgOk t v u ∧ -127 ≤ b ∧ b ≤ 127)) :
    aE (d + 12) 44 [.ref x, .int (iI t), .int (iI v), .int (iI u), .int (iI b)] (dkW h x W, n, w, g) = some (.inr "java/lang/IllegalArgumentException", (dkW h x W, n + 1, w + 6, g)) := by
  have c8 : 8 ≤ d + 11 := by omega
  simp (disch := omega) only [e44, r44_0, r44_1, r44_2, r44_3, r44_6, r44_9, r44_11, r44_13, r44_15, r44_18, r44_21, s_isRange, s_isWithin, c8, ite_not, kl_n, kl_i, kl_r, kl_z, kl_l, kl_d, catS_0, catS_c, cat_i, cat_l, cat_d, cat_r, cat_n, kC_r, kC_x, Option.bind_some, Option.toList_some, Option.toList_none, List.cons_append, List.nil_append, gB0, gB1, gB2, gB3, gB4, rvB, nI_iI, i0, i1, l0_, wr_s, aup_s, and_true, true_and, and_self, eq_self, if_true, if_false, Nat.zero_le, Nat.reduceAdd, Nat.reduceLeDiff, gN_I, gN_L, gN_P, bI_0, bI_ok, z0, z1, Bool.true_eq, Bool.false_eq_true, not_true_eq_false, not_false_eq_true]
  by_cases q : -1 ≤ t ∧ t ≤ 5 ∧ 0 ≤ v ∧ v < u ∧ u ≤ 9600
  · rw [if_pos q, if_neg (fun z => hc ⟨q, z⟩)]
  · rw [if_neg q]
theorem s_transpose_2 {t v u b : Int} (hO : dkOk W) (hr : rgOk t v u) (hb : -127 ≤ b ∧ b ≤ 127) (hP : ¬ ∀ j, j < W.1.1.1 → tpOk t v u b (W.1.1.2 j)) :
    aE (d + 12) 44 [.ref x, .int (iI t), .int (iI v), .int (iI u), .int (iI b)] (dkW h x W, n, w, g) = some (.inr "java/lang/IllegalStateException", (dkW h x W, n + 1, w + 6, g)) := by
  have c8 : 8 ≤ d + 11 := by omega
  have hr2 : rgOk t v u := hr
  unfold rgOk at hr2
  have q1 := eq_true hr2
  have q2 := eq_false hP
  simp (disch := omega) only [e44, r44_0, r44_1, r44_2, r44_3, r44_6, r44_9, r44_11, r44_13, r44_15, r44_18, r44_21, r44_31, r44_32, r44_33, r44_34, r44_35, r44_37, r44_40, r44_43, r44_53, r44_54, r44_56, r44_57, r44_61, r44_62, r44_65, r44_68, r44_71, r44_74, r44_75, r44_78, r44_81, r44_83, r44_86, r44_88, r44_90, r44_91, r44_92, r44_93, r44_96, r44_99, r44_102, r44_103, r44_106, r44_109, r44_111, r44_113, r44_115, r44_118, r44_120, r44_121, r44_124, r44_127, r44_130, r44_133, r44_134, r44_137, r44_140, r44_143, r44_144, r44_147, r44_149, s_isRange, q1, s_isWithin, hb, s_canTranspose hO hr hb, q2, c8, dk_0, kl_n, kl_i, kl_r, kl_z, kl_l, kl_d, catS_0, catS_c, cat_i, cat_l, cat_d, cat_r, cat_n, kC_r, kC_x, Option.bind_some, Option.toList_some, Option.toList_none, List.cons_append, List.nil_append, gB0, gB1, gB2, gB3, gB4, rvB, nI_iI, i0, i1, l0_, wr_s, aup_s, and_true, true_and, and_self, eq_self, if_true, if_false, Nat.zero_le, Nat.reduceAdd, Nat.reduceLeDiff, gN_I, gN_L, gN_P, bI_0, bI_ok, z0, z1, Bool.true_eq, Bool.false_eq_true, not_true_eq_false, not_false_eq_true]
/-! weigh -/
theorem wg_loop {t v u : Int} {p : Nat} (hO : dkOk W) (hr : rgOk t v u) (hp : p ≤ 400) (hS : sgOk ((W.1.1.1, srtN (mapN W.1.1.2 (wgG t v u p) W.1.1.1) W.1.1.1), W.1.2)) : ∀ m i : Nat, i + m = W.1.1.1 → ∀ l7 l8 l9 : Option Value, L (d + 11) 45 37 [some (.ref x), some (.int (iI t)), some (.int (iI v)), some (.int (iI u)), some (.int (iI p)), some (.int (iI (cntP (inB4 t v u) W.1.1.2 i))), some (.int (iI i)), l7, l8, l9] [] (dkW h x (((W.1.1.1, mapN W.1.1.2 (wgG t v u p) i), W.1.2), W.2), n, w, g) =
    some (.inl (some (.int (iI (cntP (inB4 t v u) W.1.1.2 W.1.1.1)))), (dkW h x (seW (((W.1.1.1, srtN (mapN W.1.1.2 (wgG t v u p) W.1.1.1) W.1.1.1), W.1.2), W.2)), n, w, g)) := by
  have hn := hO.1.1
  intro m
  induction m with
  | zero =>
    intro i hi l7 l8 l9
    obtain rfl : i = W.1.1.1 := by omega
    have c1 : (W.1.1.1 : Int) ≤ W.1.1.1 := by omega
    have d1 := k_sort (d := d + 7) (h := h) (r := (n, w, g)) (x := x) (W := (((W.1.1.1, mapN W.1.1.2 (wgG t v u p) W.1.1.1), W.1.2), W.2)) hn (mapN_ok (fun c hc => wgG_ok hc) hO.1.2.1)
    have d2 := s_settle (d := d + 5) (h := h) (r := (n, w, g)) (x := x) (W := (((W.1.1.1, srtN (mapN W.1.1.2 (wgG t v u p) W.1.1.1) W.1.1.1), W.1.2), W.2)) hS hO.2.1
    rw [r45_37]
    simp (disch := omega) only [r45_0, r45_1, r45_2, r45_3, r45_6, r45_9, r45_11, r45_12, r45_15, r45_18, r45_21, r45_31, r45_32, r45_34, r45_35, r45_39, r45_40, r45_43, r45_46, r45_49, r45_52, r45_53, r45_56, r45_59, r45_61, r45_64, r45_66, r45_68, r45_69, r45_70, r45_71, r45_74, r45_77, r45_80, r45_82, r45_85, r45_87, r45_88, r45_90, r45_91, r45_93, r45_94, r45_97, r45_100, r45_102, r45_104, r45_105, r45_107, r45_109, r45_112, r45_115, r45_118, r45_121, r45_124, r45_127, r45_128, r45_131, r45_134, r45_137, r45_138, r45_141, r45_143, dk_0, dk_1, dk_2, k_size, iI_le, c1, d1, d2, kl_n, kl_i, kl_r, kl_z, kl_l, kl_d, catS_0, catS_c, cat_i, cat_l, cat_d, cat_r, cat_n, kC_r, kC_x, Option.bind_some, Option.toList_some, Option.toList_none, List.cons_append, List.nil_append, gB0, gB1, gB2, gB3, gB4, rvB, nI_iI, i0, i1, l0_, wr_s, aup_s, and_true, true_and, and_self, eq_self, if_true, if_false, Nat.zero_le, Nat.reduceAdd, Nat.reduceLeDiff, gN_I, gN_L, gN_P, bI_0, bI_ok, z0, z1, Bool.true_eq, Bool.false_eq_true, not_true_eq_false, not_false_eq_true]
  | succ m ih =>
    intro i hi l7 l8 l9
    have c1 : ¬ (W.1.1.1 : Int) ≤ i := by omega
    have e1 : (i : Int) + 1 = ((i + 1 : Nat) : Int) := by omega
    have hc := hO.1.2.1 i
    have a3 := cF_lt (W.1.1.2 i)
    have h9 := fun l4 l5 l6 => ih (i + 1) (by omega) l4 l5 l6
    have f1 : ¬ iI 100 = iI 0 := by decide
    rw [r45_37]
    by_cases q : cIn (W.1.1.2 i) t v u
    · have qT := eq_true q
      have hm : cF (W.1.1.2 i) * p ≤ 127 * 400 := Nat.mul_le_mul (by omega) hp
      have e4 : cO (cT (W.1.1.2 i)) (cS (W.1.1.2 i)) (cP (W.1.1.2 i)) (cL (W.1.1.2 i)) (max 1 (min 127 (cF (W.1.1.2 i) * p / 100))) = wgG t v u p (W.1.1.2 i) := (if_pos q).symm
      have e5 : (cF (W.1.1.2 i) : Int) * (p : Int) = ((cF (W.1.1.2 i) * p : Nat) : Int) := by push_cast; rfl
      have e3 : (cntP (inB4 t v u) W.1.1.2 i : Int) + 1 = (cntP (inB4 t v u) W.1.1.2 (i + 1) : Int) := by rw [cntP_t (decide_eq_true q)]; omega
      generalize hz : cF (W.1.1.2 i) * p = z at e5 e4 hm
      have e6 : (z : Int) / 100 = ((z / 100 : Nat) : Int) := rfl
      have e7 : max (1 : Int) (min 127 ((z / 100 : Nat) : Int)) = ((max 1 (min 127 (z / 100)) : Nat) : Int) := by omega
      have p1 : max 1 (min 127 (z / 100)) < 128 := by omega
      have g1 := s_min (d := d + 10) (h := dkW h x (((W.1.1.1, mapN W.1.1.2 (wgG t v u p) i), W.1.2), W.2)) (r := (n, w, g)) (a := 127) (b := ((z / 100 : Nat) : Int)) (by omega) (by omega) (by omega) (by omega)
      have g2 := s_max (d := d + 10) (h := dkW h x (((W.1.1.1, mapN W.1.1.2 (wgG t v u p) i), W.1.2), W.2)) (r := (n, w, g)) (a := 1) (b := min 127 ((z / 100 : Nat) : Int)) (by omega) (by omega) (by omega) (by omega)
      rw [e7] at g2
      simp (disch := omega) only [r45_0, r45_1, r45_2, r45_3, r45_6, r45_9, r45_11, r45_12, r45_15, r45_18, r45_21, r45_31, r45_32, r45_34, r45_35, r45_39, r45_40, r45_43, r45_46, r45_49, r45_52, r45_53, r45_56, r45_59, r45_61, r45_64, r45_66, r45_68, r45_69, r45_70, r45_71, r45_74, r45_77, r45_80, r45_82, r45_85, r45_87, r45_88, r45_90, r45_91, r45_93, r45_94, r45_97, r45_100, r45_102, r45_104, r45_105, r45_107, r45_109, r45_112, r45_115, r45_118, r45_121, r45_124, r45_127, r45_128, r45_131, r45_134, r45_137, r45_138, r45_141, r45_143, dk_0, dk_1, dk_2, k_size, iI_le, c1, k_codeAt, mapN_at, s_isIn hc, qT, s_force hc, iI_add, iI_mul, e5, f1, iI_div, e6, g1, g2, s_withForce hc p1, e4, k_put, mapN_s, e3, e1, h9, kl_n, kl_i, kl_r, kl_z, kl_l, kl_d, catS_0, catS_c, cat_i, cat_l, cat_d, cat_r, cat_n, kC_r, kC_x, Option.bind_some, Option.toList_some, Option.toList_none, List.cons_append, List.nil_append, gB0, gB1, gB2, gB3, gB4, rvB, nI_iI, i0, i1, l0_, wr_s, aup_s, and_true, true_and, and_self, eq_self, if_true, if_false, Nat.zero_le, Nat.reduceAdd, Nat.reduceLeDiff, gN_I, gN_L, gN_P, bI_0, bI_ok, z0, z1, Bool.true_eq, Bool.false_eq_true, not_true_eq_false, not_false_eq_true]
    · have qT := eq_false q
      have e3 : cntP (inB4 t v u) W.1.1.2 i = cntP (inB4 t v u) W.1.1.2 (i + 1) := (cntP_f (fun z => q (of_decide_eq_true z))).symm
      have e4 : wgG t v u p (W.1.1.2 i) = W.1.1.2 i := if_neg q
      rw [← e3, ← mapN_z e4] at h9
      simp (disch := omega) only [r45_0, r45_1, r45_2, r45_3, r45_6, r45_9, r45_11, r45_12, r45_15, r45_18, r45_21, r45_31, r45_32, r45_34, r45_35, r45_39, r45_40, r45_43, r45_46, r45_49, r45_52, r45_53, r45_56, r45_59, r45_61, r45_64, r45_66, r45_68, r45_69, r45_70, r45_71, r45_74, r45_77, r45_80, r45_82, r45_85, r45_87, r45_88, r45_90, r45_91, r45_93, r45_94, r45_97, r45_100, r45_102, r45_104, r45_105, r45_107, r45_109, r45_112, r45_115, r45_118, r45_121, r45_124, r45_127, r45_128, r45_131, r45_134, r45_137, r45_138, r45_141, r45_143, dk_0, dk_1, dk_2, k_size, iI_le, c1, k_codeAt, mapN_at, s_isIn hc, qT, iI_add, e1, h9, kl_n, kl_i, kl_r, kl_z, kl_l, kl_d, catS_0, catS_c, cat_i, cat_l, cat_d, cat_r, cat_n, kC_r, kC_x, Option.bind_some, Option.toList_some, Option.toList_none, List.cons_append, List.nil_append, gB0, gB1, gB2, gB3, gB4, rvB, nI_iI, i0, i1, l0_, wr_s, aup_s, and_true, true_and, and_self, eq_self, if_true, if_false, Nat.zero_le, Nat.reduceAdd, Nat.reduceLeDiff, gN_I, gN_L, gN_P, bI_0, bI_ok, z0, z1, Bool.true_eq, Bool.false_eq_true, not_true_eq_false, not_false_eq_true]
theorem s_weigh {t v u : Int} {p : Nat} (hO : dkOk W) (hr : rgOk t v u) (hp : p ≤ 400) (hS : sgOk ((W.1.1.1, srtN (mapN W.1.1.2 (wgG t v u p) W.1.1.1) W.1.1.1), W.1.2)) : aE (d + 12) 45 [.ref x, .int (iI t), .int (iI v), .int (iI u), .int (iI p)] (dkW h x W, n, w, g) =
    some (.inl (some (.int (iI (cntP (inB4 t v u) W.1.1.2 W.1.1.1)))), (dkW h x (seW (((W.1.1.1, srtN (mapN W.1.1.2 (wgG t v u p) W.1.1.1) W.1.1.1), W.1.2), W.2)), n, w, g)) := by
  have hl := wg_loop (d := d) (n := n) (w := w) (g := g) (h := h) (x := x) hO hr hp hS W.1.1.1 0 (by omega) none none none
  rw [show ((0 : Nat) : Int) = 0 from rfl, show ((cntP (inB4 t v u) W.1.1.2 0 : Nat) : Int) = 0 from rfl, mapN_0] at hl
  have hr2 : rgOk t v u := hr
  unfold rgOk at hr2
  have q1 := eq_true hr2
  have q2 : (0 : Int) ≤ p ∧ (p : Int) ≤ 400 := by omega
  simp (disch := omega) only [e45, r45_0, r45_1, r45_2, r45_3, r45_6, r45_9, r45_11, r45_12, r45_15, r45_18, r45_21, r45_31, r45_32, r45_34, r45_35, r45_39, r45_40, r45_43, r45_46, r45_49, r45_52, r45_53, r45_56, r45_59, r45_61, r45_64, r45_66, r45_68, r45_69, r45_70, r45_71, r45_74, r45_77, r45_80, r45_82, r45_85, r45_87, r45_88, r45_90, r45_91, r45_93, r45_94, r45_97, r45_100, r45_102, r45_104, r45_105, r45_107, r45_109, r45_112, r45_115, r45_118, r45_121, r45_124, r45_127, r45_128, r45_131, r45_134, r45_137, r45_138, r45_141, r45_143, s_isRange, q1, s_isWithin, q2, hl, kl_n, kl_i, kl_r, kl_z, kl_l, kl_d, catS_0, catS_c, cat_i, cat_l, cat_d, cat_r, cat_n, kC_r, kC_x, Option.bind_some, Option.toList_some, Option.toList_none, List.cons_append, List.nil_append, gB0, gB1, gB2, gB3, gB4, rvB, nI_iI, i0, i1, l0_, wr_s, aup_s, and_true, true_and, and_self, eq_self, if_true, if_false, Nat.zero_le, Nat.reduceAdd, Nat.reduceLeDiff, gN_I, gN_L, gN_P, bI_0, bI_ok, z0, z1, Bool.true_eq, Bool.false_eq_true, not_true_eq_false, not_false_eq_true]
theorem s_weigh_1 {t v u b : Int} (b1 : -2147483648 ≤ t ∧ t < 2147483648) (b2 : -2147483648 ≤ v ∧ v < 2147483648) (b3 : -2147483648 ≤ u ∧ u < 2147483648) (b4 : -2147483648 ≤ b ∧ b < 2147483648) (hc : ¬ (rgOk t v u ∧ 0 ≤ b ∧ b ≤ 400)) :
    aE (d + 12) 45 [.ref x, .int (iI t), .int (iI v), .int (iI u), .int (iI b)] (dkW h x W, n, w, g) = some (.inr "java/lang/IllegalArgumentException", (dkW h x W, n + 1, w + 6, g)) := by
  have c8 : 8 ≤ d + 11 := by omega
  simp (disch := omega) only [e45, r45_0, r45_1, r45_2, r45_3, r45_6, r45_9, r45_11, r45_12, r45_15, r45_18, r45_21, s_isRange, s_isWithin, c8, ite_not, kl_n, kl_i, kl_r, kl_z, kl_l, kl_d, catS_0, catS_c, cat_i, cat_l, cat_d, cat_r, cat_n, kC_r, kC_x, Option.bind_some, Option.toList_some, Option.toList_none, List.cons_append, List.nil_append, gB0, gB1, gB2, gB3, gB4, rvB, nI_iI, i0, i1, l0_, wr_s, aup_s, and_true, true_and, and_self, eq_self, if_true, if_false, Nat.zero_le, Nat.reduceAdd, Nat.reduceLeDiff, gN_I, gN_L, gN_P, bI_0, bI_ok, z0, z1, Bool.true_eq, Bool.false_eq_true, not_true_eq_false, not_false_eq_true]
  by_cases q : -1 ≤ t ∧ t ≤ 5 ∧ 0 ≤ v ∧ v < u ∧ u ≤ 9600
  · rw [if_pos q, if_neg (fun z => hc ⟨q, z⟩)]
  · rw [if_neg q]
end
