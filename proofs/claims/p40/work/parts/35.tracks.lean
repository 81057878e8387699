/-! ===== the tracks: at a; rows at a + 1, a + 2, a + 3 ===== -/
def tsW (h : aHf) (a : Nat) (M : Nat → Nat) (S D : Nat → Int) : aHf := fun q => if q = a then some (aB 8 [.ref (a + 1), .ref (a + 2), .ref (a + 3)]) else if q = a + 1 then some (aI .int 6 (fun i => iI (M i))) else if q = a + 2 then some (aI .int 6 (fun i => iI (S i))) else if q = a + 3 then some (aI .int 6 (fun i => iI (D i))) else h q
def upI (F : Nat → Int) (k : Nat) (c : Int) : Nat → Int := fun i => if i = k then c else F i
def tsI (h : aHf) (a : Nat) (M : Nat → Nat) (S D : Nat → Int) : Prop := h a = some (aB 8 [.ref (a + 1), .ref (a + 2), .ref (a + 3)]) ∧ h (a + 1) = some (aI .int 6 (fun i => iI (M i))) ∧ h (a + 2) = some (aI .int 6 (fun i => iI (S i))) ∧ h (a + 3) = some (aI .int 6 (fun i => iI (D i)))
section
variable {d a : Nat} {h : aHf} {r : Nat × Nat × Nat × Nat} {M : Nat → Nat} {S D : Nat → Int}
theorem ts_I : tsI (tsW h a M S D) a M S D := by
  unfold tsW
  refine ⟨if_pos rfl, ?_, ?_, ?_⟩
  · show (if _ then _ else _) = _
    rw [if_neg (by omega), if_pos rfl]
  · show (if _ then _ else _) = _
    rw [if_neg (by omega), if_neg (by omega), if_pos rfl]
  · show (if _ then _ else _) = _
    rw [if_neg (by omega), if_neg (by omega), if_neg (by omega), if_pos rfl]
theorem ts_o {q : Nat} (h1 : q < a ∨ a + 3 < q) : tsW h a M S D q = h q := by
  unfold tsW
  rw [if_neg (by omega), if_neg (by omega), if_neg (by omega), if_neg (by omega)]
theorem ts_id (hI : tsI h a M S D) : tsW h a M S D = h := by
  obtain ⟨h1, h2, h3, h4⟩ := hI
  funext q
  unfold tsW
  by_cases e1 : q = a
  · rw [if_pos e1, e1, h1]
  · rw [if_neg e1]
    by_cases e2 : q = a + 1
    · rw [if_pos e2, e2, h2]
    · rw [if_neg e2]
      by_cases e3 : q = a + 2
      · rw [if_pos e3, e3, h3]
      · rw [if_neg e3]
        by_cases e4 : q = a + 3
        · rw [if_pos e4, e4, h4]
        · rw [if_neg e4]
theorem ts_u1 {G : Nat → Nat} : aup (tsW h a M S D) (a + 1) (aI .int 6 (fun i => iI (G i))) = tsW h a G S D := by
  funext q
  unfold aup tsW
  by_cases e1 : q = a + 1
  · rw [if_pos e1, if_neg (by omega), if_pos e1]
  · rw [if_neg e1, if_neg e1, if_neg e1]
theorem ts_u2 {G : Nat → Int} : aup (tsW h a M S D) (a + 2) (aI .int 6 (fun i => iI (G i))) = tsW h a M G D := by
  funext q
  unfold aup tsW
  by_cases e1 : q = a + 2
  · rw [if_pos e1, if_neg (by omega), if_neg (by omega), if_pos e1]
  · rw [if_neg e1, if_neg e1, if_neg e1]
theorem ts_u3 {G : Nat → Int} : aup (tsW h a M S D) (a + 3) (aI .int 6 (fun i => iI (G i))) = tsW h a M S G := by
  funext q
  unfold aup tsW
  by_cases e1 : q = a + 3
  · rw [if_pos e1, if_neg (by omega), if_neg (by omega), if_neg (by omega), if_pos e1]
  · rw [if_neg e1, if_neg e1, if_neg e1]
theorem updI_I {F : Nat → Int} {k : Nat} {c : Int} : upd (fun i => iI (F i)) k (iI c) = fun i => iI (upI F k c i) := by
  funext i
  unfold upd upI
  by_cases e : i = k
  · rw [if_pos e, if_pos e]
  · rw [if_neg e, if_neg e]
theorem s_tp1 {t c : Nat} (ht : t < 6) : aE (d + 1) 29 [.ref (a + 1), .int (iI t), .int (iI c)] (tsW h a M S D, r) = some (.inl none, (tsW h a (upN M t c) S D, r)) := by
  rw [s_putInt (ts_I (h := h) (a := a)).2.1 (show (0 : Int) ≤ t by omega) (show (t : Int) < (6 : Nat) by omega) (by decide), Int.toNat_natCast, updI_N, ts_u1]
theorem s_tp2 {t : Nat} {c : Int} (ht : t < 6) : aE (d + 1) 29 [.ref (a + 2), .int (iI t), .int (iI c)] (tsW h a M S D, r) = some (.inl none, (tsW h a M (upI S t c) D, r)) := by
  rw [s_putInt (ts_I (h := h) (a := a)).2.2.1 (show (0 : Int) ≤ t by omega) (show (t : Int) < (6 : Nat) by omega) (by decide), Int.toNat_natCast, updI_I, ts_u2]
theorem s_tp3 {t : Nat} {c : Int} (ht : t < 6) : aE (d + 1) 29 [.ref (a + 3), .int (iI t), .int (iI c)] (tsW h a M S D, r) = some (.inl none, (tsW h a M S (upI D t c), r)) := by
  rw [s_putInt (ts_I (h := h) (a := a)).2.2.2 (show (0 : Int) ≤ t by omega) (show (t : Int) < (6 : Nat) by omega) (by decide), Int.toNat_natCast, updI_I, ts_u3]
theorem s_shiftOf (hI : tsI h a M S D) {t : Nat} (ht : t < 6) : aE (d + 2) 173 [.ref a, .int (iI t)] (h, r) = some (.inl (some (.int (iI (S t)))), (h, r)) := by
  simp only [e173, r173_0, r173_1, r173_4, r173_5, r173_8, hI.1, s_intAt hI.2.2.1 (show (0 : Int) ≤ t by omega) (show (t : Int) < (6 : Nat) by omega) (by decide), Int.toNat_natCast, kl_n, kl_i, kl_r, kl_z, kl_l, kl_d, catS_0, catS_c, cat_i, cat_l, cat_d, cat_r, cat_n, kC_r, kC_x, Option.bind_some, Option.toList_some, Option.toList_none, List.cons_append, List.nil_append, gB0, gB1, gB2, gB3, gB4, rvB, nI_iI, i0, i1, l0_, wr_s, aup_s, and_true, true_and, and_self, eq_self, if_true, if_false, Nat.zero_le, Nat.reduceAdd, Nat.reduceLeDiff, gN_I, gN_L, gN_P, bI_0, bI_ok, z0, z1, Bool.true_eq, Bool.false_eq_true, not_true_eq_false, not_false_eq_true]
theorem s_delayOf (hI : tsI h a M S D) {t : Nat} (ht : t < 6) : aE (d + 2) 174 [.ref a, .int (iI t)] (h, r) = some (.inl (some (.int (iI (D t)))), (h, r)) := by
  simp only [e174, r174_0, r174_1, r174_4, r174_5, r174_8, hI.1, s_intAt hI.2.2.2 (show (0 : Int) ≤ t by omega) (show (t : Int) < (6 : Nat) by omega) (by decide), Int.toNat_natCast, kl_n, kl_i, kl_r, kl_z, kl_l, kl_d, catS_0, catS_c, cat_i, cat_l, cat_d, cat_r, cat_n, kC_r, kC_x, Option.bind_some, Option.toList_some, Option.toList_none, List.cons_append, List.nil_append, gB0, gB1, gB2, gB3, gB4, rvB, nI_iI, i0, i1, l0_, wr_s, aup_s, and_true, true_and, and_self, eq_self, if_true, if_false, Nat.zero_le, Nat.reduceAdd, Nat.reduceLeDiff, gN_I, gN_L, gN_P, bI_0, bI_ok, z0, z1, Bool.true_eq, Bool.false_eq_true, not_true_eq_false, not_false_eq_true]
theorem iand2 {m : Nat} (hm : m < 4) : iI m &&& iI 2 = iI ((m / 2 * 2 : Nat) : Int) := by
  have : ∀ m : Fin 4, iI (m.val : Nat) &&& iI 2 = iI ((m.val / 2 * 2 : Nat) : Int) := by decide +kernel
  exact this ⟨m, hm⟩
theorem s_isSil (hI : tsI h a M S D) {t : Nat} (ht : t < 6) (hM : M t < 4) : aE (d + 2) 177 [.ref a, .int (iI t), .int (iI 1)] (h, r) = some (.inl (some (.int (bI (M t % 2 = 1)))), (h, r)) := by
  simp (disch := omega) only [e177, r177_0, r177_1, r177_4, r177_5, r177_8, r177_9, r177_10, r177_13, r177_14, r177_17, r177_18, hI.1, s_intAt hI.2.1 (show (0 : Int) ≤ t by omega) (show (t : Int) < (6 : Nat) by omega) (by decide), Int.toNat_natCast, iand1, iI_eq, kl_n, kl_i, kl_r, kl_z, kl_l, kl_d, catS_0, catS_c, cat_i, cat_l, cat_d, cat_r, cat_n, kC_r, kC_x, Option.bind_some, Option.toList_some, Option.toList_none, List.cons_append, List.nil_append, gB0, gB1, gB2, gB3, gB4, rvB, nI_iI, i0, i1, l0_, wr_s, aup_s, and_true, true_and, and_self, eq_self, if_true, if_false, Nat.zero_le, Nat.reduceAdd, Nat.reduceLeDiff, gN_I, gN_L, gN_P, bI_0, bI_ok, z0, z1, Bool.true_eq, Bool.false_eq_true, not_true_eq_false, not_false_eq_true]
  split
  · exact fin_F (by omega)
  · exact fin_T (by omega)
theorem s_isAl (hI : tsI h a M S D) {t : Nat} (ht : t < 6) (hM : M t < 4) : aE (d + 2) 177 [.ref a, .int (iI t), .int (iI 2)] (h, r) = some (.inl (some (.int (bI (M t / 2 = 1)))), (h, r)) := by
  simp (disch := omega) only [e177, r177_0, r177_1, r177_4, r177_5, r177_8, r177_9, r177_10, r177_13, r177_14, r177_17, r177_18, hI.1, s_intAt hI.2.1 (show (0 : Int) ≤ t by omega) (show (t : Int) < (6 : Nat) by omega) (by decide), Int.toNat_natCast, iand2 hM, iI_eq, kl_n, kl_i, kl_r, kl_z, kl_l, kl_d, catS_0, catS_c, cat_i, cat_l, cat_d, cat_r, cat_n, kC_r, kC_x, Option.bind_some, Option.toList_some, Option.toList_none, List.cons_append, List.nil_append, gB0, gB1, gB2, gB3, gB4, rvB, nI_iI, i0, i1, l0_, wr_s, aup_s, and_true, true_and, and_self, eq_self, if_true, if_false, Nat.zero_le, Nat.reduceAdd, Nat.reduceLeDiff, gN_I, gN_L, gN_P, bI_0, bI_ok, z0, z1, Bool.true_eq, Bool.false_eq_true, not_true_eq_false, not_false_eq_true]
  split
  · exact fin_F (by omega)
  · exact fin_T (by omega)
/-- no track alone, from i on -/
def noAl (M : Nat → Nat) (i m : Nat) : Bool := alR (fun t => M t / 2 == 0) i m
theorem noAl_s (M : Nat → Nat) (i m : Nat) : noAl M i (m + 1) = ((M i / 2 == 0) && noAl M (i + 1) m) := rfl
theorem alone_loop (hI : tsI h a M S D) (hM : ∀ t, M t < 4) : ∀ m i : Nat, i + m = 6 → L (d + 2) 178 2 [some (.ref a), some (.int (iI i))] [] (h, r) = some (.inl (some (.int (bI (noAl M i m = false)))), (h, r)) := by
  intro m
  induction m with
  | zero =>
    intro i hi
    have c1 : (6 : Int) ≤ i := by omega
    rw [r178_2]
    simp (disch := omega) only [r178_0, r178_1, r178_3, r178_5, r178_8, r178_9, r178_10, r178_11, r178_14, r178_17, r178_18, r178_19, r178_22, r178_25, r178_26, iI_le, c1, kl_n, kl_i, kl_r, kl_z, kl_l, kl_d, catS_0, catS_c, cat_i, cat_l, cat_d, cat_r, cat_n, kC_r, kC_x, Option.bind_some, Option.toList_some, Option.toList_none, List.cons_append, List.nil_append, gB0, gB1, gB2, gB3, gB4, rvB, nI_iI, i0, i1, l0_, wr_s, aup_s, and_true, true_and, and_self, eq_self, if_true, if_false, Nat.zero_le, Nat.reduceAdd, Nat.reduceLeDiff, gN_I, gN_L, gN_P, bI_0, bI_ok, z0, z1, Bool.true_eq, Bool.false_eq_true, not_true_eq_false, not_false_eq_true]
    exact fin_F (fun z => by cases z)
  | succ m ih =>
    intro i hi
    have c1 : ¬ (6 : Int) ≤ i := by omega
    have e1 : (i : Int) + 1 = ((i + 1 : Nat) : Int) := by omega
    have g1 := hM i
    rw [r178_2, noAl_s]
    simp (disch := omega) only [r178_0, r178_1, r178_3, r178_5, r178_8, r178_9, r178_10, r178_11, r178_14, r178_17, r178_18, r178_19, r178_22, r178_25, r178_26, hI.1, iI_le, c1, s_isAl hI (show i < 6 by omega) g1, iI_add, e1, ih (i + 1) (by omega), kl_n, kl_i, kl_r, kl_z, kl_l, kl_d, catS_0, catS_c, cat_i, cat_l, cat_d, cat_r, cat_n, kC_r, kC_x, Option.bind_some, Option.toList_some, Option.toList_none, List.cons_append, List.nil_append, gB0, gB1, gB2, gB3, gB4, rvB, nI_iI, i0, i1, l0_, wr_s, aup_s, and_true, true_and, and_self, eq_self, if_true, if_false, Nat.zero_le, Nat.reduceAdd, Nat.reduceLeDiff, gN_I, gN_L, gN_P, bI_0, bI_ok, z0, z1, Bool.true_eq, Bool.false_eq_true, not_true_eq_false, not_false_eq_true]
    by_cases q : M i / 2 = 1
    · rw [if_neg (fun z => z q)]
      refine fin_T ?_
      rw [beq_eq_false_iff_ne.mpr (by omega), Bool.false_and]
    · rw [if_pos q, beq_iff_eq.mpr (by omega), Bool.true_and]
theorem s_isAnyAlone (hI : tsI h a M S D) (hM : ∀ t, M t < 4) : aE (d + 3) 178 [.ref a] (h, r) = some (.inl (some (.int (bI (noAl M 0 6 = false)))), (h, r)) := by
  have hl := alone_loop (d := d) (r := r) hI hM 6 0 (by omega)
  rw [show ((0 : Nat) : Int) = 0 from rfl] at hl
  simp only [e178, r178_0, r178_1, r178_3, r178_5, r178_8, r178_9, r178_10, r178_11, r178_14, r178_17, r178_18, r178_19, r178_22, r178_25, r178_26, hl, kl_n, kl_i, kl_r, kl_z, kl_l, kl_d, catS_0, catS_c, cat_i, cat_l, cat_d, cat_r, cat_n, kC_r, kC_x, Option.bind_some, Option.toList_some, Option.toList_none, List.cons_append, List.nil_append, gB0, gB1, gB2, gB3, gB4, rvB, nI_iI, i0, i1, l0_, wr_s, aup_s, and_true, true_and, and_self, eq_self, if_true, if_false, Nat.zero_le, Nat.reduceAdd, Nat.reduceLeDiff, gN_I, gN_L, gN_P, bI_0, bI_ok, z0, z1, Bool.true_eq, Bool.false_eq_true, not_true_eq_false, not_false_eq_true]
/-- a track is heard -/
abbrev hrd (M : Nat → Nat) (t : Nat) : Prop := M t % 2 = 0 ∧ (M t / 2 = 1 ∨ noAl M 0 6 = true)
theorem s_isHeard (hI : tsI h a M S D) (hM : ∀ t, M t < 4) {t : Nat} (ht : t < 6) : aE (d + 4) 179 [.ref a, .int (iI t)] (h, r) = some (.inl (some (.int (bI (hrd M t)))), (h, r)) := by
  have g1 := hM t
  by_cases q1 : M t % 2 = 1
  · simp (disch := omega) only [e179, r179_0, r179_1, r179_2, r179_3, r179_6, r179_9, r179_10, r179_11, r179_12, r179_15, r179_18, r179_19, r179_22, r179_25, r179_26, r179_29, r179_30, hI.1, s_isSil hI ht g1, q1, kl_n, kl_i, kl_r, kl_z, kl_l, kl_d, catS_0, catS_c, cat_i, cat_l, cat_d, cat_r, cat_n, kC_r, kC_x, Option.bind_some, Option.toList_some, Option.toList_none, List.cons_append, List.nil_append, gB0, gB1, gB2, gB3, gB4, rvB, nI_iI, i0, i1, l0_, wr_s, aup_s, and_true, true_and, and_self, eq_self, if_true, if_false, Nat.zero_le, Nat.reduceAdd, Nat.reduceLeDiff, gN_I, gN_L, gN_P, bI_0, bI_ok, z0, z1, Bool.true_eq, Bool.false_eq_true, not_true_eq_false, not_false_eq_true]
    exact fin_F (fun z => by have z1 := z.1; rw [q1] at z1; cases z1)
  · by_cases q2 : M t / 2 = 1
    · simp (disch := omega) only [e179, r179_0, r179_1, r179_2, r179_3, r179_6, r179_9, r179_10, r179_11, r179_12, r179_15, r179_18, r179_19, r179_22, r179_25, r179_26, r179_29, r179_30, hI.1, s_isSil hI ht g1, s_isAl hI ht g1, q1, q2, kl_n, kl_i, kl_r, kl_z, kl_l, kl_d, catS_0, catS_c, cat_i, cat_l, cat_d, cat_r, cat_n, kC_r, kC_x, Option.bind_some, Option.toList_some, Option.toList_none, List.cons_append, List.nil_append, gB0, gB1, gB2, gB3, gB4, rvB, nI_iI, i0, i1, l0_, wr_s, aup_s, and_true, true_and, and_self, eq_self, if_true, if_false, Nat.zero_le, Nat.reduceAdd, Nat.reduceLeDiff, gN_I, gN_L, gN_P, bI_0, bI_ok, z0, z1, Bool.true_eq, Bool.false_eq_true, not_true_eq_false, not_false_eq_true]
      exact fin_T ⟨by omega, Or.inl q2⟩
    · by_cases hz : noAl M 0 6 = true
      · have hz2 : ¬ noAl M 0 6 = false := by rw [hz]; exact fun z => by cases z
        simp (disch := omega) only [e179, r179_0, r179_1, r179_2, r179_3, r179_6, r179_9, r179_10, r179_11, r179_12, r179_15, r179_18, r179_19, r179_22, r179_25, r179_26, r179_29, r179_30, hI.1, s_isSil hI ht g1, s_isAl hI ht g1, s_isAnyAlone hI hM, q1, q2, hz2, kl_n, kl_i, kl_r, kl_z, kl_l, kl_d, catS_0, catS_c, cat_i, cat_l, cat_d, cat_r, cat_n, kC_r, kC_x, Option.bind_some, Option.toList_some, Option.toList_none, List.cons_append, List.nil_append, gB0, gB1, gB2, gB3, gB4, rvB, nI_iI, i0, i1, l0_, wr_s, aup_s, and_true, true_and, and_self, eq_self, if_true, if_false, Nat.zero_le, Nat.reduceAdd, Nat.reduceLeDiff, gN_I, gN_L, gN_P, bI_0, bI_ok, z0, z1, Bool.true_eq, Bool.false_eq_true, not_true_eq_false, not_false_eq_true]
        exact fin_T ⟨by omega, Or.inr hz⟩
      · have hz2 : noAl M 0 6 = false := by simpa using hz
        simp (disch := omega) only [e179, r179_0, r179_1, r179_2, r179_3, r179_6, r179_9, r179_10, r179_11, r179_12, r179_15, r179_18, r179_19, r179_22, r179_25, r179_26, r179_29, r179_30, hI.1, s_isSil hI ht g1, s_isAl hI ht g1, s_isAnyAlone hI hM, q1, q2, hz2, kl_n, kl_i, kl_r, kl_z, kl_l, kl_d, catS_0, catS_c, cat_i, cat_l, cat_d, cat_r, cat_n, kC_r, kC_x, Option.bind_some, Option.toList_some, Option.toList_none, List.cons_append, List.nil_append, gB0, gB1, gB2, gB3, gB4, rvB, nI_iI, i0, i1, l0_, wr_s, aup_s, and_true, true_and, and_self, eq_self, if_true, if_false, Nat.zero_le, Nat.reduceAdd, Nat.reduceLeDiff, gN_I, gN_L, gN_P, bI_0, bI_ok, z0, z1, Bool.true_eq, Bool.false_eq_true, not_true_eq_false, not_false_eq_true]
        exact fin_F (fun z => z.2.elim q2 hz)
theorem ior3 (p q : Prop) [Decidable p] [Decidable q] : (if p then iI 1 else iI 0 : Int32) ||| (if q then iI 2 else iI 0) = iI (((if p then 1 else 0) + (if q then 2 else 0) : Nat) : Int) := by
  by_cases hp : p <;> by_cases hq : q <;> simp only [hp, hq, if_true, if_false] <;> decide
theorem s_tput {t : Nat} {p q : Prop} [Decidable p] [Decidable q] {u v : Int} (ht : t < 6) : aE (d + 2) 180 [.ref a, .int (iI t), .int (bI p), .int (bI q), .int (iI u), .int (iI v)] (tsW h a M S D, r) =
    some (.inl none, (tsW h a (upN M t ((if p then 1 else 0) + (if q then 2 else 0))) (upI S t u) (upI D t v), r)) := by
  have o00 : iI 0 ||| iI 0 = iI ((0 : Nat) : Int) := by decide
  have o10 : iI 1 ||| iI 0 = iI ((1 : Nat) : Int) := by decide
  have o02 : iI 0 ||| iI 2 = iI ((2 : Nat) : Int) := by decide
  have o12 : iI 1 ||| iI 2 = iI ((3 : Nat) : Int) := by decide
  have x1 : (0 : Int) ≤ t := by omega
  have x2 : (t : Int) < (6 : Nat) := by omega
  have hI := ts_I (h := h) (a := a) (M := M) (S := S) (D := D)
  by_cases hp : p <;> by_cases hq : q <;> simp only [e180, r180_0, r180_1, r180_4, r180_5, r180_6, r180_9, r180_10, r180_13, r180_14, r180_15, r180_18, r180_19, r180_22, r180_23, r180_24, r180_27, r180_28, r180_31, r180_32, r180_34, r180_37, r180_38, r180_41, r180_42, r180_44, r180_47, (ts_I (h := h) (a := a)).1, hp, hq, o00, o10, o02, o12, s_tp1 ht, s_tp2 ht, s_tp3 ht, kl_n, kl_i, kl_r, kl_z, kl_l, kl_d, catS_0, catS_c, cat_i, cat_l, cat_d, cat_r, cat_n, kC_r, kC_x, Option.bind_some, Option.toList_some, Option.toList_none, List.cons_append, List.nil_append, gB0, gB1, gB2, gB3, gB4, rvB, nI_iI, i0, i1, l0_, wr_s, aup_s, and_true, true_and, and_self, eq_self, if_true, if_false, Nat.zero_le, Nat.reduceAdd, Nat.reduceLeDiff, gN_I, gN_L, gN_P, bI_0, bI_ok, z0, z1, Bool.true_eq, Bool.false_eq_true, not_true_eq_false, not_false_eq_true]
/-- two tracks alike -/
def ts1 (M : Nat → Nat) (S D : Nat → Int) (M' : Nat → Nat) (S' D' : Nat → Int) (j : Nat) : Bool := M j == M' j && (S j == S' j && D j == D' j)
theorem tlike_loop {o : Nat} {M' : Nat → Nat} {S' D' : Nat → Int} (hI : tsI h a M S D) (hJ : tsI h o M' S' D') (b1 : ∀ i, M i < 4) (b2 : ∀ i, -24 ≤ S i ∧ S i ≤ 24) (b3 : ∀ i, -48 ≤ D i ∧ D i ≤ 48) (b4 : ∀ i, M' i < 4) (b5 : ∀ i, -24 ≤ S' i ∧ S' i ≤ 24) (b6 : ∀ i, -48 ≤ D' i ∧ D' i ≤ 48) :
    ∀ m i : Nat, i + m = 6 → L (d + 2) 175 2 [some (.ref a), some (.ref o), some (.int (iI i))] [] (h, r) = some (.inl (some (.int (bI (alR (ts1 M S D M' S' D') i m = true)))), (h, r)) := by
  intro m
  induction m with
  | zero =>
    intro i hi
    have c1 : (6 : Int) ≤ i := by omega
    rw [r175_2]
    simp (disch := omega) only [r175_0, r175_1, r175_3, r175_5, r175_8, r175_9, r175_12, r175_13, r175_16, r175_17, r175_20, r175_21, r175_24, r175_27, r175_28, r175_29, r175_32, r175_33, r175_34, r175_37, r175_40, r175_41, r175_42, r175_45, r175_46, r175_47, r175_50, r175_53, r175_54, r175_55, r175_58, r175_61, r175_62, iI_le, c1, kl_n, kl_i, kl_r, kl_z, kl_l, kl_d, catS_0, catS_c, cat_i, cat_l, cat_d, cat_r, cat_n, kC_r, kC_x, Option.bind_some, Option.toList_some, Option.toList_none, List.cons_append, List.nil_append, gB0, gB1, gB2, gB3, gB4, rvB, nI_iI, i0, i1, l0_, wr_s, aup_s, and_true, true_and, and_self, eq_self, if_true, if_false, Nat.zero_le, Nat.reduceAdd, Nat.reduceLeDiff, gN_I, gN_L, gN_P, bI_0, bI_ok, z0, z1, Bool.true_eq, Bool.false_eq_true, not_true_eq_false, not_false_eq_true]
    exact fin_T rfl
  | succ m ih =>
    intro i hi
    have c1 : ¬ (6 : Int) ≤ i := by omega
    have e1 : (i : Int) + 1 = ((i + 1 : Nat) : Int) := by omega
    have g1 := b1 i
    have g2 := b2 i
    have g3 := b3 i
    have g4 := b4 i
    have g5 := b5 i
    have g6 := b6 i
    have x1 : (0 : Int) ≤ i := by omega
    have x2 : (i : Int) < (6 : Nat) := by omega
    have e2 : alR (ts1 M S D M' S' D') i (m + 1) = (ts1 M S D M' S' D' i && alR (ts1 M S D M' S' D') (i + 1) m) := rfl
    rw [r175_2]
    simp (disch := omega) only [r175_0, r175_1, r175_3, r175_5, r175_8, r175_9, r175_12, r175_13, r175_16, r175_17, r175_20, r175_21, r175_24, r175_27, r175_28, r175_29, r175_32, r175_33, r175_34, r175_37, r175_40, r175_41, r175_42, r175_45, r175_46, r175_47, r175_50, r175_53, r175_54, r175_55, r175_58, r175_61, r175_62, hI.1, hJ.1, iI_le, c1, s_intAt hI.2.1 x1 x2 (by decide), s_intAt hJ.2.1 x1 x2 (by decide), s_shiftOf hI (show i < 6 by omega), s_shiftOf hJ (show i < 6 by omega), s_delayOf hI (show i < 6 by omega), s_delayOf hJ (show i < 6 by omega), Int.toNat_natCast, iI_eq, iI_add, e1, ih (i + 1) (by omega), e2, kl_n, kl_i, kl_r, kl_z, kl_l, kl_d, catS_0, catS_c, cat_i, cat_l, cat_d, cat_r, cat_n, kC_r, kC_x, Option.bind_some, Option.toList_some, Option.toList_none, List.cons_append, List.nil_append, gB0, gB1, gB2, gB3, gB4, rvB, nI_iI, i0, i1, l0_, wr_s, aup_s, and_true, true_and, and_self, eq_self, if_true, if_false, Nat.zero_le, Nat.reduceAdd, Nat.reduceLeDiff, gN_I, gN_L, gN_P, bI_0, bI_ok, z0, z1, Bool.true_eq, Bool.false_eq_true, not_true_eq_false, not_false_eq_true]
    by_cases q : ts1 M S D M' S' D' i = true
    · have q' := q
      simp only [ts1, Bool.and_eq_true, beq_iff_eq] at q'
      rw [if_pos (by omega), if_pos (by omega), if_pos (by omega), q, Bool.true_and]
    · have q' := q
      simp only [ts1, Bool.and_eq_true, beq_iff_eq] at q'
      have q2 : ts1 M S D M' S' D' i = false := by simpa using q
      rw [q2, Bool.false_and]
      repeat' split
      all_goals first
        | exact fin_F (fun z => by cases z)
        | (exfalso; omega)
theorem s_tlike {o : Nat} {M' : Nat → Nat} {S' D' : Nat → Int} (hI : tsI h a M S D) (hJ : tsI h o M' S' D') (b1 : ∀ i, M i < 4) (b2 : ∀ i, -24 ≤ S i ∧ S i ≤ 24) (b3 : ∀ i, -48 ≤ D i ∧ D i ≤ 48) (b4 : ∀ i, M' i < 4) (b5 : ∀ i, -24 ≤ S' i ∧ S' i ≤ 24) (b6 : ∀ i, -48 ≤ D' i ∧ D' i ≤ 48) :
    aE (d + 3) 175 [.ref a, .ref o] (h, r) = some (.inl (some (.int (bI (alR (ts1 M S D M' S' D') 0 6 = true)))), (h, r)) := by
  have hl := tlike_loop (d := d) (r := r) hI hJ b1 b2 b3 b4 b5 b6 6 0 (by omega)
  rw [show ((0 : Nat) : Int) = 0 from rfl] at hl
  simp only [e175, r175_0, r175_1, r175_3, r175_5, r175_8, r175_9, r175_12, r175_13, r175_16, r175_17, r175_20, r175_21, r175_24, r175_27, r175_28, r175_29, r175_32, r175_33, r175_34, r175_37, r175_40, r175_41, r175_42, r175_45, r175_46, r175_47, r175_50, r175_53, r175_54, r175_55, r175_58, r175_61, r175_62, hl, kl_n, kl_i, kl_r, kl_z, kl_l, kl_d, catS_0, catS_c, cat_i, cat_l, cat_d, cat_r, cat_n, kC_r, kC_x, Option.bind_some, Option.toList_some, Option.toList_none, List.cons_append, List.nil_append, gB0, gB1, gB2, gB3, gB4, rvB, nI_iI, i0, i1, l0_, wr_s, aup_s, and_true, true_and, and_self, eq_self, if_true, if_false, Nat.zero_le, Nat.reduceAdd, Nat.reduceLeDiff, gN_I, gN_L, gN_P, bI_0, bI_ok, z0, z1, Bool.true_eq, Bool.false_eq_true, not_true_eq_false, not_false_eq_true]
def mixI (F G : Nat → Int) (m : Nat) : Nat → Int := fun i => if i < m then G i else F i
theorem mixI_s (F G : Nat → Int) (i : Nat) : upI (mixI F G i) i (G i) = mixI F G (i + 1) := by
  funext j
  unfold upI mixI
  by_cases e : j = i
  · rw [if_pos e, if_pos (by omega), e]
  · rw [if_neg e]
    by_cases e6 : j < i
    · rw [if_pos e6, if_pos (by omega)]
    · rw [if_neg e6, if_neg (by omega)]
theorem mixI_0 (F G : Nat → Int) : mixI F G 0 = F := funext fun i => if_neg (by omega)
theorem tsI_o {o : Nat} {M' : Nat → Nat} {S' D' : Nat → Int} (hJ : tsI h o M' S' D') (ho : o + 3 < a ∨ a + 3 < o) : tsI (tsW h a M S D) o M' S' D' :=
  ⟨(ts_o (by omega)).trans hJ.1, (ts_o (by omega)).trans hJ.2.1, (ts_o (by omega)).trans hJ.2.2.1, (ts_o (by omega)).trans hJ.2.2.2⟩
theorem ttake_loop {o : Nat} {M' : Nat → Nat} {S' D' : Nat → Int} (hJ : tsI h o M' S' D') (ho : o + 3 < a ∨ a + 3 < o) :
    ∀ k i : Nat, i + k = 6 → L (d + 2) 176 2 [some (.ref a), some (.ref o), some (.int (iI i))] [] (tsW h a (mixN M M' i) (mixI S S' i) (mixI D D' i), r) = some (.inl none, (tsW h a (mixN M M' 6) (mixI S S' 6) (mixI D D' 6), r)) := by
  intro k
  induction k with
  | zero =>
    intro i hi
    have c1 : (6 : Int) ≤ i := by omega
    rw [r176_2]
    simp (disch := omega) only [r176_0, r176_1, r176_3, r176_5, r176_8, r176_9, r176_12, r176_13, r176_14, r176_17, r176_18, r176_21, r176_24, r176_25, r176_28, r176_29, r176_30, r176_31, r176_34, r176_37, r176_38, r176_41, r176_42, r176_43, r176_44, r176_47, r176_50, r176_53, r176_56, iI_le, c1, kl_n, kl_i, kl_r, kl_z, kl_l, kl_d, catS_0, catS_c, cat_i, cat_l, cat_d, cat_r, cat_n, kC_r, kC_x, Option.bind_some, Option.toList_some, Option.toList_none, List.cons_append, List.nil_append, gB0, gB1, gB2, gB3, gB4, rvB, nI_iI, i0, i1, l0_, wr_s, aup_s, and_true, true_and, and_self, eq_self, if_true, if_false, Nat.zero_le, Nat.reduceAdd, Nat.reduceLeDiff, gN_I, gN_L, gN_P, bI_0, bI_ok, z0, z1, Bool.true_eq, Bool.false_eq_true, not_true_eq_false, not_false_eq_true]
    rw [show i = 6 by omega]
  | succ k ih =>
    intro i hi
    have c1 : ¬ (6 : Int) ≤ i := by omega
    have e1 : (i : Int) + 1 = ((i + 1 : Nat) : Int) := by omega
    have x1 : (0 : Int) ≤ i := by omega
    have x2 : (i : Int) < (6 : Nat) := by omega
    have hK := fun (M9 : Nat → Nat) (S9 D9 : Nat → Int) => tsI_o (M := M9) (S := S9) (D := D9) hJ ho
    rw [r176_2]
    simp (disch := omega) only [r176_0, r176_1, r176_3, r176_5, r176_8, r176_9, r176_12, r176_13, r176_14, r176_17, r176_18, r176_21, r176_24, r176_25, r176_28, r176_29, r176_30, r176_31, r176_34, r176_37, r176_38, r176_41, r176_42, r176_43, r176_44, r176_47, r176_50, r176_53, r176_56, (ts_I (h := h) (a := a)).1, (hK _ _ _).1, iI_le, c1, s_intAt (hK _ _ _).2.1 x1 x2 (by decide), s_shiftOf (hK _ _ _) (show i < 6 by omega), s_delayOf (hK _ _ _) (show i < 6 by omega), s_tp1 (show i < 6 by omega), s_tp2 (show i < 6 by omega), s_tp3 (show i < 6 by omega), Int.toNat_natCast, iI_add, e1, mixN_s, mixI_s, ih (i + 1) (by omega), kl_n, kl_i, kl_r, kl_z, kl_l, kl_d, catS_0, catS_c, cat_i, cat_l, cat_d, cat_r, cat_n, kC_r, kC_x, Option.bind_some, Option.toList_some, Option.toList_none, List.cons_append, List.nil_append, gB0, gB1, gB2, gB3, gB4, rvB, nI_iI, i0, i1, l0_, wr_s, aup_s, and_true, true_and, and_self, eq_self, if_true, if_false, Nat.zero_le, Nat.reduceAdd, Nat.reduceLeDiff, gN_I, gN_L, gN_P, bI_0, bI_ok, z0, z1, Bool.true_eq, Bool.false_eq_true, not_true_eq_false, not_false_eq_true]
theorem s_ttake {o : Nat} {M' : Nat → Nat} {S' D' : Nat → Int} (hJ : tsI h o M' S' D') (ho : o + 3 < a ∨ a + 3 < o) : aE (d + 3) 176 [.ref a, .ref o] (tsW h a M S D, r) = some (.inl none, (tsW h a (mixN M M' 6) (mixI S S' 6) (mixI D D' 6), r)) := by
  have hl := ttake_loop (d := d) (r := r) (M := M) (S := S) (D := D) hJ ho 6 0 (by omega)
  rw [mixN_0, mixI_0, mixI_0, show ((0 : Nat) : Int) = 0 from rfl] at hl
  simp only [e176, r176_0, r176_1, r176_3, r176_5, r176_8, r176_9, r176_12, r176_13, r176_14, r176_17, r176_18, r176_21, r176_24, r176_25, r176_28, r176_29, r176_30, r176_31, r176_34, r176_37, r176_38, r176_41, r176_42, r176_43, r176_44, r176_47, r176_50, r176_53, r176_56, hl, kl_n, kl_i, kl_r, kl_z, kl_l, kl_d, catS_0, catS_c, cat_i, cat_l, cat_d, cat_r, cat_n, kC_r, kC_x, Option.bind_some, Option.toList_some, Option.toList_none, List.cons_append, List.nil_append, gB0, gB1, gB2, gB3, gB4, rvB, nI_iI, i0, i1, l0_, wr_s, aup_s, and_true, true_and, and_self, eq_self, if_true, if_false, Nat.zero_le, Nat.reduceAdd, Nat.reduceLeDiff, gN_I, gN_L, gN_P, bI_0, bI_ok, z0, z1, Bool.true_eq, Bool.false_eq_true, not_true_eq_false, not_false_eq_true]
/-! the loop -/
theorem s_lput {f t x f' t' x' : Nat} (ha : h a = some (aB 1 [.int (iI f), .int (iI t), .int (iI x)])) (hx : x' < 2147483648) : aE (d + 1) 113 [.ref a, .int (iI f'), .int (iI t'), .int (iI x')] (h, r) =
    some (.inl none, (aup h a (aB 1 [.int (iI (if x' = 0 then 0 else f' : Nat)), .int (iI (if x' = 0 then 0 else t' : Nat)), .int (iI x')]), r)) := by
  by_cases q : x' = 0
  · have c1 : (x' : Int) = 0 := by omega
    rw [if_pos q, if_pos q]
    simp (disch := omega) only [e113, r113_0, r113_1, r113_2, r113_5, r113_6, r113_9, r113_10, r113_13, r113_14, r113_15, r113_18, r113_19, r113_22, r113_23, r113_26, r113_27, r113_28, r113_31, ha, iI_eq, c1, sB0i, sB1i, sB2i, aup_u, kl_n, kl_i, kl_r, kl_z, kl_l, kl_d, catS_0, catS_c, cat_i, cat_l, cat_d, cat_r, cat_n, kC_r, kC_x, Option.bind_some, Option.toList_some, Option.toList_none, List.cons_append, List.nil_append, gB0, gB1, gB2, gB3, gB4, rvB, nI_iI, i0, i1, l0_, wr_s, aup_s, and_true, true_and, and_self, eq_self, if_true, if_false, Nat.zero_le, Nat.reduceAdd, Nat.reduceLeDiff, gN_I, gN_L, gN_P, bI_0, bI_ok, z0, z1, Bool.true_eq, Bool.false_eq_true, not_true_eq_false, not_false_eq_true]
    rfl
  · have c1 : ¬ (x' : Int) = 0 := by omega
    rw [if_neg q, if_neg q]
    simp (disch := omega) only [e113, r113_0, r113_1, r113_2, r113_5, r113_6, r113_9, r113_10, r113_13, r113_14, r113_15, r113_18, r113_19, r113_22, r113_23, r113_26, r113_27, r113_28, r113_31, ha, iI_eq, c1, sB0i, sB1i, sB2i, aup_u, kl_n, kl_i, kl_r, kl_z, kl_l, kl_d, catS_0, catS_c, cat_i, cat_l, cat_d, cat_r, cat_n, kC_r, kC_x, Option.bind_some, Option.toList_some, Option.toList_none, List.cons_append, List.nil_append, gB0, gB1, gB2, gB3, gB4, rvB, nI_iI, i0, i1, l0_, wr_s, aup_s, and_true, true_and, and_self, eq_self, if_true, if_false, Nat.zero_le, Nat.reduceAdd, Nat.reduceLeDiff, gN_I, gN_L, gN_P, bI_0, bI_ok, z0, z1, Bool.true_eq, Bool.false_eq_true, not_true_eq_false, not_false_eq_true]
theorem s_llike {o f t x f' t' x' : Nat} (ha : h a = some (aB 1 [.int (iI f), .int (iI t), .int (iI x)])) (ho : h o = some (aB 1 [.int (iI f'), .int (iI t'), .int (iI x')])) (b1 : f ≤ 9600) (b2 : t ≤ 9600) (b3 : x ≤ 8) (b4 : f' ≤ 9600) (b5 : t' ≤ 9600) (b6 : x' ≤ 8) :
    aE (d + 1) 112 [.ref a, .ref o] (h, r) = some (.inl (some (.int (bI (f = f' ∧ t = t' ∧ x = x')))), (h, r)) := by
  simp (disch := omega) only [e112, r112_0, r112_1, r112_4, r112_5, r112_8, r112_11, r112_12, r112_15, r112_16, r112_19, r112_22, r112_23, r112_26, r112_27, r112_30, r112_33, r112_34, r112_37, r112_38, ha, ho, iI_eq, kl_n, kl_i, kl_r, kl_z, kl_l, kl_d, catS_0, catS_c, cat_i, cat_l, cat_d, cat_r, cat_n, kC_r, kC_x, Option.bind_some, Option.toList_some, Option.toList_none, List.cons_append, List.nil_append, gB0, gB1, gB2, gB3, gB4, rvB, nI_iI, i0, i1, l0_, wr_s, aup_s, and_true, true_and, and_self, eq_self, if_true, if_false, Nat.zero_le, Nat.reduceAdd, Nat.reduceLeDiff, gN_I, gN_L, gN_P, bI_0, bI_ok, z0, z1, Bool.true_eq, Bool.false_eq_true, not_true_eq_false, not_false_eq_true]
  repeat' split
  all_goals first
    | exact fin_T (by omega)
    | exact fin_F (by omega)
end
