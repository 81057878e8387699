/-! ===== the law's small methods; what is asked leaves the desk as it was ===== -/
/-- the last 31 bits, what is left of them by m -/
def bw (v : Int32) (m : Int) : Nat := v.toBitVec.toNat % 2147483648 % m.toNat
theorem bw_lt {v : Int32} {m : Int} (h : 0 < m) : ((bw v m : Nat) : Int) < m := by
  have := Nat.mod_lt (v.toBitVec.toNat % 2147483648) (show 0 < m.toNat by omega)
  unfold bw
  omega
theorem and31 (v : Int32) : v &&& iI 2147483647 = iI ((v.toBitVec.toNat % 2147483648 : Nat) : Int) := by
  apply Int32.toBitVec.inj
  rw [Int32.toBitVec_and, show iI 2147483647 = iI ((2147483647 : Nat) : Int) from rfl, in_bv, in_bv]
  apply BitVec.eq_of_toNat_eq
  have h1 : v.toBitVec.toNat &&& 2147483647 = v.toBitVec.toNat % 2147483648 := Nat.and_two_pow_sub_one_eq_mod _ 31
  rw [BitVec.toNat_and, BitVec.toNat_ofNat, BitVec.toNat_ofNat, Nat.mod_eq_of_lt (a := 2147483647) (by decide), h1, Nat.mod_eq_of_lt (a := v.toBitVec.toNat % 2147483648) (b := 2 ^ 32) (by omega)]
section
variable {d n w : Nat} {g : Nat × Nat} {h : aHf} {H : aH} {x : Nat} {W : Dk} {r : Nat × Nat × Nat × Nat}
theorem s_below {v : Int32} {m : Int} (h1 : 0 < m) (h2 : m < 2147483648) : aE (d + 1) 2 [.int v, .int (iI m)] (h, r) = some (.inl (some (.int (iI (bw v m)))), (h, r)) := by
  have c0 : ¬ iI m = iI 0 := by
    rw [iI_eq (by omega) (by omega) (by omega) (by omega)]
    omega
  obtain ⟨a, ha⟩ : ∃ a, a = v.toBitVec.toNat % 2147483648 := ⟨_, rfl⟩
  have hb : ((bw v m : Nat) : Int) = (a : Int) - (a : Int) / m * m := by
    unfold bw
    rw [← ha, Int.natCast_emod, show ((m.toNat : Nat) : Int) = m by omega, Int.emod_def, Int.mul_comm]
  simp (disch := omega) only [e2, r2_0, r2_1, r2_3, r2_4, r2_5, r2_6, and31, ← ha, c0, iI_div, iI_mul, iI_sub, hb, kl_n, kl_i, kl_r, kl_z, kl_l, kl_d, catS_0, catS_c, cat_i, cat_l, cat_d, cat_r, cat_n, kC_r, kC_x, Option.bind_some, Option.toList_some, Option.toList_none, List.cons_append, List.nil_append, gB0, gB1, gB2, gB3, gB4, rvB, nI_iI, i0, i1, l0_, wr_s, aup_s, and_true, true_and, and_self, eq_self, if_true, if_false, Nat.zero_le, Nat.reduceAdd, Nat.reduceLeDiff, gN_I, gN_L, gN_P, bI_0, bI_ok, z0, z1, Bool.true_eq, Bool.false_eq_true, not_true_eq_false, not_false_eq_true]
theorem s_cell {b K : Nat} {xs : Nat → Int32} {k : Nat} (hb : h b = some (aI .float K xs)) (hK : K ≤ 260) (hk : k < 48) : ∃ v, aE (d + 1) 3 [.ref b, .int (iI k)] (h, r) = some (.inl (some (.int v)), (h, r)) := by
  by_cases q : (K : Int) ≤ k
  · exact ⟨iI 790386105 * (iI k + iI 3), by simp (disch := omega) only [e3, r3_0, r3_1, r3_2, r3_3, r3_6, r3_7, r3_8, r3_9, r3_12, r3_14, r3_15, r3_16, r3_17, r3_18, hb, iI_le, q, kl_n, kl_i, kl_r, kl_z, kl_l, kl_d, catS_0, catS_c, cat_i, cat_l, cat_d, cat_r, cat_n, kC_r, kC_x, Option.bind_some, Option.toList_some, Option.toList_none, List.cons_append, List.nil_append, gB0, gB1, gB2, gB3, gB4, rvB, nI_iI, i0, i1, l0_, wr_s, aup_s, and_true, true_and, and_self, eq_self, if_true, if_false, Nat.zero_le, Nat.reduceAdd, Nat.reduceLeDiff, gN_I, gN_L, gN_P, bI_0, bI_ok, z0, z1, Bool.true_eq, Bool.false_eq_true, not_true_eq_false, not_false_eq_true]⟩
  · exact ⟨xs (k : Int).toNat, by simp (disch := omega) only [e3, r3_0, r3_1, r3_2, r3_3, r3_6, r3_7, r3_8, r3_9, r3_12, r3_14, r3_15, r3_16, r3_17, r3_18, hb, iI_le, q, gI_F, kl_n, kl_i, kl_r, kl_z, kl_l, kl_d, catS_0, catS_c, cat_i, cat_l, cat_d, cat_r, cat_n, kC_r, kC_x, Option.bind_some, Option.toList_some, Option.toList_none, List.cons_append, List.nil_append, gB0, gB1, gB2, gB3, gB4, rvB, nI_iI, i0, i1, l0_, wr_s, aup_s, and_true, true_and, and_self, eq_self, if_true, if_false, Nat.zero_le, Nat.reduceAdd, Nat.reduceLeDiff, gN_I, gN_L, gN_P, bI_0, bI_ok, z0, z1, Bool.true_eq, Bool.false_eq_true, not_true_eq_false, not_false_eq_true]⟩
theorem bk4_1 {l0 l1 : Option Value} {st : List Value} : aK d 4 (aBack 4 1 [l0, l1] st (some (.inr eIS, H))) = L d 4 19 [klL l0, none] [] H := by
  have e1 : hnd (mOc 4) 1 eIS (mHH 4) = some (some 18) := by decide +kernel
  have e2 : mDec 4 18 = some (.astore_n 1, 1) := by decide +kernel
  unfold aBack
  dsimp only
  rw [e1]
  dsimp only
  rw [e2]
  rfl
theorem s_isFree (hI : Inv W) : (W.2.2.2.2 = false ∧ aE (d + 13) 4 [.ref x] (dkW h x W, n, w, g) = some (.inl (some (.int (iI 1))), (dkW h x W, n, w, g))) ∨ (W.2.2.2.2 = true ∧ aE (d + 13) 4 [.ref x] (dkW h x W, n, w, g) = some (.inl (some (.int (iI 0))), (dkW h x W, n + 1, w + 6, g))) := by
  rcases v_openGroup (d := d) (x := x) (g := g) hI with ⟨q, ho⟩ | ⟨q, ho⟩
  · refine Or.inl ⟨q, ?_⟩
    have z1 := ho h n w
    have z2 := s_closeGroup (d := d) (n := n) (w := w) (g := g) (h := h) (x := x) (Inv_ok (Inv_open hI)) rfl
    have lk := hI.2.2.1 q
    have e1 : seW (W.1, W.2.1, W.2.2.1, W.2.2.2.1, false) = W := by
      unfold seW
      rw [if_pos (Or.inr lk), ← q]
    change aE (d + 12) 58 [.ref x] (dkW h x (W.1, W.2.1, W.2.2.1, W.2.2.2.1, true), n, w, g) = some (.inl (some (.int (bI (¬ lkS (W.2.1.2.2.2 W.2.1.1) W.1)))), (dkW h x (seW (W.1, W.2.1, W.2.2.1, W.2.2.2.1, false)), n, w, g)) at z2
    rw [e1, ← bI_F (p := ¬ lkS (W.2.1.2.2.2 W.2.1.1) W.1) (fun z => z lk)] at z2
    simp (disch := omega) only [e4, r4_0, r4_1, r4_4i, r4_4, r4_5, r4_6, r4_9, r4_12, r4_13, r4_16, r4_17, r4_18, r4_19, r4_20, dk_0, z1, z2, kl_n, kl_i, kl_r, kl_z, kl_l, kl_d, catS_0, catS_c, cat_i, cat_l, cat_d, cat_r, cat_n, kC_r, kC_x, Option.bind_some, Option.toList_some, Option.toList_none, List.cons_append, List.nil_append, gB0, gB1, gB2, gB3, gB4, rvB, nI_iI, i0, i1, l0_, wr_s, aup_s, and_true, true_and, and_self, eq_self, if_true, if_false, Nat.zero_le, Nat.reduceAdd, Nat.reduceLeDiff, gN_I, gN_L, gN_P, bI_0, bI_ok, z0, z1, Bool.true_eq, Bool.false_eq_true, not_true_eq_false, not_false_eq_true]
    rfl
  · refine Or.inr ⟨q, ?_⟩
    have z1 := ho h n w
    simp (disch := omega) only [e4, r4_0, r4_1, r4_4i, r4_4, r4_5, r4_6, r4_9, r4_12, r4_13, r4_16, r4_17, r4_18, r4_19, r4_20, dk_0, z1, bk4_1, kl_n, kl_i, kl_r, kl_z, kl_l, kl_d, catS_0, catS_c, cat_i, cat_l, cat_d, cat_r, cat_n, kC_r, kC_x, Option.bind_some, Option.toList_some, Option.toList_none, List.cons_append, List.nil_append, gB0, gB1, gB2, gB3, gB4, rvB, nI_iI, i0, i1, l0_, wr_s, aup_s, and_true, true_and, and_self, eq_self, if_true, if_false, Nat.zero_le, Nat.reduceAdd, Nat.reduceLeDiff, gN_I, gN_L, gN_P, bI_0, bI_ok, z0, z1, Bool.true_eq, Bool.false_eq_true, not_true_eq_false, not_false_eq_true]
/-! asked -/
def pW (W : Dk) (V : Rn) : Dk := (W.1, W.2.1, W.2.2.1, V, W.2.2.2.2)
theorem rn_pl (hI : Inv W) : rnG ((plE W).1, (plE W).2, W.2.2.2.1.2.2) := by
  have hk := plE_ok hI.1.1 (Inv_rn hI).1
  exact ⟨hk.1, hk.2, (Inv_rn hI).2⟩
theorem q_events (hI : Inv W) : ∃ V, rnG V ∧ aE (d + 12) 71 [.ref x] (dkW h x W, n, w, g) = some (.inl (some (.int (iI (plC W.1).1))), (dkW h x (pW W V), n, w, g)) := by
  have z := s_events (d := d) (n := n) (w := w) (g := g) (h := h) (x := x) (Inv_ok hI) (Inv_rn hI)
  rw [(plE_R W).1] at z
  exact ⟨_, rn_pl hI, z⟩
theorem q_event {C : Nat → Nat} {j k : Nat} (hI : Inv W) (hC : evS W.1 C) (hj : j < (plC W.1).1) (hk : k ≤ 3) : ∃ V, rnG V ∧ aE (d + 12) 72 [.ref x, .int (iI j), .int (iI k)] (dkW h x W, n, w, g) = some (.inl (some (.int (iI (vFact (C j) k)))), (dkW h x (pW W V), n, w, g)) := by
  obtain ⟨D, S, z1, z2, z3, z4, z5⟩ := s_event (d := d) (n := n) (w := w) (g := g) (h := h) (x := x) (j := j) (k := k) (Inv_ok hI) (Inv_rn hI) (by rw [(plE_R W).1]; exact hj) hk
  rw [evS_u (evS_of z1 z2 z3) hC j hj] at z5
  exact ⟨((plE W).1, D, S), ⟨(plE_ok hI.1.1 (Inv_rn hI).1).1, z3, z4⟩, z5⟩
theorem q_sounding {t : Nat} (hI : Inv W) (ht : t ≤ 99999) : ∃ V, rnG V ∧ aE (d + 12) 73 [.ref x, .int (iI t)] (dkW h x W, n, w, g) = some (.inl (some (.int (iI (ctI (plE W).2 t (plE W).1)))), (dkW h x (pW W V), n, w, g)) :=
  ⟨_, rn_pl hI, s_sounding (Inv_ok hI) (Inv_rn hI) ht⟩
theorem q_most {C : Nat → Nat} (hI : Inv W) (hC : evS W.1 C) : ∃ V, rnG V ∧ aE (d + 12) 74 [.ref x] (dkW h x W, n, w, g) = some (.inl (some (.int (iI (gtI C (plC W.1).1)))), (dkW h x (pW W V), n, w, g)) := by
  obtain ⟨D, S, z1, z2, z3, z4, z5⟩ := s_most (d := d) (n := n) (w := w) (g := g) (h := h) (x := x) (Inv_ok hI) (Inv_rn hI)
  rw [(plE_R W).1, gt_e _ (evS_u (evS_of z1 z2 z3) hC)] at z5
  exact ⟨((plE W).1, D, S), ⟨(plE_ok hI.1.1 (Inv_rn hI).1).1, z3, z4⟩, by rw [z5, ← (plE_R W).1]; rfl⟩
theorem q_playedTo (hI : Inv W) : ∃ V, rnG V ∧ aE (d + 12) 75 [.ref x] (dkW h x W, n, w, g) = some (.inl (some (.int (iI (ltN (plE W).2 (plE W).1)))), (dkW h x (pW W V), n, w, g)) :=
  ⟨_, rn_pl hI, s_playedTo (Inv_ok hI) (Inv_rn hI)⟩
theorem q_mean (hI : Inv W) : ∃ V, rnG V ∧ aE (d + 12) 76 [.ref x] (dkW h x W, n, w, g) = some (.inl (some (.double (mnD (mfS (plE W).2 (plE W).1) (mfC (plE W).2 (plE W).1)))), (dkW h x (pW W V), n, w, g)) :=
  ⟨_, rn_pl hI, s_meanForce (Inv_ok hI) (Inv_rn hI) (mf_ok hI.1).1⟩
theorem q_digest {C : Nat → Nat} {f : Nat → Int32} (hI : Inv W) (hC : evS W.1 C) (hq : ∀ W' : Dk, dkW h x W' g.1 = some (aI .float 8 f)) (hf : ∀ j, j < 8 → f j = st_f j) : ∃ V, rnG V ∧ aE (d + 12) 85 [.ref x] (dkW h x W, n, w, g) = some (.inl (some (.long (dgV W.1 W.2.1.2.1 W.2.1.2.2.1 C))), (dkW h x (pW W V), n, w, g)) := by
  obtain ⟨D, S, V, z1, z2, z3, z4, z5, z6, z7⟩ := s_digest (d := d) (n := n) (w := w) (g := g) (h := h) (x := x) (Inv_ok hI) (Inv_rn hI) (tm_ok hI.1) hq hf
  refine ⟨V, ⟨z6, z5⟩, ?_⟩
  have hu := evS_u (evS_of z1 z2 z3) hC
  have e : adE D (plE W).1 (dgA W) = adE C (plC W.1).1 (dgB W.1 W.2.1.2.1 W.2.1.2.2.1) := by
    rw [(plE_R W).1]
    exact adE_e hu
  rw [z7, e]
  rfl
/-! times -/
theorem s_timesR {v : Int32} {f : Nat → Int32} (hI : Inv W) (hq : dkW h x W g.1 = some (aI .float 8 f)) (hf : ∀ j, j < 8 → f j = st_f j) : aE (d + 13) 7 [.ref x, .int v] (dkW h x W, n, w, g) = some (.inl (some (.int (iI 1))), (dkW h x W, n, w, g)) := by
  have hO := Inv_ok hI
  have hM := hO.1.2.2.2.2.2.2.1
  have hA := hO.1.2.2.2.2.2.2.2.1
  have hT3 : ((bw v 3000 : Nat) : Int) < 3000 := bw_lt (by omega)
  obtain ⟨T, hT⟩ : ∃ T, T = bw v 3000 := ⟨_, rfl⟩
  rw [← hT] at hT3
  have hB := bAt_b (t := T) (A := W.1.2.2.2.1.2.2.1) hM.1 (by omega) hI.1.2.2.2.2.1.2 (fun i hi => (hI.1.2.2.2.2.1.1 i hi).2.2)
  have hbar := bar_ok (t := T) hM
  have hbt := beat_ok (n := W.1.2.2.2.1.1) (t := T) (P := W.1.2.2.2.1.2.1) (B := W.1.2.2.2.1.2.2.2) hA
  have t0 := s_timeOf (d := d) (n := n) (w := w) (g := g) (h := h) (x := x) hO (show T ≤ 99999 by omega)
  have t1 := s_timeOf (d := d) (n := n) (w := w) (g := g) (h := h) (x := x) hO (show T + 1 ≤ 99999 by omega)
  have tl := tm_ok hI.1 T (by omega)
  have tl1 := tm_ok hI.1 (T + 1) (by omega)
  have tm := tmS_mono (S := W.1) (show T ≤ T + 1 by omega)
  have tk := tk_ok (S := W.1) (show T < 100000 by omega)
  have k0 := s_tickOf (d := d) (n := n) (w := w) (g := g) (h := h) (x := x) hO (tm_ok hI.1) tl
  have b0 := s_barOf (d := d) (n := n) (w := w) (g := g) (h := h) (x := x) hO (show T ≤ 99999 by omega)
  have b1 := s_beatOf (d := d) (n := n) (w := w) (g := g) (h := h) (x := x) hO (show T ≤ 99999 by omega)
  have c0 := s_tickOfBar (d := d) (n := n) (w := w) (g := g) (h := h) (x := x) (t := bAt W.1.2.2.2.1.1 W.1.2.2.2.1.2.1 W.1.2.2.2.1.2.2.1 W.1.2.2.2.1.2.2.2 T) hO (by omega)
  have c1 := s_tickOfBar (d := d) (n := n) (w := w) (g := g) (h := h) (x := x) (t := bAt W.1.2.2.2.1.1 W.1.2.2.2.1.2.1 W.1.2.2.2.1.2.2.1 W.1.2.2.2.1.2.2.2 T + 1) hO (by omega)
  have cb := bSt_b (v := bAt W.1.2.2.2.1.1 W.1.2.2.2.1.2.1 W.1.2.2.2.1.2.2.1 W.1.2.2.2.1.2.2.2 T + 1) hM hA (by omega)
  have m6 := v_would (d := d) (x := x) (g := g) (t := -1) (s := 6) hI (by unfold rgOk; omega) (by omega) h n w
  have m1 := v_would (d := d) (x := x) (g := g) (t := -1) (s := 1) hI (by unfold rgOk; omega) (by omega) h n w
  obtain ⟨bs, bl⟩ := best_ok hI.1
  have mb := v_would (d := d) (x := x) (g := g) (t := -1) (s := (fsR (ofN (-1) 0 9600 W.1.1.2 W.1.1.1) 8).1) hI (by unfold rgOk; omega) bs h n w
  have be := s_bestStep (d := d) (n := n) (w := w) (g := g) (h := h) (x := x) (t := -1) (v := 0) (u := 9600) hO (by unfold rgOk; omega) hq hf
  have o1 := of_1 hI.1 (t := -1) (v := 0) (u := 9600)
  have o6 : ofN (-1) 0 9600 W.1.1.2 W.1.1.1 6 ≤ 60 := Nat.le_trans (cntP_le _ _ _) hI.1.1.1
  rw [o1] at m1
  change tmS W.1 T < 2147483648 at tl
  change tmS W.1 (T + 1) < 2147483648 at tl1
  change aE (d + 12) 64 [.ref x, .int (iI (T : Int))] (dkW h x W, n, w, g) = some (.inl (some (.int (iI (tmS W.1 T : Nat)))), (dkW h x W, n, w, g)) at t0
  change aE (d + 12) 64 [.ref x, .int (iI ((T : Int) + 1))] (dkW h x W, n, w, g) = some (.inl (some (.int (iI (tmS W.1 (T + 1) : Nat)))), (dkW h x W, n, w, g)) at t1
  change aE (d + 12) 65 [.ref x, .int (iI (tmS W.1 T : Nat))] (dkW h x W, n, w, g) = some (.inl (some (.int (iI (tkA (fun t => tmS W.1 t) (tmS W.1 T) 17 0 : Nat)))), (dkW h x W, n, w, g)) at k0
  change aE (d + 12) 68 [.ref x, .int (iI ((bAt W.1.2.2.2.1.1 W.1.2.2.2.1.2.1 W.1.2.2.2.1.2.2.1 W.1.2.2.2.1.2.2.2 T : Nat) + 1))] (dkW h x W, n, w, g) = _ at c1
  change aE (d + 12) 78 [.ref x, .int (iI (-1)), .int (iI 0), .int (iI 9600), .int (iI 6)] (dkW h x W, n, w, g) = _ at m6
  change aE (d + 12) 78 [.ref x, .int (iI (-1)), .int (iI 0), .int (iI 9600), .int (iI 1)] (dkW h x W, n, w, g) = some (.inl (some (.int (iI 0))), _) at m1
  generalize bSt W.1.2.2.2.1.1 W.1.2.2.2.1.2.1 W.1.2.2.2.1.2.2.1 W.1.2.2.2.1.2.2.2 (bAt W.1.2.2.2.1.1 W.1.2.2.2.1.2.1 W.1.2.2.2.1.2.2.1 W.1.2.2.2.1.2.2.2 T + 1) = B1 at *
  generalize bSt W.1.2.2.2.1.1 W.1.2.2.2.1.2.1 W.1.2.2.2.1.2.2.1 W.1.2.2.2.1.2.2.2 (bAt W.1.2.2.2.1.1 W.1.2.2.2.1.2.1 W.1.2.2.2.1.2.2.1 W.1.2.2.2.1.2.2.2 T) = B0 at *
  generalize bAt W.1.2.2.2.1.1 W.1.2.2.2.1.2.1 W.1.2.2.2.1.2.2.1 W.1.2.2.2.1.2.2.2 T = Bq at *
  generalize btAt W.1.2.2.2.1.1 W.1.2.2.2.1.2.1 W.1.2.2.2.1.2.2.1 W.1.2.2.2.1.2.2.2 T = Bt at *
  generalize tkA (fun t => tmS W.1 t) (tmS W.1 T) 17 0 = Tk at *
  generalize tmS W.1 (T + 1) = A1 at *
  generalize tmS W.1 T = A0 at *
  generalize (fsR (ofN (-1) 0 9600 W.1.1.2 W.1.1.1) 8).1 = bst at *
  generalize ofN (-1) 0 9600 W.1.1.2 W.1.1.1 bst = M0 at *
  generalize ofN (-1) 0 9600 W.1.1.2 W.1.1.1 6 = M6 at *
  have q1 : ¬ (A1 : Int) < A0 := by omega
  have q2 : ¬ (Tk : Int) < T := by omega
  have q3 : ¬ (T : Int) < B0 := by omega
  have q4 : ¬ (B1 : Int) ≤ T := by omega
  have q5 : ¬ (Bt : Int) < 0 := by omega
  have q6 : (Bt : Int) ≤ 15 := by omega
  have q7 : ¬ (M6 : Int) < M0 := by omega
  simp (disch := omega) only [e7, r7_0, r7_1, r7_4, r7_7, r7_8, r7_9, r7_10, r7_13, r7_14, r7_15, r7_16, r7_19, r7_20, r7_21, r7_22, r7_23, r7_26, r7_29, r7_30, r7_31, r7_32, r7_35, r7_38, r7_39, r7_42, r7_43, r7_44, r7_47, r7_48, r7_51, r7_52, r7_53, r7_54, r7_55, r7_58, r7_59, r7_62, r7_63, r7_64, r7_67, r7_70, r7_71, r7_72, r7_75, r7_77, r7_80, r7_81, r7_82, r7_83, r7_84, r7_85, r7_88, r7_91, r7_93, r7_94, r7_95, r7_96, r7_99, r7_101, r7_104, r7_105, r7_106, r7_107, r7_110, r7_112, r7_115, r7_118, r7_119, r7_120, r7_121, r7_124, r7_125, r7_128, r7_131, r7_132, r7_135, r7_136, dk_0, s_below, ← hT, b0, t0, t1, k0, b1, c0, c1, m6, m1, mb, be, iI_add, iI_lt, iI_le, q1, q2, q3, q4, q5, q6, q7, kl_n, kl_i, kl_r, kl_z, kl_l, kl_d, catS_0, catS_c, cat_i, cat_l, cat_d, cat_r, cat_n, kC_r, kC_x, Option.bind_some, Option.toList_some, Option.toList_none, List.cons_append, List.nil_append, gB0, gB1, gB2, gB3, gB4, rvB, nI_iI, i0, i1, l0_, wr_s, aup_s, and_true, true_and, and_self, eq_self, if_true, if_false, Nat.zero_le, Nat.reduceAdd, Nat.reduceLeDiff, gN_I, gN_L, gN_P, bI_0, bI_ok, z0, z1, Bool.true_eq, Bool.false_eq_true, not_true_eq_false, not_false_eq_true]
end
