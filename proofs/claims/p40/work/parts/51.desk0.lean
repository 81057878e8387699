/-! ===== made: a song, a history, a desk ===== -/
/-- a new song -/
def S0 : Sg := ((0, fun _ => 0), (fun _ => 0, fun _ => 0, fun _ => 0), (1, upN (fun _ => 0) 0 0, upN (fun _ => 0) 0 1200, upN (fun _ => 0) 0 0), (1, upN (fun _ => 0) 0 0, upN (fun _ => 0) 0 4, upN (fun _ => 0) 0 4), (0, 0, 0))
section
variable {d a b w : Nat} {g : Nat × Nat} {h : aHf}
theorem rg_cons {n : Nat} {c : Nat → aC} {v : aC} : aup (rgW h (a + 1) n c) a v = rgW h a (n + 1) (fun k => if k = 0 then v else c (k - 1)) := by
  funext q
  unfold aup rgW
  by_cases e : q = a
  · rw [if_pos e, if_pos (by omega)]
    dsimp only
    rw [if_pos (by omega)]
  · rw [if_neg e]
    by_cases e2 : a + 1 ≤ q ∧ q < a + 1 + n
    · rw [if_pos e2, if_pos (by omega)]
      dsimp only
      rw [if_neg (by omega), show q - (a + 1) = q - a - 1 by omega]
    · rw [if_neg e2, if_neg (by omega)]
theorem s_newSong : aE (d + 5) 166 [.ref b] (aup h b (aB 6 [.null, .null, .null, .null, .null]), b + 1, w, g) = some (.inl none, (rgW h b 18 (sgC b S0), b + 18, w + 162, g)) := by
  have nn : ∀ {a w : Nat} {h : aHf}, _ := fun {a w : Nat} {h : aHf} => s_newNotes (d := d + 3) (a := a) (w := w) (g := g) (h := h)
  have nt : ∀ {a w : Nat} {h : aHf}, _ := fun {a w : Nat} {h : aHf} => s_newTracks (d := d + 3) (a := a) (w := w) (g := g) (h := h)
  have ns : ∀ {a w : Nat} {h : aHf}, _ := fun {a w : Nat} {h : aHf} => s_newSpeeds (d := d) (a := a) (w := w) (g := g) (h := h)
  have nm : ∀ {a w : Nat} {h : aHf}, _ := fun {a w : Nat} {h : aHf} => s_newMeters (d := d) (a := a) (w := w) (g := g) (h := h)
  simp only [i0, rg_cons] at nn nt ns nm
  have hA : L (d + 4) 166 0 [some (.ref b)] [] (aup h b (aB 6 [.null, .null, .null, .null, .null]), b + 1, w, g) =
      L (d + 4) 166 48 [some (.ref b)] [] (rgW h b 17 (fun k => if k = 0 then aB 6 [.ref (b + 1), .ref (b + 3), .ref (b + 7), .ref (b + 12), .null] else sgC b S0 k), b + 17, w + 159, g) := by
    rw [up_rg]
    simp (disch := omega) only [r166_0, r166_1, r166_4, r166_5, r166_8i, r166_8, r166_9, r166_12, r166_15, r166_16, r166_19i, r166_19, r166_20, r166_23, r166_26, r166_27, r166_30i, r166_30, r166_31, r166_34, r166_37, r166_38, r166_41i, r166_41, r166_42, r166_45, ob_i, nn, nt, ns, nm, rg_snoc, rg_0, if_pos, if_neg, sB0r, sB1r, sB2r, sB3r, rg_set0, Nat.add_assoc, kl_n, kl_i, kl_r, kl_z, kl_l, kl_d, catS_0, catS_c, cat_i, cat_l, cat_d, cat_r, cat_n, kC_r, kC_x, Option.bind_some, Option.toList_some, Option.toList_none, List.cons_append, List.nil_append, gB0, gB1, gB2, gB3, gB4, rvB, nI_iI, i0, i1, l0_, wr_s, aup_s, and_true, true_and, and_self, eq_self, if_true, if_false, Nat.zero_le, Nat.reduceAdd, Nat.reduceLeDiff, gN_I, gN_L, gN_P, bI_0, bI_ok, z0, z1, Bool.true_eq, Bool.false_eq_true, not_true_eq_false, not_false_eq_true]
    refine congrArg (fun z => L (d + 4) 166 48 _ _ (z, b + 17, w + 159, g)) (rg_ext (fun k hk => ?_))
    obtain rfl | rfl | rfl | rfl | rfl | rfl | rfl | rfl | rfl | rfl | rfl | rfl | rfl | rfl | rfl | rfl | rfl : k = 0 ∨ k = 1 ∨ k = 2 ∨ k = 3 ∨ k = 4 ∨ k = 5 ∨ k = 6 ∨ k = 7 ∨ k = 8 ∨ k = 9 ∨ k = 10 ∨ k = 11 ∨ k = 12 ∨ k = 13 ∨ k = 14 ∨ k = 15 ∨ k = 16 := by omega
    all_goals rfl
  have e0 : aE (d + 4) 111 [.ref (b + 17)] = fun H => some (.inl none, H) := by
    funext H
    obtain ⟨h, r⟩ := H
    simp only [e111, r111_0, r111_1, r111_4, ob_i, kl_n, kl_i, kl_r, kl_z, kl_l, kl_d, catS_0, catS_c, cat_i, cat_l, cat_d, cat_r, cat_n, kC_r, kC_x, Option.bind_some, Option.toList_some, Option.toList_none, List.cons_append, List.nil_append, gB0, gB1, gB2, gB3, gB4, rvB, nI_iI, i0, i1, l0_, wr_s, aup_s, and_true, true_and, and_self, eq_self, if_true, if_false, Nat.zero_le, Nat.reduceAdd, Nat.reduceLeDiff, gN_I, gN_L, gN_P, bI_0, bI_ok, z0, z1, Bool.true_eq, Bool.false_eq_true, not_true_eq_false, not_false_eq_true]
  rw [e166, hA]
  simp (disch := omega) only [r166_48, r166_49, r166_52i, r166_52, r166_53, r166_56, r166_59, rg_new, e0, rg_0, if_pos, if_neg, sB4r, rg_set0, Nat.add_assoc, kl_n, kl_i, kl_r, kl_z, kl_l, kl_d, catS_0, catS_c, cat_i, cat_l, cat_d, cat_r, cat_n, kC_r, kC_x, Option.bind_some, Option.toList_some, Option.toList_none, List.cons_append, List.nil_append, gB0, gB1, gB2, gB3, gB4, rvB, nI_iI, i0, i1, l0_, wr_s, aup_s, and_true, true_and, and_self, eq_self, if_true, if_false, Nat.zero_le, Nat.reduceAdd, Nat.reduceLeDiff, gN_I, gN_L, gN_P, bI_0, bI_ok, z0, z1, Bool.true_eq, Bool.false_eq_true, not_true_eq_false, not_false_eq_true]
  refine congrArg some (congrArg (Prod.mk _) (congrArg (fun z => (z, b + 18, w + 162, g)) (rg_ext (fun k hk => ?_))))
  obtain rfl | rfl | rfl | rfl | rfl | rfl | rfl | rfl | rfl | rfl | rfl | rfl | rfl | rfl | rfl | rfl | rfl | rfl : k = 0 ∨ k = 1 ∨ k = 2 ∨ k = 3 ∨ k = 4 ∨ k = 5 ∨ k = 6 ∨ k = 7 ∨ k = 8 ∨ k = 9 ∨ k = 10 ∨ k = 11 ∨ k = 12 ∨ k = 13 ∨ k = 14 ∨ k = 15 ∨ k = 16 ∨ k = 17 := by omega
  all_goals rfl
/-- a history with its first k songs made -/
def hkC (a k j : Nat) : aC :=
  if j = 0 then aB 0 [.ref (a + 1), .int (iI 0), .int (iI 0), .int (iI 0)]
  else if j = 1 then aP (.object "OvertureDesk$Song") 21 (fun i => if i < k then some (a + 2 + 18 * i) else none)
  else sgC (a + 2 + 18 * ((j - 2) / 18)) S0 ((j - 2) % 18)
theorem hk_loop : ∀ m k w : Nat, k + m = 21 → L (d + 6) 105 15 [some (.ref a), some (.int (iI k))] [] (rgW h a (2 + 18 * k) (hkC a k), a + (2 + 18 * k), w, g) =
    some (.inl none, (rgW h a 380 (hkC a 21), a + 380, w + 167 * m, g)) := by
  intro m
  induction m with
  | zero =>
    intro k w hk
    obtain rfl : k = 21 := by omega
    have r0 : rgW h a (2 + 18 * 21) (hkC a 21) a = some (aB 0 [.ref (a + 1), .int (iI 0), .int (iI 0), .int (iI 0)]) := rg_0 (by omega)
    have r1 : rgW h a (2 + 18 * 21) (hkC a 21) (a + 1) = some (aP (.object "OvertureDesk$Song") 21 (fun i => if i < 21 then some (a + 2 + 18 * i) else none)) := rg_at (k := 1) (by omega)
    have c1 : iI ((21 : Nat) : Int) ≤ iI ((21 : Nat) : Int) := by decide
    rw [r105_15]
    simp (disch := omega) only [r105_16, r105_17, r105_20, r105_21, r105_24, r105_25, r105_28, r105_29, r105_32i, r105_32, r105_33, r105_36, r105_37, r105_40, r105_43, r0, r1, gN_P, c1, kl_n, kl_i, kl_r, kl_z, kl_l, kl_d, catS_0, catS_c, cat_i, cat_l, cat_d, cat_r, cat_n, kC_r, kC_x, Option.bind_some, Option.toList_some, Option.toList_none, List.cons_append, List.nil_append, gB0, gB1, gB2, gB3, gB4, rvB, nI_iI, i0, i1, l0_, wr_s, aup_s, and_true, true_and, and_self, eq_self, if_true, if_false, Nat.zero_le, Nat.reduceAdd, Nat.reduceLeDiff, gN_I, gN_L, gN_P, bI_0, bI_ok, z0, z1, Bool.true_eq, Bool.false_eq_true, not_true_eq_false, not_false_eq_true]
    rfl
  | succ m ih =>
    intro k w hk
    have r0 : rgW h a (2 + 18 * k) (hkC a k) a = some (aB 0 [.ref (a + 1), .int (iI 0), .int (iI 0), .int (iI 0)]) := rg_0 (by omega)
    have r1 : rgW h a (2 + 18 * k) (hkC a k) (a + 1) = some (aP (.object "OvertureDesk$Song") 21 (fun i => if i < k then some (a + 2 + 18 * i) else none)) := rg_at (k := 1) (by omega)
    have c1 : ¬ (((21 : Nat) : Int) ≤ (k : Int)) := by omega
    have e1 : (k : Int) + 1 = ((k + 1 : Nat) : Int) := by omega
    have sn := s_newSong (d := d + 1) (b := a + (2 + 18 * k)) (w := w + 5) (g := g) (h := rgW h a (2 + 18 * k) (hkC a k))
    rw [rg_snoc] at sn
    have h9 := ih (k + 1) (w + 167) (by omega)
    have r3 : rgW h a (2 + 18 * k + 18) (fun j => if j < 2 + 18 * k then hkC a k j else sgC (a + (2 + 18 * k)) S0 (j - (2 + 18 * k))) (a + 1) = some (aP (.object "OvertureDesk$Song") 21 (fun i => if i < k then some (a + 2 + 18 * i) else none)) := by
      rw [rg_at (k := 1) (by omega), if_pos (by omega)]
      rfl
    have r4 : ∃ fs, rgW h a (2 + 18 * k + 18) (fun j => if j < 2 + 18 * k then hkC a k j else sgC (a + (2 + 18 * k)) S0 (j - (2 + 18 * k))) (a + (2 + 18 * k)) = some (aB 6 fs) := by
      refine ⟨[.ref (a + (2 + 18 * k) + 1), .ref (a + (2 + 18 * k) + 3), .ref (a + (2 + 18 * k) + 7), .ref (a + (2 + 18 * k) + 12), .ref (a + (2 + 18 * k) + 17)], ?_⟩
      rw [rg_at (k := 2 + 18 * k) (by omega), if_neg (by omega), Nat.sub_self]
      rfl
    obtain ⟨fs, r4⟩ := r4
    have ck : (iI (k : Int)).toNatClampNeg = k := by
      rw [iI_cl (by omega) (by omega), Int.toNat_natCast]
    have sp : sP (some (aP (.object "OvertureDesk$Song") 21 (fun i => if i < k then some (a + 2 + 18 * i) else none))) (some (aB 6 fs)) (iI k) (a + (2 + 18 * k)) = some (aP (.object "OvertureDesk$Song") 21 (fun i => if i < k + 1 then some (a + 2 + 18 * i) else none)) := by
      have e0 : updO (fun i => if i < k then some (a + 2 + 18 * i) else none) k (some (a + (2 + 18 * k))) = (fun i => if i < k + 1 then some (a + 2 + 18 * i) else none) := by
        funext i
        unfold updO
        by_cases e : i = k
        · rw [if_pos e, if_pos (by omega), e, Nat.add_assoc]
        · rw [if_neg e]
          dsimp only
          by_cases e2 : i < k
          · rw [if_pos e2, if_pos (by omega)]
          · rw [if_neg e2, if_neg (by omega)]
      show (if inB (iI k) 21 = true ∧ (aCl[6]?).map (·.1) = some "OvertureDesk$Song" then some (aP (.object "OvertureDesk$Song") 21 (updO (fun i => if i < k then some (a + 2 + 18 * i) else none) (iI (k : Int)).toNatClampNeg (some (a + (2 + 18 * k))))) else none) = _
      rw [if_pos ⟨by rw [inB_i (by omega) (by omega)]; exact decide_eq_true (by omega), by decide⟩, ck, e0]
    have st : aup (rgW h a (2 + 18 * k + 18) (fun j => if j < 2 + 18 * k then hkC a k j else sgC (a + (2 + 18 * k)) S0 (j - (2 + 18 * k)))) (a + 1) (aP (.object "OvertureDesk$Song") 21 (fun i => if i < k + 1 then some (a + 2 + 18 * i) else none)) = rgW h a (2 + 18 * (k + 1)) (hkC a (k + 1)) := by
      rw [rg_set (k := 1) (by omega), show 2 + 18 * (k + 1) = 2 + 18 * k + 18 by omega]
      refine rg_ext (fun j hj => ?_)
      unfold hkC
      by_cases j1 : j = 1
      · rw [if_pos j1, if_neg (by omega), if_pos j1]
      · rw [if_neg j1]
        by_cases j0 : j = 0
        · rw [if_pos (by omega), if_pos j0, if_pos j0]
        · by_cases j2 : j < 2 + 18 * k
          · rw [if_pos j2, if_neg j0, if_neg j1, if_neg j0, if_neg j1]
          · rw [if_neg j2, if_neg j0, if_neg j1, show (j - 2) / 18 = k by omega, show (j - 2) % 18 = j - (2 + 18 * k) by omega, Nat.add_assoc]
    generalize rgW h a (2 + 18 * k + 18) (fun j => if j < 2 + 18 * k then hkC a k j else sgC (a + (2 + 18 * k)) S0 (j - (2 + 18 * k))) = Hs at sn r3 r4 st
    rw [r105_15]
    simp (disch := omega) only [r105_16, r105_17, r105_20, r105_21, r105_24, r105_25, r105_28, r105_29, r105_32i, r105_32, r105_33, r105_36, r105_37, r105_40, r105_43, r0, r1, gN_P, iI_le, c1, sn, r3, r4, sp, st, iI_add, e1, kl_n, kl_i, kl_r, kl_z, kl_l, kl_d, catS_0, catS_c, cat_i, cat_l, cat_d, cat_r, cat_n, kC_r, kC_x, Option.bind_some, Option.toList_some, Option.toList_none, List.cons_append, List.nil_append, gB0, gB1, gB2, gB3, gB4, rvB, nI_iI, i0, i1, l0_, wr_s, aup_s, and_true, true_and, and_self, eq_self, if_true, if_false, Nat.zero_le, Nat.reduceAdd, Nat.reduceLeDiff, gN_I, gN_L, gN_P, bI_0, bI_ok, z0, z1, Bool.true_eq, Bool.false_eq_true, not_true_eq_false, not_false_eq_true]
    rw [show a + (2 + 18 * k) + 18 = a + (2 + 18 * (k + 1)) by omega, show w + 5 + 162 = w + 167 by omega, h9]
    rw [show w + 167 + 167 * m = w + 167 * (m + 1) by omega]
theorem s_newHist : aE (d + 7) 105 [.ref a] (aup h a (aB 0 [.null, .int 0, .int 0, .int 0]), a + 1, w, g) = some (.inl none, (rgW h a 380 (hkC a 21), a + 380, w + 3528, g)) := by
  have e1 : (iI 21).toNatClampNeg = 21 := by decide
  have e2 : ¬ (iI 21 < iI 0 ∨ 60000000 < 21) := by decide
  have hl := hk_loop (d := d) (a := a) (g := g) (h := h) 21 0 (w + 21) (by omega)
  have hA : L (d + 6) 105 0 [some (.ref a), none] [] (aup h a (aB 0 [.null, .int 0, .int 0, .int 0]), a + 1, w, g) =
      L (d + 6) 105 15 [some (.ref a), some (.int (iI (0 : Nat)))] [] (rgW h a (2 + 18 * 0) (hkC a 0), a + (2 + 18 * 0), w + 21, g) := by
    rw [up_rg]
    simp (disch := omega) only [r105_0, r105_1, r105_4, r105_5, r105_7, r105_10, r105_13, r105_14, ob_i, e1, e2, mk, rg_new, rg_0, if_pos, if_neg, sB0r, rg_set0, Nat.add_assoc, kl_n, kl_i, kl_r, kl_z, kl_l, kl_d, catS_0, catS_c, cat_i, cat_l, cat_d, cat_r, cat_n, kC_r, kC_x, Option.bind_some, Option.toList_some, Option.toList_none, List.cons_append, List.nil_append, gB0, gB1, gB2, gB3, gB4, rvB, nI_iI, i0, i1, l0_, wr_s, aup_s, and_true, true_and, and_self, eq_self, if_true, if_false, Nat.zero_le, Nat.reduceAdd, Nat.reduceLeDiff, gN_I, gN_L, gN_P, bI_0, bI_ok, z0, z1, Bool.true_eq, Bool.false_eq_true, not_true_eq_false, not_false_eq_true]
    refine congrArg (fun z => L (d + 6) 105 15 _ _ (z, a + 2, w + 21, g)) (rg_ext (fun k hk => ?_))
    obtain rfl | rfl : k = 0 ∨ k = 1 := by omega
    · rfl
    · rfl
  rw [e105, hA, hl, show w + 21 + 167 * 21 = w + 3528 by omega]
theorem s_newRend : aE (d + 1) 151 [.ref a] (aup h a (aB 5 [.null, .null, .int 0]), a + 1, w, g) = some (.inl none, (rgW h a 3 (rnC a (0, fun _ => 0, fun _ => 0)), a + 3, w + 1920, g)) := by
  have e1 : (iI 960).toNatClampNeg = 960 := by decide
  have e2 : ¬ (iI 960 < iI 0 ∨ 60000000 < 960) := by decide
  rw [up_rg]
  simp (disch := omega) only [e151, r151_0, r151_1, r151_4, r151_5, r151_8, r151_10, r151_13, r151_14, r151_17, r151_19, r151_22, ob_i, e1, e2, rg_new, rg_0, if_pos, if_neg, sB0r, sB1r, rg_set0, Nat.add_assoc, kl_n, kl_i, kl_r, kl_z, kl_l, kl_d, catS_0, catS_c, cat_i, cat_l, cat_d, cat_r, cat_n, kC_r, kC_x, Option.bind_some, Option.toList_some, Option.toList_none, List.cons_append, List.nil_append, gB0, gB1, gB2, gB3, gB4, rvB, nI_iI, i0, i1, l0_, wr_s, aup_s, and_true, true_and, and_self, eq_self, if_true, if_false, Nat.zero_le, Nat.reduceAdd, Nat.reduceLeDiff, gN_I, gN_L, gN_P, bI_0, bI_ok, z0, z1, Bool.true_eq, Bool.false_eq_true, not_true_eq_false, not_false_eq_true]
  refine congrArg some (congrArg (Prod.mk _) (congrArg (fun z => (z, a + 3, w + 1920, g)) ?_))
  refine rg_ext (fun k hk => ?_)
  obtain rfl | rfl | rfl : k = 0 ∨ k = 1 ∨ k = 2 := by omega
  all_goals rfl
/-- a new desk -/
def W0 : Dk := (S0, (0, 0, 0, fun _ => S0), (0, fun _ => 0), (0, fun _ => 0, fun _ => 0), false)
theorem s_newDesk : aE (d + 8) 34 [.ref a] (aup h a (aB 9 [.null, .null, .null, .null, .int 0]), a + 1, w, g) = some (.inl none, (dkW h a W0, a + 404, w + 5684, g)) := by
  have nS : ∀ {a w : Nat} {h : aHf}, _ := fun {a w : Nat} {h : aHf} => s_newSong (d := d + 2) (b := a) (w := w) (g := g) (h := h)
  have nH : ∀ {a w : Nat} {h : aHf}, _ := fun {a w : Nat} {h : aHf} => s_newHist (d := d) (a := a) (w := w) (g := g) (h := h)
  have nn : ∀ {a w : Nat} {h : aHf}, _ := fun {a w : Nat} {h : aHf} => s_newNotes (d := d + 6) (a := a) (w := w) (g := g) (h := h)
  have nr : ∀ {a w : Nat} {h : aHf}, _ := fun {a w : Nat} {h : aHf} => s_newRend (d := d + 6) (a := a) (w := w) (g := g) (h := h)
  have z4 : ∀ {l : List Value} {v0 v1 v2 v3 v4 : Value}, sF (some (aB 9 [v0, v1, v2, v3, v4])) 9 4 1 (.int (iI 0)) = some (aB 9 [v0, v1, v2, v3, .int (iI 0)]) := fun {l v0 v1 v2 v3 v4} => sB4z (p := false = true)
  have z5 := @z4 []
  simp only [i0] at nS nH nn nr
  rw [up_rg]
  simp (disch := omega) only [e34, r34_0, r34_1, r34_4, r34_5, r34_8i, r34_8, r34_9, r34_12, r34_15, r34_16, r34_19i, r34_19, r34_20, r34_23, r34_26, r34_27, r34_30i, r34_30, r34_31, r34_34, r34_37, r34_38, r34_41i, r34_41, r34_42, r34_45, r34_48, r34_49, r34_50, r34_53, ob_i, nS, nH, nn, nr, rg_snoc, rg_0, if_pos, if_neg, sB0r, sB1r, sB2r, sB3r, z5, rg_set0, Nat.add_assoc, kl_n, kl_i, kl_r, kl_z, kl_l, kl_d, catS_0, catS_c, cat_i, cat_l, cat_d, cat_r, cat_n, kC_r, kC_x, Option.bind_some, Option.toList_some, Option.toList_none, List.cons_append, List.nil_append, gB0, gB1, gB2, gB3, gB4, rvB, nI_iI, i0, i1, l0_, wr_s, aup_s, and_true, true_and, and_self, eq_self, if_true, if_false, Nat.zero_le, Nat.reduceAdd, Nat.reduceLeDiff, gN_I, gN_L, gN_P, bI_0, bI_ok, z0, z1, Bool.true_eq, Bool.false_eq_true, not_true_eq_false, not_false_eq_true]
  refine congrArg some (congrArg (Prod.mk _) (congrArg (fun z => (z, a + 404, w + 5684, g)) (rg_ext (fun k hk => ?_))))
  rcases (show k = 0 ∨ (0 < k ∧ k < 19) ∨ (19 ≤ k ∧ k < 399) ∨ (399 ≤ k ∧ k < 401) ∨ (401 ≤ k ∧ k < 404) by omega) with e | e | e | e | e
  all_goals unfold dkC
  all_goals simp (disch := omega) only [if_pos, if_neg]
  all_goals rfl
end
