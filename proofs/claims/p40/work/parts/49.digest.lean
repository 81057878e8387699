/-! ===== the checksum ===== -/
def adZ (s : Int64) (y : Int32) : Int64 := s * lI 31 + y.toInt64
theorem adZ_L {s : Int64} {v : Int} (h1 : -2147483648 ≤ v) (h2 : v < 2147483648) : adZ s (iI v) = adL s v := by
  unfold adZ adL
  rw [i_l h1 h2]
def adG (c : Nat) : Nat → Int64 → Int64
  | 0, s => s
  | k + 1, s => adL (adG c k s) (vFact c k)
def adM (C : Nat → Nat) : Nat → Int64 → Int64
  | 0, s => s
  | k + 1, s => adG (C k) 4 (adM C k s)
/-- events summed -/
def adE (C : Nat → Nat) (N : Nat) (s : Int64) : Int64 := adZ (adZ (adM C N (adZ s (iI N))) (iI (gtI C N))) (iI (ltN C N))
theorem vFact_lt {c : Nat} (hc : vOk c) (k : Nat) : vFact c k < 4194304 := by
  unfold vOk at hc
  unfold vFact
  repeat' split
  all_goals omega
theorem evA_1 {e e' : EV} {c c' : Nat} (h : e.1 = e'.1) : (evA e c).1 = (evA e' c').1 := by
  unfold evA
  rw [h]
  split <;> simp only [h]
theorem evO_1 {e e' : EV} {c l : Nat} {k : Int} (h : e.1 = e'.1) : (evO c k l e).1 = (evO c k l e').1 := evA_1 (evA_1 h)
theorem evL_1 {e e' : EV} {c a b : Nat} {D : Int} (h : e.1 = e'.1) : ∀ j, (evL c a b D j e).1 = (evL c a b D j e').1
  | 0 => h
  | j + 1 => evO_1 (evL_1 h j)
theorem evN_1 {e e' : EV} {c : Nat} {lp : LPv} {D : Int} (h : e.1 = e'.1) : (evN c lp D e).1 = (evN c lp D e').1 := by
  unfold evN
  split
  · exact evO_1 h
  · split
    · exact evO_1 h
    · exact evL_1 h _
theorem evT_1 {e e' : EV} {F : Nat → Nat} {t : Nat} {s D : Int} {lp : LPv} (h : e.1 = e'.1) : ∀ k, (evT F t s D lp k e).1 = (evT F t s D lp k e').1
  | 0 => h
  | k + 1 => by
    unfold evT
    split
    · exact evN_1 (evT_1 h k)
    · exact evT_1 h k
/-- how many events a track alone has -/
def ptN (S : Sg) (t : Nat) : Nat := (evT S.1.2 t (S.2.1.2.1 t) (S.2.1.2.2 t) S.2.2.2.2 S.1.1 (0, fun _ => 0)).1
theorem ptE_1 (W : Dk) (t : Nat) : (ptE W t).1 = ptN W.1 t := evT_1 (e := (0, W.2.2.2.1.2.1)) (e' := (0, fun _ => 0)) rfl _
def adT (S : Sg) : Nat → Int64 → Int64
  | 0, s => s
  | t + 1, s => adZ (adT S t s) (iI (ptN S t))
section
variable {d n w : Nat} {g : Nat × Nat} {h : aHf} {x : Nat} {W : Dk}
theorem s_addZ {H : aH} {s : Int64} {y : Int32} : aE (d + 1) 82 [.long s, .int y] H = some (.inl (some (.long (adZ s y))), H) := by
  obtain ⟨h, r⟩ := H
  simp only [e82, r82_0, r82_1, r82_4, r82_5, r82_6, r82_7, r82_8, kl_n, kl_i, kl_r, kl_z, kl_l, kl_d, catS_0, catS_c, cat_i, cat_l, cat_d, cat_r, cat_n, kC_r, kC_x, Option.bind_some, Option.toList_some, Option.toList_none, List.cons_append, List.nil_append, gB0, gB1, gB2, gB3, gB4, rvB, nI_iI, i0, i1, l0_, wr_s, aup_s, and_true, true_and, and_self, eq_self, if_true, if_false, Nat.zero_le, Nat.reduceAdd, Nat.reduceLeDiff, gN_I, gN_L, gN_P, bI_0, bI_ok, z0, z1, Bool.true_eq, Bool.false_eq_true, not_true_eq_false, not_false_eq_true]
  rfl
theorem ae_in {i : Nat} {X : Option Value} {s : Int64} (hC : ∀ i, vOk (W.2.2.2.1.2.1 i)) (hi : i < 960) (V : aR) (hV : ∀ l6 : Option Value, L (d + 3) 84 61 [some (.ref x), X, none, some (.long (adG (W.2.2.2.1.2.1 i) 4 s)), none, some (.int (iI i)), l6] [] (dkW h x W, n, w, g) = V) :
    ∀ m j : Nat, j + m = 4 → L (d + 3) 84 30 [some (.ref x), X, none, some (.long (adG (W.2.2.2.1.2.1 i) j s)), none, some (.int (iI i)), some (.int (iI j))] [] (dkW h x W, n, w, g) = V := by
  intro m
  induction m with
  | zero =>
    intro j hj
    obtain rfl : j = 4 := by omega
    have c1 : (4 : Int) ≤ ((4 : Nat) : Int) := by omega
    rw [r84_30]
    simp (disch := omega) only [r84_32, r84_33, r84_36, r84_37, r84_38, r84_41, r84_43, r84_46, r84_48, r84_51, r84_54, r84_55, r84_58, iI_le, c1, kl_n, kl_i, kl_r, kl_z, kl_l, kl_d, catS_0, catS_c, cat_i, cat_l, cat_d, cat_r, cat_n, kC_r, kC_x, Option.bind_some, Option.toList_some, Option.toList_none, List.cons_append, List.nil_append, gB0, gB1, gB2, gB3, gB4, rvB, nI_iI, i0, i1, l0_, wr_s, aup_s, and_true, true_and, and_self, eq_self, if_true, if_false, Nat.zero_le, Nat.reduceAdd, Nat.reduceLeDiff, gN_I, gN_L, gN_P, bI_0, bI_ok, z0, z1, Bool.true_eq, Bool.false_eq_true, not_true_eq_false, not_false_eq_true]
    exact hV _
  | succ m ih =>
    intro j hj
    have c1 : ¬ (4 : Int) ≤ (j : Int) := by omega
    have e1 : (j : Int) + 1 = ((j + 1 : Nat) : Int) := by omega
    have hb := vFact_lt (hC i) j
    have h9 := ih (j + 1) (by omega)
    have e2 : adG (W.2.2.2.1.2.1 i) (j + 1) s = adL (adG (W.2.2.2.1.2.1 i) j s) (vFact (W.2.2.2.1.2.1 i) j) := rfl
    have ef := s_evFact (d := d + 1) (h := dkW h x W) (r := (n, w, g)) (hC i) (show j ≤ 3 by omega)
    rw [e2] at h9
    rw [r84_30]
    simp (disch := omega) only [r84_32, r84_33, r84_36, r84_37, r84_38, r84_41, r84_43, r84_46, r84_48, r84_51, r84_54, r84_55, r84_58, iI_le, c1, dk_0, dk_r, s_evAt, ef, s_add, iI_add, e1, h9, kl_n, kl_i, kl_r, kl_z, kl_l, kl_d, catS_0, catS_c, cat_i, cat_l, cat_d, cat_r, cat_n, kC_r, kC_x, Option.bind_some, Option.toList_some, Option.toList_none, List.cons_append, List.nil_append, gB0, gB1, gB2, gB3, gB4, rvB, nI_iI, i0, i1, l0_, wr_s, aup_s, and_true, true_and, and_self, eq_self, if_true, if_false, Nat.zero_le, Nat.reduceAdd, Nat.reduceLeDiff, gN_I, gN_L, gN_P, bI_0, bI_ok, z0, z1, Bool.true_eq, Bool.false_eq_true, not_true_eq_false, not_false_eq_true]
theorem ae_out {X : Option Value} {s : Int64} (hC : ∀ i, vOk (W.2.2.2.1.2.1 i)) (hN : W.2.2.2.1.1 ≤ 960) : ∀ m i : Nat, i + m = W.2.2.2.1.1 → ∀ l6 : Option Value, L (d + 3) 84 15 [some (.ref x), X, none, some (.long (adM W.2.2.2.1.2.1 i s)), none, some (.int (iI i)), l6] [] (dkW h x W, n, w, g) =
    some (.inl (some (.long (adZ (adZ (adM W.2.2.2.1.2.1 W.2.2.2.1.1 s) (iI (gtI W.2.2.2.1.2.1 W.2.2.2.1.1))) (iI (ltN W.2.2.2.1.2.1 W.2.2.2.1.1))))), (dkW h x W, n, w, g)) := by
  intro m
  induction m with
  | zero =>
    intro i hi l6
    obtain rfl : i = W.2.2.2.1.1 := by omega
    have c1 : (W.2.2.2.1.1 : Int) ≤ W.2.2.2.1.1 := by omega
    rw [r84_15]
    simp (disch := omega) only [r84_0, r84_1, r84_2, r84_5, r84_8, r84_11, r84_12, r84_13, r84_17, r84_18, r84_21, r84_24, r84_27, r84_28, r84_32, r84_33, r84_36, r84_37, r84_38, r84_41, r84_43, r84_46, r84_48, r84_51, r84_54, r84_55, r84_58, r84_61, r84_64, r84_67, r84_68, r84_69, r84_72, r84_75, r84_78, r84_79, r84_82, r84_85, r84_88, dk_0, dk_r, s_rsize, iI_le, c1, s_greatest hN hC, s_lastTick hN hC, s_addZ, kl_n, kl_i, kl_r, kl_z, kl_l, kl_d, catS_0, catS_c, cat_i, cat_l, cat_d, cat_r, cat_n, kC_r, kC_x, Option.bind_some, Option.toList_some, Option.toList_none, List.cons_append, List.nil_append, gB0, gB1, gB2, gB3, gB4, rvB, nI_iI, i0, i1, l0_, wr_s, aup_s, and_true, true_and, and_self, eq_self, if_true, if_false, Nat.zero_le, Nat.reduceAdd, Nat.reduceLeDiff, gN_I, gN_L, gN_P, bI_0, bI_ok, z0, z1, Bool.true_eq, Bool.false_eq_true, not_true_eq_false, not_false_eq_true]
  | succ m ih =>
    intro i hi l6
    have c1 : ¬ (W.2.2.2.1.1 : Int) ≤ i := by omega
    have e1 : (i : Int) + 1 = ((i + 1 : Nat) : Int) := by omega
    have h9 := fun l6 => ih (i + 1) (by omega) l6
    have hin := ae_in (d := d) (n := n) (w := w) (g := g) (h := h) (x := x) (W := W) (X := X) (s := adM W.2.2.2.1.2.1 i s) hC (show i < 960 by omega) _ (fun l6 => by
      simp (disch := omega) only [r84_61, r84_64, iI_add, e1, kl_n, kl_i, kl_r, kl_z, kl_l, kl_d, catS_0, catS_c, cat_i, cat_l, cat_d, cat_r, cat_n, kC_r, kC_x, Option.bind_some, Option.toList_some, Option.toList_none, List.cons_append, List.nil_append, gB0, gB1, gB2, gB3, gB4, rvB, nI_iI, i0, i1, l0_, wr_s, aup_s, and_true, true_and, and_self, eq_self, if_true, if_false, Nat.zero_le, Nat.reduceAdd, Nat.reduceLeDiff, gN_I, gN_L, gN_P, bI_0, bI_ok, z0, z1, Bool.true_eq, Bool.false_eq_true, not_true_eq_false, not_false_eq_true]
      exact h9 l6) 4 0 (by omega)
    rw [show ((0 : Nat) : Int) = 0 from rfl, show adG (W.2.2.2.1.2.1 i) 0 (adM W.2.2.2.1.2.1 i s) = adM W.2.2.2.1.2.1 i s from rfl] at hin
    rw [r84_15]
    simp (disch := omega) only [r84_17, r84_18, r84_21, r84_24, r84_27, r84_28, dk_0, dk_r, s_rsize, iI_le, c1, hin, kl_n, kl_i, kl_r, kl_z, kl_l, kl_d, catS_0, catS_c, cat_i, cat_l, cat_d, cat_r, cat_n, kC_r, kC_x, Option.bind_some, Option.toList_some, Option.toList_none, List.cons_append, List.nil_append, gB0, gB1, gB2, gB3, gB4, rvB, nI_iI, i0, i1, l0_, wr_s, aup_s, and_true, true_and, and_self, eq_self, if_true, if_false, Nat.zero_le, Nat.reduceAdd, Nat.reduceLeDiff, gN_I, gN_L, gN_P, bI_0, bI_ok, z0, z1, Bool.true_eq, Bool.false_eq_true, not_true_eq_false, not_false_eq_true]
theorem s_addEvents {s : Int64} (hC : ∀ i, vOk (W.2.2.2.1.2.1 i)) (hN : W.2.2.2.1.1 ≤ 960) : aE (d + 4) 84 [.ref x, .long s] (dkW h x W, n, w, g) = some (.inl (some (.long (adE W.2.2.2.1.2.1 W.2.2.2.1.1 s))), (dkW h x W, n, w, g)) := by
  have hl := ae_out (d := d) (n := n) (w := w) (g := g) (h := h) (x := x) (W := W) (X := some (.long s)) (s := adZ s (iI W.2.2.2.1.1)) hC hN W.2.2.2.1.1 0 (by omega) none
  rw [show ((0 : Nat) : Int) = 0 from rfl, show adM W.2.2.2.1.2.1 0 (adZ s (iI W.2.2.2.1.1)) = adZ s (iI W.2.2.2.1.1) from rfl] at hl
  simp (disch := omega) only [e84, r84_0, r84_1, r84_2, r84_5, r84_8, r84_11, r84_12, r84_13, dk_0, dk_r, s_rsize, s_addZ, hl, kl_n, kl_i, kl_r, kl_z, kl_l, kl_d, catS_0, catS_c, cat_i, cat_l, cat_d, cat_r, cat_n, kC_r, kC_x, Option.bind_some, Option.toList_some, Option.toList_none, List.cons_append, List.nil_append, gB0, gB1, gB2, gB3, gB4, rvB, nI_iI, i0, i1, l0_, wr_s, aup_s, and_true, true_and, and_self, eq_self, if_true, if_false, Nat.zero_le, Nat.reduceAdd, Nat.reduceLeDiff, gN_I, gN_L, gN_P, bI_0, bI_ok, z0, z1, Bool.true_eq, Bool.false_eq_true, not_true_eq_false, not_false_eq_true]
  rfl
theorem dg_loop {s : Int64} (hO : dkOk W) :
    ∀ (m t : Nat) (V' : Rn), t + m = 6 → rn2 (W.1, W.2.1, W.2.2.1, V', W.2.2.2.2) → V'.1 ≤ 960 → ∃ V2 : Rn, rn2 (W.1, W.2.1, W.2.2.1, V2, W.2.2.2.2) ∧ V2.1 ≤ 960 ∧
    L (d + 11) 85 160 [some (.ref x), some (.long (adT W.1 t s)), none, some (.int (iI t))] [] (dkW h x (W.1, W.2.1, W.2.2.1, V', W.2.2.2.2), n, w, g) = L (d + 11) 85 196 [some (.ref x), some (.long (adT W.1 6 s)), none, some (.int (iI 6))] [] (dkW h x (W.1, W.2.1, W.2.2.1, V2, W.2.2.2.2), n, w, g) := by
  intro m
  induction m with
  | zero =>
    intro t V' ht hR hN
    obtain rfl : t = 6 := by omega
    have c1 : (6 : Int) ≤ ((6 : Nat) : Int) := by omega
    refine ⟨V', hR, hN, ?_⟩
    rw [r85_160]
    simp (disch := omega) only [r85_161, r85_163, r85_166, r85_167, r85_170, r85_171, r85_174, r85_175, r85_178, r85_179, r85_180, r85_183, r85_186, r85_189, r85_190, r85_193, iI_le, c1, kl_n, kl_i, kl_r, kl_z, kl_l, kl_d, catS_0, catS_c, cat_i, cat_l, cat_d, cat_r, cat_n, kC_r, kC_x, Option.bind_some, Option.toList_some, Option.toList_none, List.cons_append, List.nil_append, gB0, gB1, gB2, gB3, gB4, rvB, nI_iI, i0, i1, l0_, wr_s, aup_s, and_true, true_and, and_self, eq_self, if_true, if_false, Nat.zero_le, Nat.reduceAdd, Nat.reduceLeDiff, gN_I, gN_L, gN_P, bI_0, bI_ok, z0, z1, Bool.true_eq, Bool.false_eq_true, not_true_eq_false, not_false_eq_true]
    rfl
  | succ m ih =>
    intro t V' ht hR hN
    have c1 : ¬ (6 : Int) ≤ (t : Int) := by omega
    have e1 : (t : Int) + 1 = ((t + 1 : Nat) : Int) := by omega
    have hk := ptE_ok (W := (W.1, W.2.1, W.2.2.1, V', W.2.2.2.2)) (t := t) hO.1 hR.1
    obtain ⟨V2, z1, z2, z3⟩ := ih (t + 1) ((ptE (W.1, W.2.1, W.2.2.1, V', W.2.2.2.2) t).1, (ptE (W.1, W.2.1, W.2.2.1, V', W.2.2.2.2) t).2, V'.2.2) (by omega) ⟨hk.2, hR.2⟩ hk.1
    refine ⟨V2, z1, z2, ?_⟩
    have pt := s_playTrack (d := d + 5) (h := h) (r := (n, w, g)) (x := x) (W := (W.1, W.2.1, W.2.2.1, V', W.2.2.2.2)) (t := t) hO.1 hR.1 (by omega)
    have sz := s_rsize (d := d + 10) (h := h) (r := (n, w, g)) (x := x) (W := ptW (W.1, W.2.1, W.2.2.1, V', W.2.2.2.2) t)
    change aE (d + 11) 152 _ _ = some ((.inl (some (.int (iI (ptE (W.1, W.2.1, W.2.2.1, V', W.2.2.2.2) t).1))) : aO), _) at sz
    rw [ptE_1] at sz
    change L (d + 11) 85 160 _ [] (dkW h x (ptW (W.1, W.2.1, W.2.2.1, V', W.2.2.2.2) t), n, w, g) = _ at z3
    rw [r85_160]
    simp (disch := omega) only [r85_161, r85_163, r85_166, r85_167, r85_170, r85_171, r85_174, r85_175, r85_178, r85_179, r85_180, r85_183, r85_186, r85_189, r85_190, r85_193, iI_le, c1, dk_0, dk_r, pt, sz, s_addZ, iI_add, e1, kl_n, kl_i, kl_r, kl_z, kl_l, kl_d, catS_0, catS_c, cat_i, cat_l, cat_d, cat_r, cat_n, kC_r, kC_x, Option.bind_some, Option.toList_some, Option.toList_none, List.cons_append, List.nil_append, gB0, gB1, gB2, gB3, gB4, rvB, nI_iI, i0, i1, l0_, wr_s, aup_s, and_true, true_and, and_self, eq_self, if_true, if_false, Nat.zero_le, Nat.reduceAdd, Nat.reduceLeDiff, gN_I, gN_L, gN_P, bI_0, bI_ok, z0, z1, Bool.true_eq, Bool.false_eq_true, not_true_eq_false, not_false_eq_true]
    exact z3
/-- the checksum before the events -/
def dgA (W : Dk) : Int64 :=
  adZ (adZ (adZ (adZ (adZ (adZ (adZ (adZ (adN W.1.1.2 W.1.1.1 (adL (lI 2671) W.1.1.1)) (iI W.2.1.2.1)) (iI W.2.1.2.2.1))
    (iI (sm (tmT W.1.2.2.1.2.1 W.1.2.2.1.2.2.1 W.1.2.2.1.1 9599) W.1.2.2.1.1)))
    (iI (tkA (fun t => sm (tmT W.1.2.2.1.2.1 W.1.2.2.1.2.2.1 W.1.2.2.1.1 t) W.1.2.2.1.1) 1000000 17 0)))
    (iI (bAt W.1.2.2.2.1.1 W.1.2.2.2.1.2.1 W.1.2.2.2.1.2.2.1 W.1.2.2.2.1.2.2.2 9599)))
    (iI (btAt W.1.2.2.2.1.1 W.1.2.2.2.1.2.1 W.1.2.2.2.1.2.2.1 W.1.2.2.2.1.2.2.2 1000)))
    (iI (bSt W.1.2.2.2.1.1 W.1.2.2.2.1.2.1 W.1.2.2.2.1.2.2.1 W.1.2.2.2.1.2.2.2 7)))
    (iI (sm (cl2 W.1.1.2 W.1.1.1) W.1.1.1))
theorem s_digest {f : Nat → Int32} (hO : dkOk W) (hR : rn2 W) (hT : tmOk W.1.2.2.1) (hq : ∀ W' : Dk, dkW h x W' g.1 = some (aI .float 8 f)) (hf : ∀ j, j < 8 → f j = st_f j) : ∃ (C S : Nat → Nat) (V2 : Rn), sor C 0 (plE W).1 ∧ (∀ v, cn C v (plE W).1 = cn (plE W).2 v (plE W).1) ∧ (∀ i, vOk (C i)) ∧ (∀ i, vOk (S i)) ∧ rn2 (W.1, W.2.1, W.2.2.1, V2, W.2.2.2.2) ∧ V2.1 ≤ 960 ∧
    aE (d + 12) 85 [.ref x] (dkW h x W, n, w, g) = some (.inl (some (.long (adZ (adT W.1 6 (adE C (plE W).1 (dgA W))) (iI (fsR (ofN (-1) 0 9600 W.1.1.2 W.1.1.1) 8).1)))), (dkW h x (W.1, W.2.1, W.2.2.1, V2, W.2.2.2.2), n, w, g)) := by
  obtain ⟨C, S, z1, z2, z3, z4, z5⟩ := s_sorted (d := d + 5) (h := h) (x := x) (n := n) (w := w) (g := g) hO hR
  have hb := (plE_ok hO.1 hR.1).1
  obtain ⟨V2, y1, y2, y3⟩ := dg_loop (d := d) (n := n) (w := w) (g := g) (h := h) (x := x) (W := W) (s := adE C (plE W).1 (dgA W)) hO 6 0 ((plE W).1, C, S) (by omega) ⟨z3, z4⟩ hb
  refine ⟨C, S, V2, z1, z2, z3, z4, y1, y2, ?_⟩
  have t1 := s_timeAt (d := d + 8) (r := (n, w, g)) (dk_spI (h := h) (x := x) (W := W)) dk_8 hO.1.2.2.2.2.2.1 (t := 9599) (by omega)
  have t2 := s_tickAt (d := d + 7) (r := (n, w, g)) (dk_spI (h := h) (x := x) (W := W)) dk_8 hO.1.2.2.2.2.2.1 (v := 1000000) (by omega) hT
  have t3 := s_barAt (d := d + 5) (r := (n, w, g)) (dk_mtI (h := h) (x := x) (W := W)) dk_13 hO.1.2.2.2.2.2.2.1 hO.1.2.2.2.2.2.2.2.1 (t := 9599) (by omega)
  have t4 := s_beatAt (d := d + 5) (r := (n, w, g)) (dk_mtI (h := h) (x := x) (W := W)) dk_13 hO.1.2.2.2.2.2.2.1 hO.1.2.2.2.2.2.2.2.1 (t := 1000) (by omega)
  have t5 := s_startOfBar (d := d + 5) (r := (n, w, g)) (dk_mtI (h := h) (x := x) (W := W)) dk_13 hO.1.2.2.2.2.2.2.1 hO.1.2.2.2.2.2.2.2.1 (v := 7) (by omega)
  have ev : aE (d + 11) 84 [.ref x, .long (dgA W)] (dkW h x (srW W (plE W).1 C S), n, w, g) = some (.inl (some (.long (adE C (plE W).1 (dgA W)))), (dkW h x (srW W (plE W).1 C S), n, w, g)) := s_addEvents (d := d + 7) (W := srW W (plE W).1 C S) z3 hb
  have ft := s_fitting (d := d + 3) (n := n) (w := w) (g := g) (h := h) (x := x) (W := (W.1, W.2.1, W.2.2.1, V2, W.2.2.2.2)) (t := -1) (v := 0) (u := 9600) ⟨hO.1, hO.2.1, hO.2.2.1, hO.2.2.2.1, y2⟩ (by unfold rgOk; omega) (hq _) hf
  rw [show ((9599 : Nat) : Int) = 9599 from rfl] at t1 t3
  rw [show ((1000000 : Nat) : Int) = 1000000 from rfl] at t2
  rw [show ((1000 : Nat) : Int) = 1000 from rfl] at t4
  rw [show ((7 : Nat) : Int) = 7 from rfl] at t5
  rw [show ((0 : Nat) : Int) = 0 from rfl, show adT W.1 0 (adE C (plE W).1 (dgA W)) = adE C (plE W).1 (dgA W) from rfl] at y3
  change L (d + 11) 85 160 _ [] (dkW h x (srW W (plE W).1 C S), n, w, g) = _ at y3
  unfold dgA at ev y3 ⊢
  simp (disch := omega) only [e85, r85_0, r85_1, r85_4, r85_7, r85_8, r85_9, r85_10, r85_13, r85_16, r85_19, r85_20, r85_23, r85_26, r85_29, r85_30, r85_31, r85_32, r85_35, r85_38, r85_41, r85_44, r85_47, r85_48, r85_49, r85_50, r85_53, r85_56, r85_59, r85_62, r85_65, r85_66, r85_67, r85_68, r85_71, r85_74, r85_77, r85_80, r85_83, r85_84, r85_85, r85_86, r85_89, r85_92, r85_95, r85_98, r85_101, r85_102, r85_103, r85_104, r85_107, r85_110, r85_112, r85_115, r85_118, r85_119, r85_120, r85_121, r85_124, r85_127, r85_130, r85_133, r85_134, r85_135, r85_138, r85_139, r85_142, r85_145, r85_146, r85_149, r85_152, r85_153, r85_154, r85_157, r85_158, r85_159, dk_0, dk_1, dk_2, dk_8, dk_13, dk_hist, dk_r, s_addNotes hO, s_addZ, t1, t2, t3, t4, t5, k_clashes hO.1.1 hO.1.2.1, s_play hO.1 hR.1, z5, ev, y3, kl_n, kl_i, kl_r, kl_z, kl_l, kl_d, catS_0, catS_c, cat_i, cat_l, cat_d, cat_r, cat_n, kC_r, kC_x, Option.bind_some, Option.toList_some, Option.toList_none, List.cons_append, List.nil_append, gB0, gB1, gB2, gB3, gB4, rvB, nI_iI, i0, i1, l0_, wr_s, aup_s, and_true, true_and, and_self, eq_self, if_true, if_false, Nat.zero_le, Nat.reduceAdd, Nat.reduceLeDiff, gN_I, gN_L, gN_P, bI_0, bI_ok, z0, z1, Bool.true_eq, Bool.false_eq_true, not_true_eq_false, not_false_eq_true]
  simp (disch := omega) only [r85_196, r85_197, r85_198, r85_199, r85_200, r85_203, r85_206, r85_209, dk_0, ft, s_addZ, kl_n, kl_i, kl_r, kl_z, kl_l, kl_d, catS_0, catS_c, cat_i, cat_l, cat_d, cat_r, cat_n, kC_r, kC_x, Option.bind_some, Option.toList_some, Option.toList_none, List.cons_append, List.nil_append, gB0, gB1, gB2, gB3, gB4, rvB, nI_iI, i0, i1, l0_, wr_s, aup_s, and_true, true_and, and_self, eq_self, if_true, if_false, Nat.zero_le, Nat.reduceAdd, Nat.reduceLeDiff, gN_I, gN_L, gN_P, bI_0, bI_ok, z0, z1, Bool.true_eq, Bool.false_eq_true, not_true_eq_false, not_false_eq_true]
end
