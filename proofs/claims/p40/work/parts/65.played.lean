/-! ===== what is played is right ===== -/
/-- it comes to true, the desk as it was but for the events -/
def endP (x : Nat) (g : Nat × Nat) (W : Dk) (h : aHf) (n w : Nat) (X : aR) : Prop := ∃ V, rnG V ∧ X = some (.inl (some (.int (iI 1))), (dkW h x (pW W V), n, w, g))
theorem cmp_eq {X : Option Ordering} {o : Jvm.ClassFile.CmpOp} (h : X = some .eq) : Op.cmpValue X o = iI 0 := by
  subst h
  rfl
theorem cmp_ne {X : Option Ordering} (h : X ≠ some .eq) : ¬ Op.cmpValue X .l = iI 0 := by
  match X, h with
  | none, _ => decide
  | some .lt, _ => decide
  | some .gt, _ => decide
  | some .eq, h => exact absurd rfl h
section
variable {d n w : Nat} {g : Nat × Nat} {h : aHf} {x : Nat} {W : Dk} {C : Nat → Nat}
theorem ev_k {V : Rn} {j k : Nat} {z y : Int} {f : Option Value → aH → aR} {e : String → aH → aR} (hI : Inv W) (hC : evS W.1 C) (hV : rnG V) (hj : j < (plC W.1).1) (hk : k ≤ 3) (hz : z = j) (hy : y = k)
    (hf : ∀ V', rnG V' → endP x g W h n w (f (some (.int (iI (vFact (C j) k)))) (dkW h x (pW W V'), n, w, g))) : endP x g W h n w (kC (aE (d + 12) 72 [.ref x, .int (iI z), .int (iI y)] (dkW h x (pW W V), n, w, g)) f e) := by
  subst hz
  subst hy
  obtain ⟨V', h1, h2⟩ := q_event (d := d) (n := n) (w := w) (g := g) (h := h) (x := x) (W := pW W V) (Inv_V hI hV) hC hj hk
  rw [h2]
  exact hf V' h1
theorem sd_k {V : Rn} {t : Nat} {f : Option Value → aH → aR} {e : String → aH → aR} (hI : Inv W) (hV : rnG V) (ht : t ≤ 99999) {v : Int} (hv : ctI (plE (pW W V)).2 t (plE (pW W V)).1 = v)
    (hf : ∀ V', rnG V' → endP x g W h n w (f (some (.int (iI v))) (dkW h x (pW W V'), n, w, g))) : endP x g W h n w (kC (aE (d + 12) 73 [.ref x, .int (iI t)] (dkW h x (pW W V), n, w, g)) f e) := by
  obtain ⟨V', h1, h2⟩ := q_sounding (d := d) (n := n) (w := w) (g := g) (h := h) (x := x) (W := pW W V) (Inv_V hI hV) ht
  rw [h2, hv]
  exact hf V' h1
theorem so_V (hI : Inv W) (hC : evS W.1 C) {i : Nat} (hi : i < (plC W.1).1) : evV (C i) := by
  obtain ⟨j, j1, j2⟩ := cn_mem hC.2.1 hi
  rw [← j2]
  exact (plC_pr hI.1).2.1 j j1
/-- each event once more -/
theorem pl_188 (hN : (plC W.1).1 ≤ 960) {k : Nat} {y m : Int} {l5 : Option Value} {V : Rn} (hk : k < (plC W.1).1) (hV : rnG V) (K : ∀ l5 V, rnG V → endP x g W h n w (L (d + 12) 6 12 [some (.ref x), some (.int (iI (plC W.1).1)), some (.int (iI y)), some (.int (iI m)), some (.int (iI ((k + 1 : Nat) : Int))), l5] [] (dkW h x (pW W V), n, w, g))) :
    endP x g W h n w (L (d + 12) 6 188 [some (.ref x), some (.int (iI (plC W.1).1)), some (.int (iI y)), some (.int (iI m)), some (.int (iI k)), l5] [] (dkW h x (pW W V), n, w, g)) := by
  have z := K l5 V hV
  rw [show ((k + 1 : Nat) : Int) = (k : Int) + 1 from rfl] at z
  rw [r6_188, r6_191, iI_add]
  exact z
theorem pl_144 (hI : Inv W) (hC : evS W.1 C) {k : Nat} {l5 : Option Value} {V : Rn} (hk : k < (plC W.1).1) (hV : rnG V) (K : ∀ l5 V, rnG V → endP x g W h n w (L (d + 12) 6 188 [some (.ref x), some (.int (iI (plC W.1).1)), some (.int (iI (snI C (k + 1)))), some (.int (iI (gtI C (k + 1)))), some (.int (iI k)), l5] [] (dkW h x (pW W V), n, w, g))) :
    endP x g W h n w (L (d + 12) 6 144 [some (.ref x), some (.int (iI (plC W.1).1)), some (.int (iI (snI C (k + 1)))), some (.int (iI (gtI C (k + 1)))), some (.int (iI k)), l5] [] (dkW h x (pW W V), n, w, g)) := by
  have hN := (plC_pr hI.1).1
  by_cases q : ((plC W.1).1 : Int) ≤ (k : Int) + 1
  · simp (disch := omega) only [r6_144, r6_146, r6_147, r6_148, r6_149, iI_add, iI_le, q, kl_n, kl_i, kl_r, kl_z, kl_l, kl_d, catS_0, catS_c, cat_i, cat_l, cat_d, cat_r, cat_n, kC_r, kC_x, Option.bind_some, Option.toList_some, Option.toList_none, List.cons_append, List.nil_append, gB0, gB1, gB2, gB3, gB4, rvB, nI_iI, i0, i1, l0_, wr_s, aup_s, and_true, true_and, and_self, eq_self, if_true, if_false, Nat.zero_le, Nat.reduceAdd, Nat.reduceLeDiff, gN_I, gN_L, gN_P, bI_0, bI_ok, z0, z1, Bool.true_eq, Bool.false_eq_true, not_true_eq_false, not_false_eq_true]
    exact K l5 V hV
  · have hk1 : k + 1 < (plC W.1).1 := by omega
    simp (disch := omega) only [r6_144, r6_146, r6_147, r6_148, r6_149, r6_152, r6_153, r6_155, r6_156, r6_157, r6_158, iI_add, iI_le, q, dk_0, kl_n, kl_i, kl_r, kl_z, kl_l, kl_d, catS_0, catS_c, cat_i, cat_l, cat_d, cat_r, cat_n, kC_r, kC_x, Option.bind_some, Option.toList_some, Option.toList_none, List.cons_append, List.nil_append, gB0, gB1, gB2, gB3, gB4, rvB, nI_iI, i0, i1, l0_, wr_s, aup_s, and_true, true_and, and_self, eq_self, if_true, if_false, Nat.zero_le, Nat.reduceAdd, Nat.reduceLeDiff, gN_I, gN_L, gN_P, bI_0, bI_ok, z0, z1, Bool.true_eq, Bool.false_eq_true, not_true_eq_false, not_false_eq_true]
    refine ev_k (j := k + 1) (k := 0) hI hC hV hk1 (by omega) rfl rfl (fun V1 hV1 => ?_)
    simp (disch := omega) only [r6_161, r6_162, r6_164, r6_165, dk_0, kl_n, kl_i, kl_r, kl_z, kl_l, kl_d, catS_0, catS_c, cat_i, cat_l, cat_d, cat_r, cat_n, kC_r, kC_x, Option.bind_some, Option.toList_some, Option.toList_none, List.cons_append, List.nil_append, gB0, gB1, gB2, gB3, gB4, rvB, nI_iI, i0, i1, l0_, wr_s, aup_s, and_true, true_and, and_self, eq_self, if_true, if_false, Nat.zero_le, Nat.reduceAdd, Nat.reduceLeDiff, gN_I, gN_L, gN_P, bI_0, bI_ok, z0, z1, Bool.true_eq, Bool.false_eq_true, not_true_eq_false, not_false_eq_true]
    refine ev_k (j := k) (k := 0) hI hC hV1 hk (by omega) rfl rfl (fun V2 hV2 => ?_)
    have t1 : vFact (C (k + 1)) 0 = C (k + 1) / 262144 := rfl
    have t0 : vFact (C k) 0 = C k / 262144 := rfl
    have b1 := (so_V hI hC hk1).1
    have b0 := (so_V hI hC hk).1
    rw [t1, t0]
    by_cases q2 : ((C (k + 1) / 262144 : Nat) : Int) ≤ ((C k / 262144 : Nat) : Int)
    · simp (disch := omega) only [r6_168, iI_le, q2, kl_n, kl_i, kl_r, kl_z, kl_l, kl_d, catS_0, catS_c, cat_i, cat_l, cat_d, cat_r, cat_n, kC_r, kC_x, Option.bind_some, Option.toList_some, Option.toList_none, List.cons_append, List.nil_append, gB0, gB1, gB2, gB3, gB4, rvB, nI_iI, i0, i1, l0_, wr_s, aup_s, and_true, true_and, and_self, eq_self, if_true, if_false, Nat.zero_le, Nat.reduceAdd, Nat.reduceLeDiff, gN_I, gN_L, gN_P, bI_0, bI_ok, z0, z1, Bool.true_eq, Bool.false_eq_true, not_true_eq_false, not_false_eq_true]
      exact K l5 V2 hV2
    · simp (disch := omega) only [r6_168, r6_171, r6_172, r6_173, r6_175, r6_176, iI_le, q2, dk_0, kl_n, kl_i, kl_r, kl_z, kl_l, kl_d, catS_0, catS_c, cat_i, cat_l, cat_d, cat_r, cat_n, kC_r, kC_x, Option.bind_some, Option.toList_some, Option.toList_none, List.cons_append, List.nil_append, gB0, gB1, gB2, gB3, gB4, rvB, nI_iI, i0, i1, l0_, wr_s, aup_s, and_true, true_and, and_self, eq_self, if_true, if_false, Nat.zero_le, Nat.reduceAdd, Nat.reduceLeDiff, gN_I, gN_L, gN_P, bI_0, bI_ok, z0, z1, Bool.true_eq, Bool.false_eq_true, not_true_eq_false, not_false_eq_true]
      refine ev_k (j := k) (k := 0) hI hC hV2 hk (by omega) rfl rfl (fun V3 hV3 => ?_)
      rw [t0]
      simp (disch := omega) only [r6_179, dk_0, kl_n, kl_i, kl_r, kl_z, kl_l, kl_d, catS_0, catS_c, cat_i, cat_l, cat_d, cat_r, cat_n, kC_r, kC_x, Option.bind_some, Option.toList_some, Option.toList_none, List.cons_append, List.nil_append, gB0, gB1, gB2, gB3, gB4, rvB, nI_iI, i0, i1, l0_, wr_s, aup_s, and_true, true_and, and_self, eq_self, if_true, if_false, Nat.zero_le, Nat.reduceAdd, Nat.reduceLeDiff, gN_I, gN_L, gN_P, bI_0, bI_ok, z0, z1, Bool.true_eq, Bool.false_eq_true, not_true_eq_false, not_false_eq_true]
      refine sd_k (t := C k / 262144) hI hV3 (by omega) (ct_ok (W := pW W V3) hI.1 hC rfl hk1 (by omega)) (fun V4 hV4 => ?_)
      simp (disch := omega) only [r6_182, r6_183, kl_n, kl_i, kl_r, kl_z, kl_l, kl_d, catS_0, catS_c, cat_i, cat_l, cat_d, cat_r, cat_n, kC_r, kC_x, Option.bind_some, Option.toList_some, Option.toList_none, List.cons_append, List.nil_append, gB0, gB1, gB2, gB3, gB4, rvB, nI_iI, i0, i1, l0_, wr_s, aup_s, and_true, true_and, and_self, eq_self, if_true, if_false, Nat.zero_le, Nat.reduceAdd, Nat.reduceLeDiff, gN_I, gN_L, gN_P, bI_0, bI_ok, z0, z1, Bool.true_eq, Bool.false_eq_true, not_true_eq_false, not_false_eq_true]
      exact K l5 V4 hV4
theorem pl_97 (hI : Inv W) (hC : evS W.1 C) {k b : Nat} {V : Rn} (hk : k < (plC W.1).1) (hb : b = if eON (C k) = true then 1 else 0) (hV : rnG V) (K : ∀ l5 V, rnG V → endP x g W h n w (L (d + 12) 6 144 [some (.ref x), some (.int (iI (plC W.1).1)), some (.int (iI (snI C (k + 1)))), some (.int (iI (gtI C (k + 1)))), some (.int (iI k)), l5] [] (dkW h x (pW W V), n, w, g))) :
    endP x g W h n w (L (d + 12) 6 97 [some (.ref x), some (.int (iI (plC W.1).1)), some (.int (iI (snI C k))), some (.int (iI (gtI C k))), some (.int (iI k)), some (.int (iI b))] [] (dkW h x (pW W V), n, w, g)) := by
  have hN := (plC_pr hI.1).1
  have s0 := snI_b C k
  have s1 := snI_b C (k + 1)
  have g0 := gtI_b C k
  have g1 := gtI_b C (k + 1)
  have sp : 0 ≤ snI C (k + 1) := sn_pos hI.1 hC (by omega)
  have se : snI C (k + 1) = snI C k + onI (C k) := rfl
  have ge : max (gtI C k) (snI C (k + 1)) = gtI C (k + 1) := rfl
  have mx := s_max (d := d + 11) (h := dkW h x (pW W V)) (r := (n, w, g)) (a := gtI C k) (b := snI C (k + 1)) (by omega) (by omega) (by omega) (by omega)
  rw [ge] at mx
  have q1 : ¬ snI C (k + 1) < 0 := by omega
  have p2 : vFact (C k) 2 = C k / 128 % 128 := rfl
  have key : ∀ l5 V, rnG V → endP x g W h n w (L (d + 12) 6 120 [some (.ref x), some (.int (iI (plC W.1).1)), some (.int (iI (snI C (k + 1)))), some (.int (iI (gtI C (k + 1)))), some (.int (iI k)), l5] [] (dkW h x (pW W V), n, w, g)) := fun l5 V hV => by
    simp (disch := omega) only [r6_120, r6_121, r6_123, r6_124, dk_0, kl_n, kl_i, kl_r, kl_z, kl_l, kl_d, catS_0, catS_c, cat_i, cat_l, cat_d, cat_r, cat_n, kC_r, kC_x, Option.bind_some, Option.toList_some, Option.toList_none, List.cons_append, List.nil_append, gB0, gB1, gB2, gB3, gB4, rvB, nI_iI, i0, i1, l0_, wr_s, aup_s, and_true, true_and, and_self, eq_self, if_true, if_false, Nat.zero_le, Nat.reduceAdd, Nat.reduceLeDiff, gN_I, gN_L, gN_P, bI_0, bI_ok, z0, z1, Bool.true_eq, Bool.false_eq_true, not_true_eq_false, not_false_eq_true]
    refine ev_k (j := k) (k := 2) hI hC hV hk (by omega) rfl rfl (fun V1 hV1 => ?_)
    rw [p2]
    have c1 : ¬ ((C k / 128 % 128 : Nat) : Int) < 0 := by omega
    have c2 : ((C k / 128 % 128 : Nat) : Int) ≤ 127 := by omega
    have b2 : C k / 128 % 128 < 128 := Nat.mod_lt _ (by omega)
    simp (disch := omega) only [r6_127, r6_130, r6_131, r6_133, r6_134, dk_0, iI_lt, c1, kl_n, kl_i, kl_r, kl_z, kl_l, kl_d, catS_0, catS_c, cat_i, cat_l, cat_d, cat_r, cat_n, kC_r, kC_x, Option.bind_some, Option.toList_some, Option.toList_none, List.cons_append, List.nil_append, gB0, gB1, gB2, gB3, gB4, rvB, nI_iI, i0, i1, l0_, wr_s, aup_s, and_true, true_and, and_self, eq_self, if_true, if_false, Nat.zero_le, Nat.reduceAdd, Nat.reduceLeDiff, gN_I, gN_L, gN_P, bI_0, bI_ok, z0, z1, Bool.true_eq, Bool.false_eq_true, not_true_eq_false, not_false_eq_true]
    refine ev_k (j := k) (k := 2) hI hC hV1 hk (by omega) rfl rfl (fun V2 hV2 => ?_)
    rw [p2]
    simp (disch := omega) only [r6_137, r6_139, iI_le, c2, kl_n, kl_i, kl_r, kl_z, kl_l, kl_d, catS_0, catS_c, cat_i, cat_l, cat_d, cat_r, cat_n, kC_r, kC_x, Option.bind_some, Option.toList_some, Option.toList_none, List.cons_append, List.nil_append, gB0, gB1, gB2, gB3, gB4, rvB, nI_iI, i0, i1, l0_, wr_s, aup_s, and_true, true_and, and_self, eq_self, if_true, if_false, Nat.zero_le, Nat.reduceAdd, Nat.reduceLeDiff, gN_I, gN_L, gN_P, bI_0, bI_ok, z0, z1, Bool.true_eq, Bool.false_eq_true, not_true_eq_false, not_false_eq_true]
    exact K l5 V2 hV2
  rw [onI_e] at se
  by_cases q : eON (C k) = true
  · rw [if_pos q] at se hb
    subst hb
    have c0 : ¬ ((1 : Nat) : Int) = 0 := by omega
    simp (disch := omega) only [r6_97, r6_98, r6_100, r6_103, r6_104, r6_107, r6_108, r6_109, r6_110, r6_111, r6_112, r6_115, r6_116, r6_117, iI_eq, iI_lt, iI_add, c0, ← se, mx, q1, kl_n, kl_i, kl_r, kl_z, kl_l, kl_d, catS_0, catS_c, cat_i, cat_l, cat_d, cat_r, cat_n, kC_r, kC_x, Option.bind_some, Option.toList_some, Option.toList_none, List.cons_append, List.nil_append, gB0, gB1, gB2, gB3, gB4, rvB, nI_iI, i0, i1, l0_, wr_s, aup_s, and_true, true_and, and_self, eq_self, if_true, if_false, Nat.zero_le, Nat.reduceAdd, Nat.reduceLeDiff, gN_I, gN_L, gN_P, bI_0, bI_ok, z0, z1, Bool.true_eq, Bool.false_eq_true, not_true_eq_false, not_false_eq_true]
    exact key _ V hV
  · rw [if_neg q] at se hb
    subst hb
    have c0 : ((0 : Nat) : Int) = 0 := rfl
    simp (disch := omega) only [r6_97, r6_98, r6_100, r6_103, r6_104, r6_107, r6_108, r6_109, r6_110, r6_111, r6_112, r6_115, r6_116, r6_117, iI_eq, iI_lt, iI_add, c0, ← se, mx, q1, kl_n, kl_i, kl_r, kl_z, kl_l, kl_d, catS_0, catS_c, cat_i, cat_l, cat_d, cat_r, cat_n, kC_r, kC_x, Option.bind_some, Option.toList_some, Option.toList_none, List.cons_append, List.nil_append, gB0, gB1, gB2, gB3, gB4, rvB, nI_iI, i0, i1, l0_, wr_s, aup_s, and_true, true_and, and_self, eq_self, if_true, if_false, Nat.zero_le, Nat.reduceAdd, Nat.reduceLeDiff, gN_I, gN_L, gN_P, bI_0, bI_ok, z0, z1, Bool.true_eq, Bool.false_eq_true, not_true_eq_false, not_false_eq_true]
    exact key _ V hV
theorem pl_35 (hI : Inv W) (hC : evS W.1 C) {k b : Nat} {y m : Int} {V : Rn} (hk : k < (plC W.1).1) (hb : b = if eON (C k) = true then 1 else 0) (hV : rnG V) (K : ∀ V, rnG V → endP x g W h n w (L (d + 12) 6 97 [some (.ref x), some (.int (iI (plC W.1).1)), some (.int (iI y)), some (.int (iI m)), some (.int (iI k)), some (.int (iI b))] [] (dkW h x (pW W V), n, w, g))) :
    endP x g W h n w (L (d + 12) 6 35 [some (.ref x), some (.int (iI (plC W.1).1)), some (.int (iI y)), some (.int (iI m)), some (.int (iI k)), some (.int (iI b))] [] (dkW h x (pW W V), n, w, g)) := by
  have hN := (plC_pr hI.1).1
  by_cases k0 : (k : Int) ≤ 0
  · simp (disch := omega) only [r6_35, r6_37, iI_le, k0, kl_n, kl_i, kl_r, kl_z, kl_l, kl_d, catS_0, catS_c, cat_i, cat_l, cat_d, cat_r, cat_n, kC_r, kC_x, Option.bind_some, Option.toList_some, Option.toList_none, List.cons_append, List.nil_append, gB0, gB1, gB2, gB3, gB4, rvB, nI_iI, i0, i1, l0_, wr_s, aup_s, and_true, true_and, and_self, eq_self, if_true, if_false, Nat.zero_le, Nat.reduceAdd, Nat.reduceLeDiff, gN_I, gN_L, gN_P, bI_0, bI_ok, z0, z1, Bool.true_eq, Bool.false_eq_true, not_true_eq_false, not_false_eq_true]
    exact K V hV
  · have hp : (k : Int) - 1 = ((k - 1 : Nat) : Int) := by omega
    have hk1 : k - 1 < (plC W.1).1 := by omega
    have t0 : vFact (C k) 0 = C k / 262144 := rfl
    have t1 : vFact (C (k - 1)) 0 = C (k - 1) / 262144 := rfl
    have b0 := (so_V hI hC hk).1
    have b1 := (so_V hI hC hk1).1
    have le := so_tk hC (show k - 1 ≤ k by omega) hk
    have lc := so_le hC (show k - 1 ≤ k by omega) hk
    have q1 : ¬ ((C k / 262144 : Nat) : Int) < ((C (k - 1) / 262144 : Nat) : Int) := by omega
    simp (disch := omega) only [r6_35, r6_37, r6_40, r6_41, r6_43, r6_44, iI_le, k0, dk_0, kl_n, kl_i, kl_r, kl_z, kl_l, kl_d, catS_0, catS_c, cat_i, cat_l, cat_d, cat_r, cat_n, kC_r, kC_x, Option.bind_some, Option.toList_some, Option.toList_none, List.cons_append, List.nil_append, gB0, gB1, gB2, gB3, gB4, rvB, nI_iI, i0, i1, l0_, wr_s, aup_s, and_true, true_and, and_self, eq_self, if_true, if_false, Nat.zero_le, Nat.reduceAdd, Nat.reduceLeDiff, gN_I, gN_L, gN_P, bI_0, bI_ok, z0, z1, Bool.true_eq, Bool.false_eq_true, not_true_eq_false, not_false_eq_true]
    refine ev_k (j := k) (k := 0) hI hC hV hk (by omega) rfl rfl (fun V1 hV1 => ?_)
    simp (disch := omega) only [r6_47, r6_48, r6_50, r6_51, r6_52, r6_53, iI_sub, dk_0, kl_n, kl_i, kl_r, kl_z, kl_l, kl_d, catS_0, catS_c, cat_i, cat_l, cat_d, cat_r, cat_n, kC_r, kC_x, Option.bind_some, Option.toList_some, Option.toList_none, List.cons_append, List.nil_append, gB0, gB1, gB2, gB3, gB4, rvB, nI_iI, i0, i1, l0_, wr_s, aup_s, and_true, true_and, and_self, eq_self, if_true, if_false, Nat.zero_le, Nat.reduceAdd, Nat.reduceLeDiff, gN_I, gN_L, gN_P, bI_0, bI_ok, z0, z1, Bool.true_eq, Bool.false_eq_true, not_true_eq_false, not_false_eq_true]
    refine ev_k (j := k - 1) (k := 0) hI hC hV1 hk1 (by omega) hp rfl (fun V2 hV2 => ?_)
    rw [t0, t1]
    simp (disch := omega) only [r6_56, r6_59, r6_60, r6_62, r6_63, iI_lt, q1, dk_0, kl_n, kl_i, kl_r, kl_z, kl_l, kl_d, catS_0, catS_c, cat_i, cat_l, cat_d, cat_r, cat_n, kC_r, kC_x, Option.bind_some, Option.toList_some, Option.toList_none, List.cons_append, List.nil_append, gB0, gB1, gB2, gB3, gB4, rvB, nI_iI, i0, i1, l0_, wr_s, aup_s, and_true, true_and, and_self, eq_self, if_true, if_false, Nat.zero_le, Nat.reduceAdd, Nat.reduceLeDiff, gN_I, gN_L, gN_P, bI_0, bI_ok, z0, z1, Bool.true_eq, Bool.false_eq_true, not_true_eq_false, not_false_eq_true]
    refine ev_k (j := k) (k := 0) hI hC hV2 hk (by omega) rfl rfl (fun V3 hV3 => ?_)
    simp (disch := omega) only [r6_66, r6_67, r6_69, r6_70, r6_71, r6_72, iI_sub, dk_0, kl_n, kl_i, kl_r, kl_z, kl_l, kl_d, catS_0, catS_c, cat_i, cat_l, cat_d, cat_r, cat_n, kC_r, kC_x, Option.bind_some, Option.toList_some, Option.toList_none, List.cons_append, List.nil_append, gB0, gB1, gB2, gB3, gB4, rvB, nI_iI, i0, i1, l0_, wr_s, aup_s, and_true, true_and, and_self, eq_self, if_true, if_false, Nat.zero_le, Nat.reduceAdd, Nat.reduceLeDiff, gN_I, gN_L, gN_P, bI_0, bI_ok, z0, z1, Bool.true_eq, Bool.false_eq_true, not_true_eq_false, not_false_eq_true]
    refine ev_k (j := k - 1) (k := 0) hI hC hV3 hk1 (by omega) hp rfl (fun V4 hV4 => ?_)
    rw [t0, t1]
    by_cases e : ((C k / 262144 : Nat) : Int) = ((C (k - 1) / 262144 : Nat) : Int)
    · by_cases q : eON (C k) = true
      · rw [if_pos q] at hb
        subst hb
        have c0 : ¬ ((1 : Nat) : Int) = 0 := by omega
        simp (disch := omega) only [r6_75, r6_78, r6_80, iI_eq, e, c0, kl_n, kl_i, kl_r, kl_z, kl_l, kl_d, catS_0, catS_c, cat_i, cat_l, cat_d, cat_r, cat_n, kC_r, kC_x, Option.bind_some, Option.toList_some, Option.toList_none, List.cons_append, List.nil_append, gB0, gB1, gB2, gB3, gB4, rvB, nI_iI, i0, i1, l0_, wr_s, aup_s, and_true, true_and, and_self, eq_self, if_true, if_false, Nat.zero_le, Nat.reduceAdd, Nat.reduceLeDiff, gN_I, gN_L, gN_P, bI_0, bI_ok, z0, z1, Bool.true_eq, Bool.false_eq_true, not_true_eq_false, not_false_eq_true]
        exact K V4 hV4
      · rw [if_neg q] at hb
        subst hb
        have c0 : ((0 : Nat) : Int) = 0 := rfl
        simp (disch := omega) only [r6_75, r6_78, r6_80, r6_83, r6_84, r6_86, r6_87, r6_88, r6_89, iI_eq, iI_sub, e, c0, dk_0, kl_n, kl_i, kl_r, kl_z, kl_l, kl_d, catS_0, catS_c, cat_i, cat_l, cat_d, cat_r, cat_n, kC_r, kC_x, Option.bind_some, Option.toList_some, Option.toList_none, List.cons_append, List.nil_append, gB0, gB1, gB2, gB3, gB4, rvB, nI_iI, i0, i1, l0_, wr_s, aup_s, and_true, true_and, and_self, eq_self, if_true, if_false, Nat.zero_le, Nat.reduceAdd, Nat.reduceLeDiff, gN_I, gN_L, gN_P, bI_0, bI_ok, z0, z1, Bool.true_eq, Bool.false_eq_true, not_true_eq_false, not_false_eq_true]
        refine ev_k (j := k - 1) (k := 3) hI hC hV4 hk1 (by omega) hp rfl (fun V5 hV5 => ?_)
        have o0 : ¬ C k / 131072 % 2 = 1 := fun z => q (decide_eq_true z)
        have o1 : ¬ C (k - 1) / 131072 % 2 = 1 := by omega
        have t3 : vFact (C (k - 1)) 3 = 0 := if_neg o1
        rw [t3]
        have c1 : ((0 : Nat) : Int) ≤ 0 := by omega
        simp (disch := omega) only [r6_92, iI_le, c1, kl_n, kl_i, kl_r, kl_z, kl_l, kl_d, catS_0, catS_c, cat_i, cat_l, cat_d, cat_r, cat_n, kC_r, kC_x, Option.bind_some, Option.toList_some, Option.toList_none, List.cons_append, List.nil_append, gB0, gB1, gB2, gB3, gB4, rvB, nI_iI, i0, i1, l0_, wr_s, aup_s, and_true, true_and, and_self, eq_self, if_true, if_false, Nat.zero_le, Nat.reduceAdd, Nat.reduceLeDiff, gN_I, gN_L, gN_P, bI_0, bI_ok, z0, z1, Bool.true_eq, Bool.false_eq_true, not_true_eq_false, not_false_eq_true]
        exact K V5 hV5
    · simp (disch := omega) only [r6_75, iI_eq, e, kl_n, kl_i, kl_r, kl_z, kl_l, kl_d, catS_0, catS_c, cat_i, cat_l, cat_d, cat_r, cat_n, kC_r, kC_x, Option.bind_some, Option.toList_some, Option.toList_none, List.cons_append, List.nil_append, gB0, gB1, gB2, gB3, gB4, rvB, nI_iI, i0, i1, l0_, wr_s, aup_s, and_true, true_and, and_self, eq_self, if_true, if_false, Nat.zero_le, Nat.reduceAdd, Nat.reduceLeDiff, gN_I, gN_L, gN_P, bI_0, bI_ok, z0, z1, Bool.true_eq, Bool.false_eq_true, not_true_eq_false, not_false_eq_true]
      exact K V4 hV4
theorem pd_loop (hI : Inv W) (hC : evS W.1 C) (K : ∀ l5 V, rnG V → endP x g W h n w (L (d + 12) 6 194 [some (.ref x), some (.int (iI (plC W.1).1)), some (.int (iI (snI C (plC W.1).1))), some (.int (iI (gtI C (plC W.1).1))), some (.int (iI (plC W.1).1)), l5] [] (dkW h x (pW W V), n, w, g))) :
    ∀ m k : Nat, k + m = (plC W.1).1 → ∀ l5 V, rnG V → endP x g W h n w (L (d + 12) 6 12 [some (.ref x), some (.int (iI (plC W.1).1)), some (.int (iI (snI C k))), some (.int (iI (gtI C k))), some (.int (iI k)), l5] [] (dkW h x (pW W V), n, w, g)) := by
  have hN := (plC_pr hI.1).1
  intro m
  induction m with
  | zero =>
    intro k hk l5 V hV
    obtain rfl : k = (plC W.1).1 := by omega
    have c1 : ((plC W.1).1 : Int) ≤ (plC W.1).1 := by omega
    rw [r6_12]
    simp (disch := omega) only [r6_14, r6_15, iI_le, c1, kl_n, kl_i, kl_r, kl_z, kl_l, kl_d, catS_0, catS_c, cat_i, cat_l, cat_d, cat_r, cat_n, kC_r, kC_x, Option.bind_some, Option.toList_some, Option.toList_none, List.cons_append, List.nil_append, gB0, gB1, gB2, gB3, gB4, rvB, nI_iI, i0, i1, l0_, wr_s, aup_s, and_true, true_and, and_self, eq_self, if_true, if_false, Nat.zero_le, Nat.reduceAdd, Nat.reduceLeDiff, gN_I, gN_L, gN_P, bI_0, bI_ok, z0, z1, Bool.true_eq, Bool.false_eq_true, not_true_eq_false, not_false_eq_true]
    exact K l5 V hV
  | succ m ih =>
    intro k hk l5 V hV
    have hk2 : k < (plC W.1).1 := by omega
    have c1 : ¬ ((plC W.1).1 : Int) ≤ k := by omega
    rw [r6_12]
    simp (disch := omega) only [r6_14, r6_15, r6_18, r6_19, r6_21, r6_22, iI_le, c1, dk_0, kl_n, kl_i, kl_r, kl_z, kl_l, kl_d, catS_0, catS_c, cat_i, cat_l, cat_d, cat_r, cat_n, kC_r, kC_x, Option.bind_some, Option.toList_some, Option.toList_none, List.cons_append, List.nil_append, gB0, gB1, gB2, gB3, gB4, rvB, nI_iI, i0, i1, l0_, wr_s, aup_s, and_true, true_and, and_self, eq_self, if_true, if_false, Nat.zero_le, Nat.reduceAdd, Nat.reduceLeDiff, gN_I, gN_L, gN_P, bI_0, bI_ok, z0, z1, Bool.true_eq, Bool.false_eq_true, not_true_eq_false, not_false_eq_true]
    refine ev_k (j := k) (k := 3) hI hC hV hk2 (by omega) rfl rfl (fun V1 hV1 => ?_)
    have fin : ∀ (b : Nat) V, b = (if eON (C k) = true then 1 else 0) → rnG V → endP x g W h n w (L (d + 12) 6 35 [some (.ref x), some (.int (iI (plC W.1).1)), some (.int (iI (snI C k))), some (.int (iI (gtI C k))), some (.int (iI k)), some (.int (iI b))] [] (dkW h x (pW W V), n, w, g)) := fun b V hb hV =>
      pl_35 hI hC hk2 hb hV (fun V hV => pl_97 hI hC hk2 hb hV (fun l5 V hV => pl_144 hI hC hk2 hV (fun l5 V hV => pl_188 hN hk2 hV (fun l5 V hV => ih (k + 1) (by omega) l5 V hV))))
    by_cases q : C k / 131072 % 2 = 1
    · have t3 : vFact (C k) 3 = C k % 128 := if_pos q
      have f1 := (so_V hI hC hk2).2 q
      have f2 : C k % 128 < 128 := Nat.mod_lt _ (by omega)
      have c2 : ¬ ((C k % 128 : Nat) : Int) ≤ 0 := by omega
      rw [t3]
      simp (disch := omega) only [r6_25, r6_28, r6_29, r6_32, r6_33, iI_le, c2, kl_n, kl_i, kl_r, kl_z, kl_l, kl_d, catS_0, catS_c, cat_i, cat_l, cat_d, cat_r, cat_n, kC_r, kC_x, Option.bind_some, Option.toList_some, Option.toList_none, List.cons_append, List.nil_append, gB0, gB1, gB2, gB3, gB4, rvB, nI_iI, i0, i1, l0_, wr_s, aup_s, and_true, true_and, and_self, eq_self, if_true, if_false, Nat.zero_le, Nat.reduceAdd, Nat.reduceLeDiff, gN_I, gN_L, gN_P, bI_0, bI_ok, z0, z1, Bool.true_eq, Bool.false_eq_true, not_true_eq_false, not_false_eq_true]
      exact fin 1 V1 (if_pos (decide_eq_true q)).symm hV1
    · have t3 : vFact (C k) 3 = 0 := if_neg q
      have c2 : ((0 : Nat) : Int) ≤ 0 := by omega
      rw [t3]
      simp (disch := omega) only [r6_25, r6_28, r6_29, r6_32, r6_33, iI_le, c2, kl_n, kl_i, kl_r, kl_z, kl_l, kl_d, catS_0, catS_c, cat_i, cat_l, cat_d, cat_r, cat_n, kC_r, kC_x, Option.bind_some, Option.toList_some, Option.toList_none, List.cons_append, List.nil_append, gB0, gB1, gB2, gB3, gB4, rvB, nI_iI, i0, i1, l0_, wr_s, aup_s, and_true, true_and, and_self, eq_self, if_true, if_false, Nat.zero_le, Nat.reduceAdd, Nat.reduceLeDiff, gN_I, gN_L, gN_P, bI_0, bI_ok, z0, z1, Bool.true_eq, Bool.false_eq_true, not_true_eq_false, not_false_eq_true]
      exact fin 0 V1 (if_neg (fun z => q (of_decide_eq_true z))).symm hV1
end
