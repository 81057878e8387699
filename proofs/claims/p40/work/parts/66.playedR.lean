/-! ===== what is played is right: all of it ===== -/
section
variable {d n w : Nat} {g : Nat × Nat} {h : aHf} {x : Nat} {W : Dk} {C : Nat → Nat}
theorem mo_k {V : Rn} {f : Option Value → aH → aR} {e : String → aH → aR} (hI : Inv W) (hC : evS W.1 C) (hV : rnG V)
    (hf : ∀ V', rnG V' → endP x g W h n w (f (some (.int (iI (gtI C (plC W.1).1)))) (dkW h x (pW W V'), n, w, g))) : endP x g W h n w (kC (aE (d + 12) 74 [.ref x] (dkW h x (pW W V), n, w, g)) f e) := by
  obtain ⟨V', h1, h2⟩ := q_most (d := d) (n := n) (w := w) (g := g) (h := h) (x := x) (W := pW W V) (Inv_V hI hV) hC
  rw [h2]
  exact hf V' h1
theorem pt_k {V : Rn} {v : Nat} {f : Option Value → aH → aR} {e : String → aH → aR} (hI : Inv W) (hV : rnG V) (hv : ltN (plE (pW W V)).2 (plE (pW W V)).1 = v)
    (hf : ∀ V', rnG V' → endP x g W h n w (f (some (.int (iI v))) (dkW h x (pW W V'), n, w, g))) : endP x g W h n w (kC (aE (d + 12) 75 [.ref x] (dkW h x (pW W V), n, w, g)) f e) := by
  obtain ⟨V', h1, h2⟩ := q_playedTo (d := d) (n := n) (w := w) (g := g) (h := h) (x := x) (W := pW W V) (Inv_V hI hV)
  rw [h2, hv]
  exact hf V' h1
theorem me_k {V : Rn} {f : Option Value → aH → aR} {e : String → aH → aR} (hI : Inv W) (hV : rnG V)
    (hf : ∀ V' D, rnG V' → ((plC W.1).1 = 0 → FP.dcmp D FP.dconst0 = some .eq) → ((plC W.1).1 ≠ 0 → FP.dcmp D FP.dconst0 ≠ some .eq) → endP x g W h n w (f (some (.double D)) (dkW h x (pW W V'), n, w, g))) : endP x g W h n w (kC (aE (d + 12) 76 [.ref x] (dkW h x (pW W V), n, w, g)) f e) := by
  obtain ⟨V', h1, h2⟩ := q_mean (d := d) (n := n) (w := w) (g := g) (h := h) (x := x) (W := pW W V) (Inv_V hI hV)
  obtain ⟨-, m1, m2⟩ := mf_ok (W := pW W V) hI.1
  have r := (plE_R (pW W V)).1
  rw [r] at m1 m2 h2
  rw [h2]
  refine hf V' _ h1 (fun z => ?_) m2
  rw [m1 z]
  decide
theorem pl_235 (hI : Inv W) {l2 l3 l4 l5 : Option Value} {V : Rn} (hV : rnG V) : endP x g W h n w (L (d + 12) 6 235 [some (.ref x), some (.int (iI (plC W.1).1)), l2, l3, l4, l5] [] (dkW h x (pW W V), n, w, g)) := by
  have hN := (plC_pr hI.1).1
  by_cases z : (plC W.1).1 = 0
  · have c0 : ((plC W.1).1 : Int) = 0 := by omega
    simp (disch := omega) only [r6_235, r6_236, r6_239, r6_240, r6_243, r6_244, r6_245, iI_eq, c0, dk_0, kl_n, kl_i, kl_r, kl_z, kl_l, kl_d, catS_0, catS_c, cat_i, cat_l, cat_d, cat_r, cat_n, kC_r, kC_x, Option.bind_some, Option.toList_some, Option.toList_none, List.cons_append, List.nil_append, gB0, gB1, gB2, gB3, gB4, rvB, nI_iI, i0, i1, l0_, wr_s, aup_s, and_true, true_and, and_self, eq_self, if_true, if_false, Nat.zero_le, Nat.reduceAdd, Nat.reduceLeDiff, gN_I, gN_L, gN_P, bI_0, bI_ok, z0, z1, Bool.true_eq, Bool.false_eq_true, not_true_eq_false, not_false_eq_true]
    refine me_k hI hV (fun V' D hV' m1 _ => ?_)
    have e := cmp_eq (o := .l) (m1 z)
    simp (disch := omega) only [r6_248, r6_249, r6_250, r6_253, r6_254, r6_257, r6_258, r6_261, r6_262, r6_265, r6_266, e, kl_n, kl_i, kl_r, kl_z, kl_l, kl_d, catS_0, catS_c, cat_i, cat_l, cat_d, cat_r, cat_n, kC_r, kC_x, Option.bind_some, Option.toList_some, Option.toList_none, List.cons_append, List.nil_append, gB0, gB1, gB2, gB3, gB4, rvB, nI_iI, i0, i1, l0_, wr_s, aup_s, and_true, true_and, and_self, eq_self, if_true, if_false, Nat.zero_le, Nat.reduceAdd, Nat.reduceLeDiff, gN_I, gN_L, gN_P, bI_0, bI_ok, z0, z1, Bool.true_eq, Bool.false_eq_true, not_true_eq_false, not_false_eq_true]
    exact ⟨V', hV', rfl⟩
  · have c0 : ¬ ((plC W.1).1 : Int) = 0 := by omega
    simp (disch := omega) only [r6_235, r6_236, r6_239, r6_240, r6_243, r6_244, r6_245, iI_eq, c0, dk_0, kl_n, kl_i, kl_r, kl_z, kl_l, kl_d, catS_0, catS_c, cat_i, cat_l, cat_d, cat_r, cat_n, kC_r, kC_x, Option.bind_some, Option.toList_some, Option.toList_none, List.cons_append, List.nil_append, gB0, gB1, gB2, gB3, gB4, rvB, nI_iI, i0, i1, l0_, wr_s, aup_s, and_true, true_and, and_self, eq_self, if_true, if_false, Nat.zero_le, Nat.reduceAdd, Nat.reduceLeDiff, gN_I, gN_L, gN_P, bI_0, bI_ok, z0, z1, Bool.true_eq, Bool.false_eq_true, not_true_eq_false, not_false_eq_true]
    refine me_k hI hV (fun V' D hV' _ m2 => ?_)
    have e := cmp_ne (m2 z)
    simp (disch := omega) only [r6_248, r6_249, r6_250, r6_253, r6_254, r6_257, r6_258, r6_261, r6_262, r6_265, r6_266, e, kl_n, kl_i, kl_r, kl_z, kl_l, kl_d, catS_0, catS_c, cat_i, cat_l, cat_d, cat_r, cat_n, kC_r, kC_x, Option.bind_some, Option.toList_some, Option.toList_none, List.cons_append, List.nil_append, gB0, gB1, gB2, gB3, gB4, rvB, nI_iI, i0, i1, l0_, wr_s, aup_s, and_true, true_and, and_self, eq_self, if_true, if_false, Nat.zero_le, Nat.reduceAdd, Nat.reduceLeDiff, gN_I, gN_L, gN_P, bI_0, bI_ok, z0, z1, Bool.true_eq, Bool.false_eq_true, not_true_eq_false, not_false_eq_true]
    exact ⟨V', hV', rfl⟩
theorem pl_194 (hI : Inv W) (hC : evS W.1 C) {l5 : Option Value} {V : Rn} (hV : rnG V) : endP x g W h n w (L (d + 12) 6 194 [some (.ref x), some (.int (iI (plC W.1).1)), some (.int (iI (snI C (plC W.1).1))), some (.int (iI (gtI C (plC W.1).1))), some (.int (iI (plC W.1).1)), l5] [] (dkW h x (pW W V), n, w, g)) := by
  have hN := (plC_pr hI.1).1
  have gb := gtI_b C (plC W.1).1
  rw [sn_end hI.1 hC]
  simp (disch := omega) only [r6_194, r6_195, r6_198, r6_199, iI_eq, dk_0, kl_n, kl_i, kl_r, kl_z, kl_l, kl_d, catS_0, catS_c, cat_i, cat_l, cat_d, cat_r, cat_n, kC_r, kC_x, Option.bind_some, Option.toList_some, Option.toList_none, List.cons_append, List.nil_append, gB0, gB1, gB2, gB3, gB4, rvB, nI_iI, i0, i1, l0_, wr_s, aup_s, and_true, true_and, and_self, eq_self, if_true, if_false, Nat.zero_le, Nat.reduceAdd, Nat.reduceLeDiff, gN_I, gN_L, gN_P, bI_0, bI_ok, z0, z1, Bool.true_eq, Bool.false_eq_true, not_true_eq_false, not_false_eq_true]
  refine mo_k hI hC hV (fun V1 hV1 => ?_)
  by_cases z : (plC W.1).1 = 0
  · have c0 : ((plC W.1).1 : Int) = 0 := by omega
    simp (disch := omega) only [r6_202, r6_203, r6_206, r6_207, r6_210, r6_211, iI_eq, c0, dk_0, kl_n, kl_i, kl_r, kl_z, kl_l, kl_d, catS_0, catS_c, cat_i, cat_l, cat_d, cat_r, cat_n, kC_r, kC_x, Option.bind_some, Option.toList_some, Option.toList_none, List.cons_append, List.nil_append, gB0, gB1, gB2, gB3, gB4, rvB, nI_iI, i0, i1, l0_, wr_s, aup_s, and_true, true_and, and_self, eq_self, if_true, if_false, Nat.zero_le, Nat.reduceAdd, Nat.reduceLeDiff, gN_I, gN_L, gN_P, bI_0, bI_ok, z0, z1, Bool.true_eq, Bool.false_eq_true, not_true_eq_false, not_false_eq_true]
    refine pt_k (v := 0) hI hV1 (by rw [(plE_R (pW W V1)).1, show (plC (pW W V1).1).1 = 0 from z]; rfl) (fun V2 hV2 => ?_)
    have c2 : ((0 : Nat) : Int) = 0 := rfl
    simp (disch := omega) only [r6_214, r6_217, iI_eq, c2, kl_n, kl_i, kl_r, kl_z, kl_l, kl_d, catS_0, catS_c, cat_i, cat_l, cat_d, cat_r, cat_n, kC_r, kC_x, Option.bind_some, Option.toList_some, Option.toList_none, List.cons_append, List.nil_append, gB0, gB1, gB2, gB3, gB4, rvB, nI_iI, i0, i1, l0_, wr_s, aup_s, and_true, true_and, and_self, eq_self, if_true, if_false, Nat.zero_le, Nat.reduceAdd, Nat.reduceLeDiff, gN_I, gN_L, gN_P, bI_0, bI_ok, z0, z1, Bool.true_eq, Bool.false_eq_true, not_true_eq_false, not_false_eq_true]
    rw [← c0]
    exact pl_235 hI hV2
  · have c0 : ¬ ((plC W.1).1 : Int) = 0 := by omega
    have hk : (plC W.1).1 - 1 < (plC W.1).1 := by omega
    have hp : ((plC W.1).1 : Int) - 1 = (((plC W.1).1 - 1 : Nat) : Int) := by omega
    have b1 := (so_V hI hC hk).1
    have t1 : vFact (C ((plC W.1).1 - 1)) 0 = C ((plC W.1).1 - 1) / 262144 := rfl
    simp (disch := omega) only [r6_202, r6_203, r6_206, r6_207, r6_220, r6_221, iI_eq, c0, dk_0, kl_n, kl_i, kl_r, kl_z, kl_l, kl_d, catS_0, catS_c, cat_i, cat_l, cat_d, cat_r, cat_n, kC_r, kC_x, Option.bind_some, Option.toList_some, Option.toList_none, List.cons_append, List.nil_append, gB0, gB1, gB2, gB3, gB4, rvB, nI_iI, i0, i1, l0_, wr_s, aup_s, and_true, true_and, and_self, eq_self, if_true, if_false, Nat.zero_le, Nat.reduceAdd, Nat.reduceLeDiff, gN_I, gN_L, gN_P, bI_0, bI_ok, z0, z1, Bool.true_eq, Bool.false_eq_true, not_true_eq_false, not_false_eq_true]
    refine pt_k hI hV1 (lt_ok (W := pW W V1) hC rfl (by omega)) (fun V2 hV2 => ?_)
    simp (disch := omega) only [r6_224, r6_225, r6_226, r6_227, r6_228, r6_229, iI_sub, dk_0, kl_n, kl_i, kl_r, kl_z, kl_l, kl_d, catS_0, catS_c, cat_i, cat_l, cat_d, cat_r, cat_n, kC_r, kC_x, Option.bind_some, Option.toList_some, Option.toList_none, List.cons_append, List.nil_append, gB0, gB1, gB2, gB3, gB4, rvB, nI_iI, i0, i1, l0_, wr_s, aup_s, and_true, true_and, and_self, eq_self, if_true, if_false, Nat.zero_le, Nat.reduceAdd, Nat.reduceLeDiff, gN_I, gN_L, gN_P, bI_0, bI_ok, z0, z1, Bool.true_eq, Bool.false_eq_true, not_true_eq_false, not_false_eq_true]
    refine ev_k (j := (plC W.1).1 - 1) (k := 0) hI hC hV2 hk (by omega) hp rfl (fun V3 hV3 => ?_)
    rw [t1]
    simp (disch := omega) only [r6_232, kl_n, kl_i, kl_r, kl_z, kl_l, kl_d, catS_0, catS_c, cat_i, cat_l, cat_d, cat_r, cat_n, kC_r, kC_x, Option.bind_some, Option.toList_some, Option.toList_none, List.cons_append, List.nil_append, gB0, gB1, gB2, gB3, gB4, rvB, nI_iI, i0, i1, l0_, wr_s, aup_s, and_true, true_and, and_self, eq_self, if_true, if_false, Nat.zero_le, Nat.reduceAdd, Nat.reduceLeDiff, gN_I, gN_L, gN_P, bI_0, bI_ok, z0, z1, Bool.true_eq, Bool.false_eq_true, not_true_eq_false, not_false_eq_true]
    exact pl_235 hI hV3
theorem s_playedR (hI : Inv W) : ∃ V, rnG V ∧ aE (d + 13) 6 [.ref x] (dkW h x W, n, w, g) = some (.inl (some (.int (iI 1))), (dkW h x (pW W V), n, w, g)) := by
  obtain ⟨C, hC⟩ := evS_ex hI
  obtain ⟨V, h1, h2⟩ := q_events (d := d) (n := n) (w := w) (g := g) (h := h) (x := x) hI
  have z := pd_loop (d := d) (n := n) (w := w) (g := g) (h := h) (x := x) hI hC (fun l5 V hV => pl_194 hI hC hV) (plC W.1).1 0 (by omega) none V h1
  rw [show snI C 0 = 0 from rfl, show gtI C 0 = 0 from rfl, show ((0 : Nat) : Int) = 0 from rfl] at z
  obtain ⟨V', k1, k2⟩ := z
  refine ⟨V', k1, ?_⟩
  rw [← k2, e6]
  simp (disch := omega) only [r6_0, r6_1, r6_4, r6_5, r6_6, r6_7, r6_8, r6_9, r6_10, h2, dk_0, kl_n, kl_i, kl_r, kl_z, kl_l, kl_d, catS_0, catS_c, cat_i, cat_l, cat_d, cat_r, cat_n, kC_r, kC_x, Option.bind_some, Option.toList_some, Option.toList_none, List.cons_append, List.nil_append, gB0, gB1, gB2, gB3, gB4, rvB, nI_iI, i0, i1, l0_, wr_s, aup_s, and_true, true_and, and_self, eq_self, if_true, if_false, Nat.zero_le, Nat.reduceAdd, Nat.reduceLeDiff, gN_I, gN_L, gN_P, bI_0, bI_ok, z0, z1, Bool.true_eq, Bool.false_eq_true, not_true_eq_false, not_false_eq_true]
end
