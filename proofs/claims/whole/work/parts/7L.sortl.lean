/-! ===== the library sorts a row of long numbers: runs, and the whole ===== -/
theorem shr7_f : ∀ a b : Fin 64, iI ((a.val * 64 + b.val : Nat) : Int) >>> (iI 7 &&& 31) = iI (((a.val * 64 + b.val) / 128 : Nat) : Int) := by decide +kernel
theorem shr7 {a : Nat} (h : a ≤ 2000) : iI (a : Int) >>> (iI 7 &&& 31) = iI ((a / 128 : Nat) : Int) := by
  have e := shr7_f ⟨a / 64, by omega⟩ ⟨a % 64, by omega⟩
  rw [show a / 64 * 64 + a % 64 = a by omega] at e
  exact e
theorem shr10_f : ∀ a b : Fin 32, iI ((a.val * 32 + b.val : Nat) : Int) >>> (iI 10 &&& 31) = iI 0 := by decide +kernel
theorem shr10 {a : Nat} (h : a ≤ 1000) : iI (a : Int) >>> (iI 10 &&& 31) = iI 0 := by
  have e := shr10_f ⟨a / 32, by omega⟩ ⟨a % 32, by omega⟩
  rw [show a / 32 * 32 + a % 32 = a by omega] at e
  exact e
/-- where runs begin -/
def rh (h : aHf) (ro : Nat) (G : Nat → Nat) : aHf := aup h ro (aI .int 127 (fun i => iI (G i)))
theorem lw_n {h : aHf} {p N n : Nat} {A : Nat → Nat} {v : aC} (hn : n ≠ p) : aup (lw h p N A) n v = lw (aup h n v) p N A := by
  funext z
  unfold lw aup
  by_cases e : z = n
  · rw [if_pos e, if_neg (by omega), if_pos e]
  · rw [if_neg e]
    by_cases e2 : z = p
    · rw [if_pos e2, if_pos e2]
    · rw [if_neg e2, if_neg e2, if_neg e]
section
variable {h : aHf} {p N ro : Nat} {G : Nat → Nat} {A : Nat → Nat}
theorem rr_at (hr : ro ≠ p) : lw (rh h ro G) p N A ro = some (aI .int 127 (fun i => iI (G i))) := by
  rw [lw_o hr]
  exact aup_s
theorem rr_n (hr : ro ≠ p) : gN (lw (rh h ro G) p N A ro) = some 127 := by
  rw [rr_at hr]
  rfl
theorem rr_s {j x : Nat} (hr : ro ≠ p) (hj : j < 127) : sI (lw (rh h ro G) p N A ro) (iI (j : Int)) (iI (x : Int)) = some (aI .int 127 (fun i => iI (upN G j x i))) := by
  rw [rr_at hr, sI_I (by omega) (by omega) (by omega), Int.toNat_natCast, updI_N]
theorem rr_u {G' : Nat → Nat} (hr : ro ≠ p) : aup (lw (rh h ro G) p N A) ro (aI .int 127 (fun i => iI (G' i))) = lw (rh h ro G') p N A := by
  rw [lw_n hr]
  exact congrArg (fun z => lw z p N A) aup_2
end
/-- runs as far as k -/
def RI (A G : Nat → Nat) (c la k n : Nat) : Prop := (1 ≤ c ∧ c ≤ 8) ∧ G 0 = 0 ∧ (∀ i j, i < j → j ≤ c → G i < G j) ∧ G c = la ∧ (∀ j, j < c → sor A (G j) (G (j + 1))) ∧ (la ≤ k ∧ k ≤ n) ∧ con A la k ∧ (k < n ∨ la = k)
theorem RI_p {A G : Nat → Nat} {c la k n : Nat} (h : RI A G c la k n) : 1 ≤ la ∧ (∀ j, j ≤ c → G j ≤ la) := by
  obtain ⟨g1, g2, g3, g4, g5, g6, g7, g8⟩ := h
  refine ⟨?_, fun j hj => ?_⟩
  · have := g3 0 c (by omega) (Nat.le_refl _)
    omega
  · by_cases e : j = c
    · rw [e, g4]
      exact Nat.le_refl _
    · have := g3 j c (by omega) (Nat.le_refl _)
      omega
/-- the last run goes on -/
theorem RI_on {A A' G : Nat → Nat} {c la k n K : Nat} (h : RI A G c la k n) (hK : k < K ∧ K ≤ n) (hp : prm la K A A') (hs : sor A' la K) (hle : A' (la - 1) ≤ A' la) : RI A' (upN G c K) c K K n := by
  have hp2 := RI_p h
  obtain ⟨g1, g2, g3, g4, g5, g6, g7, g8⟩ := h
  have lo : ∀ j, j < c → upN G c K j = G j := fun j hj => upN_o (by omega)
  refine ⟨g1, by rw [lo 0 (by omega)]; exact g2, fun i j h1 h2 => ?_, upN_at, fun j hj => ?_, ⟨Nat.le_refl _, hK.2⟩, fun i j h1 h2 => by omega, Or.inr rfl⟩
  · rw [lo i (by omega)]
    by_cases e : j = c
    · rw [e, upN_at]
      have := hp2.2 i (by omega)
      omega
    · rw [lo j (by omega)]
      exact g3 i j h1 h2
  · rw [lo j hj]
    by_cases e : j + 1 = c
    · rw [e, upN_at]
      have s1 := g5 j hj
      rw [e, g4] at s1
      have gj := g3 j c hj (Nat.le_refl _)
      refine sor_2 (b := la) (sor_e s1 (fun i h1 h2 => hp.1 i (Or.inl h2))) hs (fun i j2 h1 h2 h3 h4 => ?_)
      have a1 : A' i ≤ A' (la - 1) := by
        by_cases e2 : i = la - 1
        · rw [e2]
          exact Nat.le_refl _
        · rw [hp.1 i (by omega), hp.1 (la - 1) (by omega)]
          exact s1 i (la - 1) h1 (by omega) (by omega)
      have a2 : A' la ≤ A' j2 := by
        by_cases e2 : j2 = la
        · rw [e2]
          exact Nat.le_refl _
        · exact hs la j2 (Nat.le_refl _) (by omega) h4
      omega
    · rw [lo (j + 1) (by omega)]
      have := hp2.2 (j + 1) (by omega)
      exact sor_e (g5 j hj) (fun i h1 h2 => hp.1 i (by omega))
/-- another run -/
theorem RI_new {A A' G : Nat → Nat} {c la k n K : Nat} (h : RI A G c la k n) (hK : k < K ∧ K ≤ n) (hp : prm la K A A') (hs : sor A' la K) (hc : c ≤ 7) : RI A' (upN G (c + 1) K) (c + 1) K K n := by
  have hp2 := RI_p h
  obtain ⟨g1, g2, g3, g4, g5, g6, g7, g8⟩ := h
  have lo : ∀ j, j ≤ c → upN G (c + 1) K j = G j := fun j hj => upN_o (by omega)
  refine ⟨by omega, by rw [lo 0 (by omega)]; exact g2, fun i j h1 h2 => ?_, upN_at, fun j hj => ?_, ⟨Nat.le_refl _, hK.2⟩, fun i j h1 h2 => by omega, Or.inr rfl⟩
  · rw [lo i (by omega)]
    by_cases e : j = c + 1
    · rw [e, upN_at]
      have := hp2.2 i (by omega)
      omega
    · rw [lo j (by omega)]
      exact g3 i j h1 (by omega)
  · rw [lo j (by omega)]
    by_cases e : j = c
    · rw [e, upN_at, g4]
      exact hs
    · rw [lo (j + 1) (by omega)]
      have := hp2.2 (j + 1) (by omega)
      exact sor_e (g5 j (by omega)) (fun i h1 h2 => hp.1 i (by omega))
section
variable {d n0 w0 : Nat} {g : Nat × Nat} {h : aHf} {p N n : Nat}
theorem tr_run (hN : N ≤ 2000) (hn : n ≤ N ∧ n ≤ 1000) (hp : p < n0) (hd : 20 ≤ d) : ∀ (m k la c : Nat) (A G : Nat → Nat), n - k ≤ m → RI A G c la k n → (∀ i, bd (A i)) → ∀ l9 l10 l11 l12 : Option Value,
    ∃ h' n' w' C' z, (∀ q, q < n0 → h' q = h q) ∧ (n0 ≤ n' ∧ n' ≤ n0 + 2) ∧ w' ≤ w0 + 127 + n ∧ prm 0 n A C' ∧ (z = iI 1 ∧ sor C' 0 n ∨ z = iI 0) ∧
      L d 276 19 [some .null, some (.ref p), some (.int (iI 0)), some (.int (iI n)), some (.ref n0), some (.int (iI n)), some (.int (iI c)), some (.int (iI la)), some (.int (iI k)), l9, l10, l11, l12] [] (lw (rh h n0 G) p N A, n0 + 1, w0 + 127, g) = some (.inl (some (.int z)), (lw h' p N C', n', w', g)) := by
  have ro : n0 ≠ p := by omega
  have keep : ∀ G q, q < n0 → rh h n0 G q = h q := fun G q hq => aup_o (by omega)
  intro m
  induction m with
  | zero =>
    intro k la c A G hm hR hA l9 l10 l11 l12
    have g0 := hR
    obtain ⟨g1, g2, g3, g4, g5, g6, g7, g8⟩ := g0
    obtain rfl : k = n := by omega
    obtain rfl : la = k := by omega
    have c1 : (la : Int) ≤ la := Int.le_refl _
    by_cases q : c ≤ 1
    · obtain rfl : c = 1 := by omega
      have c2 : ((1 : Nat) : Int) ≤ 1 := by omega
      have s1 := g5 0 (by omega)
      rw [g2, g4] at s1
      refine ⟨rh h n0 G, n0 + 1, w0 + 127, A, iI 1, keep G, by omega, by omega, prm_r _ _ _, Or.inl ⟨rfl, s1⟩, ?_⟩
      rw [r276_19]
      simp (disch := omega) only [r276_21, r276_23, r276_26, r276_26n, r276_27, r276_29, r276_30, r276_31, r276_32, r276_32n, r276_33, r276_35, r276_36, r276_37, iI_le, Int.le_refl, kl_n, kl_i, kl_r, kl_z, kl_l, kl_d, catS_0, catS_c, cat_i, cat_l, cat_d, cat_r, cat_n, kC_r, kC_x, Option.bind_some, Option.toList_some, Option.toList_none, List.cons_append, List.nil_append, gB0, gB1, gB2, gB3, gB4, rvB, nI_iI, i0, i1, l0_, wr_s, aup_s, and_true, true_and, and_self, eq_self, if_true, if_false, Nat.zero_le, Nat.reduceAdd, Nat.reduceLeDiff, gN_I, gN_L, gN_P, bI_0, bI_ok, z0, z1, Bool.true_eq, Bool.false_eq_true, not_true_eq_false, not_false_eq_true]
      simp (disch := omega) only [r276_329, r276_331, r276_332, r276_335, r276_336, r276_338, r276_338n, r276_339, r276_339n, r276_342, r276_342n, r276_349i, r276_349, r276_350, r276_350n, r276_352, r276_352n, r276_355, r276_356, r276_358, r276_358n, r276_360, r276_363, r276_363n, r276_367, r276_369, r276_369n, r276_370, r276_370n, r276_372, r276_374, r276_375, r276_375n, r276_376, r276_376n, r276_379, r276_380, r276_383, r276_384, r276_384n, r276_386, r276_387, r276_389, r276_392i, r276_392, r276_393, r276_394, iI_le, c2, kl_n, kl_i, kl_r, kl_z, kl_l, kl_d, catS_0, catS_c, cat_i, cat_l, cat_d, cat_r, cat_n, kC_r, kC_x, Option.bind_some, Option.toList_some, Option.toList_none, List.cons_append, List.nil_append, gB0, gB1, gB2, gB3, gB4, rvB, nI_iI, i0, i1, l0_, wr_s, aup_s, and_true, true_and, and_self, eq_self, if_true, if_false, Nat.zero_le, Nat.reduceAdd, Nat.reduceLeDiff, gN_I, gN_L, gN_P, bI_0, bI_ok, z0, z1, Bool.true_eq, Bool.false_eq_true, not_true_eq_false, not_false_eq_true]
    · obtain ⟨d, rfl⟩ : ∃ d', d = d' + 2 := ⟨d - 2, by omega⟩
      have c2 : ¬ (c : Int) ≤ 1 := by omega
      have c3 : ¬ (la : Int) < 0 := by omega
      have c4 : (iI (la : Int)).toNatClampNeg = la := by rw [iI_cl (by omega) (by omega), Int.toNat_natCast]
      have c5 : ¬ (iI (la : Int) < iI 0 ∨ 60000000 < la) := by
        rw [iI_lt (by omega) (by omega) (by omega) (by omega)]
        omega
      have nw : ∀ H : aHf, aup H (n0 + 1) (aL la (fun _ => lI 0)) = lw H (n0 + 1) la (fun _ => 0) := fun _ => rfl
      obtain ⟨A', B', res, hr, hl, u, _, bA, _, m1, _, o1, _⟩ := mr_all (r := (n0 + 1 + 1, w0 + 127 + la, g)) (h := rh h n0 G) (p := p) (q := n0 + 1) (ro := n0) (N := N) (Nb := la) (G := G) (top := c) (by omega) (by omega) aup_s g3 (by omega) c d 0 c 1 A (fun _ => 0) (by omega) (by omega) (Nat.le_refl _) (by omega) (by omega) hA (fun _ => by show (0 : Nat) < 4398046511104; omega) (fun j _ hj => g5 j hj)
      have hres := o1 (by omega)
      have mm := m1 hres
      rw [g2, g4] at mm
      rw [g2, g4] at u
      have pp : prm 0 la A A' := ⟨fun i hi => u i hi, fun v => by
        have z := mm.2 v
        have z1 : cn A v 0 = 0 := rfl
        have z2 : cn A' v 0 = 0 := rfl
        omega⟩
      rw [show ((0 : Nat) : Int) = 0 from rfl, lw_c (A := A') (B := B') (show p ≠ n0 + 1 by omega)] at hl
      refine ⟨lw (rh h n0 G) (n0 + 1) la B', n0 + 1 + 1, w0 + 127 + la, A', iI 1, fun q hq => (lw_o (by omega)).trans (keep G q hq), by omega, by omega, pp, Or.inl ⟨rfl, mm.1⟩, ?_⟩
      rw [r276_19]
      simp (disch := omega) only [r276_21, r276_23, r276_26, r276_26n, r276_27, r276_29, r276_30, r276_31, r276_32, r276_32n, r276_33, r276_35, r276_36, r276_37, iI_le, Int.le_refl, kl_n, kl_i, kl_r, kl_z, kl_l, kl_d, catS_0, catS_c, cat_i, cat_l, cat_d, cat_r, cat_n, kC_r, kC_x, Option.bind_some, Option.toList_some, Option.toList_none, List.cons_append, List.nil_append, gB0, gB1, gB2, gB3, gB4, rvB, nI_iI, i0, i1, l0_, wr_s, aup_s, and_true, true_and, and_self, eq_self, if_true, if_false, Nat.zero_le, Nat.reduceAdd, Nat.reduceLeDiff, gN_I, gN_L, gN_P, bI_0, bI_ok, z0, z1, Bool.true_eq, Bool.false_eq_true, not_true_eq_false, not_false_eq_true]
      simp (disch := omega) only [r276_329, r276_331, r276_332, r276_335, r276_336, r276_338, r276_338n, r276_339, r276_339n, r276_342, r276_342n, r276_349i, r276_349, r276_350, r276_350n, r276_352, r276_352n, r276_355, r276_356, r276_358, r276_358n, r276_360, r276_363, r276_363n, r276_367, r276_369, r276_369n, r276_370, r276_370n, r276_372, r276_374, r276_375, r276_375n, r276_376, r276_376n, r276_379, r276_380, r276_383, r276_384, r276_384n, r276_386, r276_387, r276_389, r276_392i, r276_392, r276_393, r276_394, iI_le, c2, c4, c5, nw, hl, kl_n, kl_i, kl_r, kl_z, kl_l, kl_d, catS_0, catS_c, cat_i, cat_l, cat_d, cat_r, cat_n, kC_r, kC_x, Option.bind_some, Option.toList_some, Option.toList_none, List.cons_append, List.nil_append, gB0, gB1, gB2, gB3, gB4, rvB, nI_iI, i0, i1, l0_, wr_s, aup_s, and_true, true_and, and_self, eq_self, if_true, if_false, Nat.zero_le, Nat.reduceAdd, Nat.reduceLeDiff, gN_I, gN_L, gN_P, bI_0, bI_ok, z0, z1, Bool.true_eq, Bool.false_eq_true, not_true_eq_false, not_false_eq_true]
  | succ m ih =>
    intro k la c A G hm hR hA l9 l10 l11 l12
    by_cases hk : k = n
    · have z : n - k ≤ m := by omega
      exact ih k la c A G z hR hA l9 l10 l11 l12
    · have g0 := hR
      obtain ⟨g1, g2, g3, g4, g5, g6, g7, g8⟩ := g0
      have hp2 := RI_p hR
      rcases cl_19 (d := d) (h := rh h n0 G) (r := (n0 + 1, w0 + 127, g)) (p := p) (N := N) (n := n) (l0 := some .null) (l2 := some (.int (iI 0))) (l3 := some (.int (iI n))) (l4 := some (.ref n0)) (l6 := some (.int (iI c))) (A := A) (a := la) (k := k) hN hn.1 hA (by omega) g6.1 g7 l9 l10 l11 l12 with ⟨K, v9, v10, v11, v12, k1, k2, k3, hl⟩ | ⟨K, A', v9, v10, v11, v12, k1, k2, k3, k4, hl⟩
      · obtain ⟨h', n', w', C', z, z1, z2, z3, z4, z5, hl2⟩ := ih K la c A G (by omega) ⟨g1, g2, g3, g4, g5, by omega, k3, Or.inl k2⟩ hA v9 v10 v11 v12
        exact ⟨h', n', w', C', z, z1, z2, z3, z4, z5, by rw [hl, hl2]⟩
      · have bA' := prm_bd k3 hA
        have b1 : A' (la - 1) < 4398046511104 := bA' _
        have b2 : A' la < 4398046511104 := bA' _
        have e1 : (la : Int) - 1 = ((la - 1 : Nat) : Int) := by omega
        have k3' := prm_m k3 (Nat.zero_le la) k2
        by_cases q1 : A' (la - 1) ≤ A' la
        · obtain ⟨h', n', w', C', z, z1, z2, z3, z4, z5, hl2⟩ := ih K K c A' (upN G c K) (by omega) (RI_on hR ⟨k1, k2⟩ k3 k4 q1) bA' v9 v10 v11 v12
          refine ⟨h', n', w', C', z, z1, z2, z3, prm_t k3' z4, z5, ?_⟩
          rw [hl]
          simp (disch := omega) only [r276_208, r276_208n, r276_210, r276_210n, r276_256, r276_256n, r276_257, r276_259, r276_260, r276_261, r276_262, r276_262n, r276_263, r276_265, r276_266, r276_267, iI_sub, e1, lw_g, lc_le, eL_le, q1, kl_n, kl_i, kl_r, kl_z, kl_l, kl_d, catS_0, catS_c, cat_i, cat_l, cat_d, cat_r, cat_n, kC_r, kC_x, Option.bind_some, Option.toList_some, Option.toList_none, List.cons_append, List.nil_append, gB0, gB1, gB2, gB3, gB4, rvB, nI_iI, i0, i1, l0_, wr_s, aup_s, and_true, true_and, and_self, eq_self, if_true, if_false, Nat.zero_le, Nat.reduceAdd, Nat.reduceLeDiff, gN_I, gN_L, gN_P, bI_0, bI_ok, z0, z1, Bool.true_eq, Bool.false_eq_true, not_true_eq_false, not_false_eq_true]
          simp (disch := omega) only [r276_316, r276_316n, r276_318, r276_320, r276_322i, r276_322, r276_323, r276_325, r276_326, rr_s ro, rr_u ro, hl2, kl_n, kl_i, kl_r, kl_z, kl_l, kl_d, catS_0, catS_c, cat_i, cat_l, cat_d, cat_r, cat_n, kC_r, kC_x, Option.bind_some, Option.toList_some, Option.toList_none, List.cons_append, List.nil_append, gB0, gB1, gB2, gB3, gB4, rvB, nI_iI, i0, i1, l0_, wr_s, aup_s, and_true, true_and, and_self, eq_self, if_true, if_false, Nat.zero_le, Nat.reduceAdd, Nat.reduceLeDiff, gN_I, gN_L, gN_P, bI_0, bI_ok, z0, z1, Bool.true_eq, Bool.false_eq_true, not_true_eq_false, not_false_eq_true]
        · have e2 : (K : Int) - 0 = (K : Int) := Int.sub_zero _
          by_cases q2 : c ≤ K / 128
          · have c2 : ¬ ((K / 128 : Nat) : Int) < c := by omega
            have e3 : (c : Int) + 1 = ((c + 1 : Nat) : Int) := by omega
            have c3 : ¬ ((c + 1 : Nat) : Int) = 5120 := by omega
            have c4 : ¬ ((c + 1 : Nat) : Int) = ((127 : Nat) : Int) := by omega
            have c5 : (c : Int) ≤ ((K / 128 : Nat) : Int) := by omega
            obtain ⟨h', n', w', C', z, z1, z2, z3, z4, z5, hl2⟩ := ih K K (c + 1) A' (upN G (c + 1) K) (by omega) (RI_new hR ⟨k1, k2⟩ k3 k4 (by omega)) bA' v9 v10 v11 v12
            refine ⟨h', n', w', C', z, z1, z2, z3, prm_t k3' z4, z5, ?_⟩
            rw [hl]
            simp (disch := omega) only [r276_208, r276_208n, r276_210, r276_210n, r276_256, r276_256n, r276_257, r276_259, r276_260, r276_261, r276_262, r276_262n, r276_263, r276_265, r276_266, r276_267, r276_270, r276_272, r276_274, r276_275, r276_276, r276_278, r276_279, r276_282, r276_283, r276_284, r276_287, r276_289, r276_292, r276_295, r276_296, r276_297, r276_299, r276_299n, r276_301, r276_302, r276_305, r276_305n, r276_307, r276_309, r276_310, r276_311, r276_314, r276_314n, iI_sub, e1, lw_g, lc_le, eL_le, q1, e2, shr7, iI_le, c5, iI_add, e3, iI_eq, c3, rr_n ro, c4, kl_n, kl_i, kl_r, kl_z, kl_l, kl_d, catS_0, catS_c, cat_i, cat_l, cat_d, cat_r, cat_n, kC_r, kC_x, Option.bind_some, Option.toList_some, Option.toList_none, List.cons_append, List.nil_append, gB0, gB1, gB2, gB3, gB4, rvB, nI_iI, i0, i1, l0_, wr_s, aup_s, and_true, true_and, and_self, eq_self, if_true, if_false, Nat.zero_le, Nat.reduceAdd, Nat.reduceLeDiff, gN_I, gN_L, gN_P, bI_0, bI_ok, z0, z1, Bool.true_eq, Bool.false_eq_true, not_true_eq_false, not_false_eq_true]
            simp (disch := omega) only [r276_316, r276_316n, r276_318, r276_320, r276_322i, r276_322, r276_323, r276_325, r276_326, rr_s ro, rr_u ro, hl2, kl_n, kl_i, kl_r, kl_z, kl_l, kl_d, catS_0, catS_c, cat_i, cat_l, cat_d, cat_r, cat_n, kC_r, kC_x, Option.bind_some, Option.toList_some, Option.toList_none, List.cons_append, List.nil_append, gB0, gB1, gB2, gB3, gB4, rvB, nI_iI, i0, i1, l0_, wr_s, aup_s, and_true, true_and, and_self, eq_self, if_true, if_false, Nat.zero_le, Nat.reduceAdd, Nat.reduceLeDiff, gN_I, gN_L, gN_P, bI_0, bI_ok, z0, z1, Bool.true_eq, Bool.false_eq_true, not_true_eq_false, not_false_eq_true]
          · have c5 : ¬ (c : Int) ≤ ((K / 128 : Nat) : Int) := by omega
            refine ⟨rh h n0 G, n0 + 1, w0 + 127, A', iI 0, keep G, by omega, by omega, k3', Or.inr rfl, ?_⟩
            rw [hl]
            simp (disch := omega) only [r276_208, r276_208n, r276_210, r276_210n, r276_256, r276_256n, r276_257, r276_259, r276_260, r276_261, r276_262, r276_262n, r276_263, r276_265, r276_266, r276_267, r276_270, r276_272, r276_274, r276_275, r276_276, r276_278, r276_279, r276_282, r276_283, r276_284, r276_287, r276_289, r276_292, r276_295, r276_296, r276_297, r276_299, r276_299n, r276_301, r276_302, r276_305, r276_305n, r276_307, r276_309, r276_310, r276_311, r276_314, r276_314n, iI_sub, e1, lw_g, lc_le, eL_le, q1, e2, shr7, iI_le, c5, kl_n, kl_i, kl_r, kl_z, kl_l, kl_d, catS_0, catS_c, cat_i, cat_l, cat_d, cat_r, cat_n, kC_r, kC_x, Option.bind_some, Option.toList_some, Option.toList_none, List.cons_append, List.nil_append, gB0, gB1, gB2, gB3, gB4, rvB, nI_iI, i0, i1, l0_, wr_s, aup_s, and_true, true_and, and_self, eq_self, if_true, if_false, Nat.zero_le, Nat.reduceAdd, Nat.reduceLeDiff, gN_I, gN_L, gN_P, bI_0, bI_ok, z0, z1, Bool.true_eq, Bool.false_eq_true, not_true_eq_false, not_false_eq_true]
theorem tr_null (hN : N ≤ 2000) (hn : n ≤ N ∧ n ≤ 1000) (hp : p < n0) (hd : 20 ≤ d) : ∀ (m k : Nat) (A : Nat → Nat), n - k ≤ m → 1 ≤ k → k < n → con A 0 k → (∀ i, bd (A i)) → ∀ l9 l10 l11 l12 : Option Value,
    ∃ h' n' w' C' z, (∀ q, q < n0 → h' q = h q) ∧ (n0 ≤ n' ∧ n' ≤ n0 + 2) ∧ w' ≤ w0 + 127 + n ∧ prm 0 n A C' ∧ (z = iI 1 ∧ sor C' 0 n ∨ z = iI 0) ∧
      L d 276 19 [some .null, some (.ref p), some (.int (iI 0)), some (.int (iI n)), some .null, some (.int (iI n)), some (.int (iI 1)), some (.int (iI 0)), some (.int (iI k)), l9, l10, l11, l12] [] (lw h p N A, n0, w0, g) = some (.inl (some (.int z)), (lw h' p N C', n', w', g)) := by
  have ro : n0 ≠ p := by omega
  intro m
  induction m with
  | zero => intro k A h1 h2 h3; omega
  | succ m ih =>
    intro k A hm hk1 hk hc hA l9 l10 l11 l12
    rcases cl_19 (d := d) (h := h) (r := (n0, w0, g)) (p := p) (N := N) (n := n) (l0 := some .null) (l2 := some (.int (iI 0))) (l3 := some (.int (iI n))) (l4 := some .null) (l6 := some (.int (iI 1))) (A := A) (a := 0) (k := k) hN hn.1 hA (by omega) (Nat.zero_le _) hc l9 l10 l11 l12 with ⟨K, v9, v10, v11, v12, k1, k2, k3, hl⟩ | ⟨K, A', v9, v10, v11, v12, k1, k2, k3, k4, hl⟩
    · obtain ⟨h', n', w', C', z, z1, z2, z3, z4, z5, hl2⟩ := ih K A (by omega) (by omega) k2 k3 hA v9 v10 v11 v12
      exact ⟨h', n', w', C', z, z1, z2, z3, z4, z5, by rw [show (iI ((0 : Nat) : Int) : Int32) = iI 0 from rfl] at hl; rw [hl, hl2]⟩
    · have bA' := prm_bd k3 hA
      have k3' := prm_m k3 (Nat.le_refl _) k2
      rw [show (iI ((0 : Nat) : Int) : Int32) = iI 0 from rfl] at hl
      by_cases q1 : K = n
      · subst q1
        refine ⟨h, n0, w0, A', iI 1, fun _ _ => rfl, by omega, by omega, k3', Or.inl ⟨rfl, k4⟩, ?_⟩
        rw [hl]
        simp (disch := omega) only [r276_208, r276_208n, r276_210, r276_210n, r276_213, r276_215, r276_217, r276_220, r276_221, iI_eq, kl_n, kl_i, kl_r, kl_z, kl_l, kl_d, catS_0, catS_c, cat_i, cat_l, cat_d, cat_r, cat_n, kC_r, kC_x, Option.bind_some, Option.toList_some, Option.toList_none, List.cons_append, List.nil_append, gB0, gB1, gB2, gB3, gB4, rvB, nI_iI, i0, i1, l0_, wr_s, aup_s, and_true, true_and, and_self, eq_self, if_true, if_false, Nat.zero_le, Nat.reduceAdd, Nat.reduceLeDiff, gN_I, gN_L, gN_P, bI_0, bI_ok, z0, z1, Bool.true_eq, Bool.false_eq_true, not_true_eq_false, not_false_eq_true]
      · have c1 : ¬ (K : Int) = n := by omega
        have e2 : (K : Int) - 0 = (K : Int) := Int.sub_zero _
        by_cases q2 : K < 16
        · have c2 : ¬ (16 : Int) ≤ K := by omega
          refine ⟨h, n0, w0, A', iI 0, fun _ _ => rfl, by omega, by omega, k3', Or.inr rfl, ?_⟩
          rw [hl]
          simp (disch := omega) only [r276_208, r276_208n, r276_210, r276_210n, r276_213, r276_215, r276_217, r276_220, r276_221, r276_222, r276_224, r276_225, r276_226, r276_228, r276_231, r276_232, iI_eq, c1, iI_sub, e2, iI_le, c2, kl_n, kl_i, kl_r, kl_z, kl_l, kl_d, catS_0, catS_c, cat_i, cat_l, cat_d, cat_r, cat_n, kC_r, kC_x, Option.bind_some, Option.toList_some, Option.toList_none, List.cons_append, List.nil_append, gB0, gB1, gB2, gB3, gB4, rvB, nI_iI, i0, i1, l0_, wr_s, aup_s, and_true, true_and, and_self, eq_self, if_true, if_false, Nat.zero_le, Nat.reduceAdd, Nat.reduceLeDiff, gN_I, gN_L, gN_P, bI_0, bI_ok, z0, z1, Bool.true_eq, Bool.false_eq_true, not_true_eq_false, not_false_eq_true]
        · have c2 : (16 : Int) ≤ K := by omega
          have o1 : iI 0 ||| iI 127 = iI 127 := by decide
          have o2 : iI 127 &&& iI 1023 = iI 127 := by decide
          have o3 : (iI 127).toNatClampNeg = 127 := by decide
          have o4 : ¬ (iI 127 < iI 0 ∨ 60000000 < 127) := by decide
          have nw : aup (lw h p N A') n0 (aI .int 127 (fun _ => iI 0)) = lw (rh h n0 (fun _ => 0)) p N A' := lw_n ro
          have s0 := rr_s (h := h) (p := p) (N := N) (ro := n0) (G := fun _ => 0) (A := A') (j := 0) (x := 0) ro (by omega)
          rw [show ((0 : Nat) : Int) = 0 from rfl] at s0
          have s1 := rr_s (h := h) (p := p) (N := N) (ro := n0) (G := upN (fun _ => 0) 0 0) (A := A') (j := 1) (x := K) ro (by omega)
          rw [show ((1 : Nat) : Int) = 1 from rfl] at s1
          have hR : RI A' (upN (upN (fun _ => 0) 0 0) 1 K) 1 K K n := by
            refine ⟨by omega, rfl, fun i j h1 h2 => ?_, rfl, fun j hj => ?_, by omega, fun i j h1 h2 => by omega, Or.inr rfl⟩
            · obtain rfl : j = 1 := by omega
              obtain rfl : i = 0 := by omega
              show 0 < K
              omega
            · obtain rfl : j = 0 := by omega
              exact k4
          obtain ⟨h', n', w', C', z, z1, z2, z3, z4, z5, hl2⟩ := tr_run (d := d) (n0 := n0) (w0 := w0) (g := g) (h := h) (p := p) (N := N) (n := n) hN hn hp hd (n - K) K K 1 A' (upN (upN (fun _ => 0) 0 0) 1 K) (Nat.le_refl _) hR bA' v9 v10 v11 v12
          rw [show ((1 : Nat) : Int) = 1 from rfl] at hl2
          refine ⟨h', n', w', C', z, z1, z2, z3, prm_t k3' z4, z5, ?_⟩
          rw [hl]
          simp (disch := omega) only [r276_208, r276_208n, r276_210, r276_210n, r276_213, r276_215, r276_217, r276_220, r276_221, r276_222, r276_224, r276_225, r276_226, r276_228, r276_231, r276_232, r276_233, r276_234, r276_236, r276_237, r276_239, r276_240, r276_243, r276_244, iI_eq, c1, iI_sub, e2, iI_le, c2, shr10, o1, o2, o3, o4, nw, kl_n, kl_i, kl_r, kl_z, kl_l, kl_d, catS_0, catS_c, cat_i, cat_l, cat_d, cat_r, cat_n, kC_r, kC_x, Option.bind_some, Option.toList_some, Option.toList_none, List.cons_append, List.nil_append, gB0, gB1, gB2, gB3, gB4, rvB, nI_iI, i0, i1, l0_, wr_s, aup_s, and_true, true_and, and_self, eq_self, if_true, if_false, Nat.zero_le, Nat.reduceAdd, Nat.reduceLeDiff, gN_I, gN_L, gN_P, bI_0, bI_ok, z0, z1, Bool.true_eq, Bool.false_eq_true, not_true_eq_false, not_false_eq_true]
          simp (disch := omega) only [r276_246, r276_246n, r276_248, r276_248n, r276_250, r276_251, r276_252, r276_253, s0, rr_u ro, kl_n, kl_i, kl_r, kl_z, kl_l, kl_d, catS_0, catS_c, cat_i, cat_l, cat_d, cat_r, cat_n, kC_r, kC_x, Option.bind_some, Option.toList_some, Option.toList_none, List.cons_append, List.nil_append, gB0, gB1, gB2, gB3, gB4, rvB, nI_iI, i0, i1, l0_, wr_s, aup_s, and_true, true_and, and_self, eq_self, if_true, if_false, Nat.zero_le, Nat.reduceAdd, Nat.reduceLeDiff, gN_I, gN_L, gN_P, bI_0, bI_ok, z0, z1, Bool.true_eq, Bool.false_eq_true, not_true_eq_false, not_false_eq_true]
          simp (disch := omega) only [r276_316, r276_316n, r276_318, r276_320, r276_322i, r276_322, r276_323, r276_325, r276_326, s1, rr_u ro, hl2, kl_n, kl_i, kl_r, kl_z, kl_l, kl_d, catS_0, catS_c, cat_i, cat_l, cat_d, cat_r, cat_n, kC_r, kC_x, Option.bind_some, Option.toList_some, Option.toList_none, List.cons_append, List.nil_append, gB0, gB1, gB2, gB3, gB4, rvB, nI_iI, i0, i1, l0_, wr_s, aup_s, and_true, true_and, and_self, eq_self, if_true, if_false, Nat.zero_le, Nat.reduceAdd, Nat.reduceLeDiff, gN_I, gN_L, gN_P, bI_0, bI_ok, z0, z1, Bool.true_eq, Bool.false_eq_true, not_true_eq_false, not_false_eq_true]
theorem s_tryRuns {A : Nat → Nat} (hN : N ≤ 2000) (hn : n ≤ N ∧ n ≤ 1000 ∧ 2 ≤ n) (hp : p < n0) (hd : 20 ≤ d) (hA : ∀ i, bd (A i)) : ∃ h' n' w' C' z, (∀ q, q < n0 → h' q = h q) ∧ (n0 ≤ n' ∧ n' ≤ n0 + 2) ∧ w' ≤ w0 + 127 + n ∧ prm 0 n A C' ∧ (z = iI 1 ∧ sor C' 0 n ∨ z = iI 0) ∧
    aE (d + 1) 276 [.null, .ref p, .int (iI 0), .int (iI n)] (lw h p N A, n0, w0, g) = some (.inl (some (.int z)), (lw h' p N C', n', w', g)) := by
  obtain ⟨h', n', w', C', z, z1, z2, z3, z4, z5, hl⟩ := tr_null (d := d) (n0 := n0) (w0 := w0) (g := g) (h := h) (p := p) (N := N) (n := n) hN ⟨hn.1, hn.2.1⟩ hp hd n 1 A (by omega) (Nat.le_refl _) (by omega) (fun i j h1 h2 h3 h4 => by
    obtain rfl : i = 0 := by omega
    obtain rfl : j = 0 := by omega
    rfl) hA none none none none
  rw [show ((1 : Nat) : Int) = 1 from rfl] at hl
  refine ⟨h', n', w', C', z, z1, z2, z3, z4, z5, ?_⟩
  have e1 : (0 : Int) + n = (n : Int) := by omega
  have e2 : (0 : Int) + 1 = 1 := by omega
  rw [e276]
  simp (disch := omega) only [r276_0, r276_1, r276_1n, r276_3, r276_4, r276_5, r276_6, r276_8, r276_9, r276_11, r276_12, r276_14, r276_15, r276_16, r276_17, iI_add, e1, e2, hl, kl_n, kl_i, kl_r, kl_z, kl_l, kl_d, catS_0, catS_c, cat_i, cat_l, cat_d, cat_r, cat_n, kC_r, kC_x, Option.bind_some, Option.toList_some, Option.toList_none, List.cons_append, List.nil_append, gB0, gB1, gB2, gB3, gB4, rvB, nI_iI, i0, i1, l0_, wr_s, aup_s, and_true, true_and, and_self, eq_self, if_true, if_false, Nat.zero_le, Nat.reduceAdd, Nat.reduceLeDiff, gN_I, gN_L, gN_P, bI_0, bI_ok, z0, z1, Bool.true_eq, Bool.false_eq_true, not_true_eq_false, not_false_eq_true]
/-- the library's sort -/
theorem s_sortJ {A : Nat → Nat} (hN : N ≤ 2000) (hn : n ≤ N ∧ n ≤ 1000) (hp : p < n0) (hd : 80 ≤ d) (hA : ∀ i, bd (A i)) : ∃ n' w' C', (n0 ≤ n' ∧ n' ≤ n0 + 2) ∧ w' ≤ w0 + 127 + n ∧ prm 0 n A C' ∧ sor C' 0 n ∧
    aE d 272 [.ref p, .int (iI 0), .int (iI n)] (lw h p N A, n0, w0, g) = some (.inl none, (lw h p N C', n', w', g)) := by
  obtain ⟨d, rfl⟩ : ∃ d', d = d' + 4 := ⟨d - 4, by omega⟩
  have e0 : (n : Int) - 0 = (n : Int) := Int.sub_zero _
  have e3 : 65 + (0 : Int) = 65 := by omega
  have an : iI 0 &&& iI 1 = iI 0 := by decide
  have rc := s_rangeCheck (d := d + 2) (h := lw h p N A) (N := N) (a := 0) (b := n) (r := (n0, w0, g)) (Nat.zero_le _) hn.1 (by omega)
  rw [show ((0 : Nat) : Int) = 0 from rfl] at rc
  have core : ∃ h' n' w' C', (∀ q, q < n0 → h' q = h q) ∧ (n0 ≤ n' ∧ n' ≤ n0 + 2) ∧ w' ≤ w0 + 127 + n ∧ prm 0 n A C' ∧ sor C' 0 n ∧
      L (d + 1) 279 0 [some .null, some (.ref p), some (.int (iI 0)), some (.int (iI 0)), some (.int (iI n)), none, none, none, none, none, none, none, none, none, none, none, none, none, none, none, none, none, none, none, none] [] (lw h p N A, n0, w0, g) = some (.inl none, (lw h' p N C', n', w', g)) := by
    have k46 : L (d + 1) 279 0 [some .null, some (.ref p), some (.int (iI 0)), some (.int (iI 0)), some (.int (iI n)), none, none, none, none, none, none, none, none, none, none, none, none, none, none, none, none, none, none, none, none] [] (lw h p N A, n0, w0, g) =
        L (d + 1) 279 46 [some .null, some (.ref p), some (.int (iI 0)), some (.int (iI 0)), some (.int (iI n)), some (.int (iI ((n : Int) - 1))), some (.int (iI n)), none, none, none, none, none, none, none, none, none, none, none, none, none, none, none, none, none, none] [] (lw h p N A, n0, w0, g) := by
      rw [r279_0]
      by_cases g1 : 65 ≤ n
      · have c1 : (65 : Int) ≤ n := by omega
        simp (disch := omega) only [r279_2, r279_3, r279_4, r279_6, r279_8, r279_9, r279_10, r279_12, r279_14, r279_16, r279_17, r279_18, r279_21, r279_22, r279_23, r279_24, r279_27, r279_27n, r279_28, r279_29, r279_31, r279_32, r279_34, r279_35, r279_36, r279_37, r279_38, r279_39, r279_40, r279_42, r279_45, iI_sub, e0, iI_add, e3, iI_le, c1, kl_n, kl_i, kl_r, kl_z, kl_l, kl_d, catS_0, catS_c, cat_i, cat_l, cat_d, cat_r, cat_n, kC_r, kC_x, Option.bind_some, Option.toList_some, Option.toList_none, List.cons_append, List.nil_append, gB0, gB1, gB2, gB3, gB4, rvB, nI_iI, i0, i1, l0_, wr_s, aup_s, and_true, true_and, and_self, eq_self, if_true, if_false, Nat.zero_le, Nat.reduceAdd, Nat.reduceLeDiff, gN_I, gN_L, gN_P, bI_0, bI_ok, z0, z1, Bool.true_eq, Bool.false_eq_true, not_true_eq_false, not_false_eq_true]
      · have c1 : ¬ (65 : Int) ≤ n := by omega
        simp (disch := omega) only [r279_2, r279_3, r279_4, r279_6, r279_8, r279_9, r279_10, r279_12, r279_14, r279_16, r279_17, r279_18, r279_21, r279_22, r279_23, r279_24, r279_27, r279_27n, r279_28, r279_29, r279_31, r279_32, r279_34, r279_35, r279_36, r279_37, r279_38, r279_39, r279_40, r279_42, r279_45, iI_sub, e0, iI_add, e3, iI_le, c1, an, Int.le_refl, kl_n, kl_i, kl_r, kl_z, kl_l, kl_d, catS_0, catS_c, cat_i, cat_l, cat_d, cat_r, cat_n, kC_r, kC_x, Option.bind_some, Option.toList_some, Option.toList_none, List.cons_append, List.nil_append, gB0, gB1, gB2, gB3, gB4, rvB, nI_iI, i0, i1, l0_, wr_s, aup_s, and_true, true_and, and_self, eq_self, if_true, if_false, Nat.zero_le, Nat.reduceAdd, Nat.reduceLeDiff, gN_I, gN_L, gN_P, bI_0, bI_ok, z0, z1, Bool.true_eq, Bool.false_eq_true, not_true_eq_false, not_false_eq_true]
    by_cases q2 : n < 44
    · have c3 : ¬ (44 : Int) ≤ n := by omega
      obtain ⟨C', p1, s1, hl⟩ := s_isort (d := d) (h := h) (r := (n0, w0, g)) (p := p) (lo := 0) (hi := n) (C := A) hN (by omega) hA
      rw [show ((0 : Nat) : Int) = 0 from rfl] at hl
      refine ⟨h, n0, w0, C', fun _ _ => rfl, by omega, by omega, p1, s1, ?_⟩
      rw [k46]
      simp (disch := omega) only [r279_46, r279_48, r279_50, r279_53, r279_53n, r279_54, r279_55, r279_57, r279_60, iI_le, c3, hl, kl_n, kl_i, kl_r, kl_z, kl_l, kl_d, catS_0, catS_c, cat_i, cat_l, cat_d, cat_r, cat_n, kC_r, kC_x, Option.bind_some, Option.toList_some, Option.toList_none, List.cons_append, List.nil_append, gB0, gB1, gB2, gB3, gB4, rvB, nI_iI, i0, i1, l0_, wr_s, aup_s, and_true, true_and, and_self, eq_self, if_true, if_false, Nat.zero_le, Nat.reduceAdd, Nat.reduceLeDiff, gN_I, gN_L, gN_P, bI_0, bI_ok, z0, z1, Bool.true_eq, Bool.false_eq_true, not_true_eq_false, not_false_eq_true]
    · have c3 : (44 : Int) ≤ n := by omega
      obtain ⟨h', n', w', C1, z, z1, z2, z3, z4, z5, hl⟩ := s_tryRuns (d := d) (n0 := n0) (w0 := w0) (g := g) (h := h) (p := p) (N := N) (n := n) hN (by omega) hp (by omega) hA
      rcases z5 with ⟨rfl, z6⟩ | rfl
      · refine ⟨h', n', w', C1, z1, z2, z3, z4, z6, ?_⟩
        rw [k46]
        simp (disch := omega) only [r279_46, r279_48, r279_50, r279_53, r279_53n, r279_54, r279_55, r279_57, r279_60, r279_61, r279_62, r279_65, r279_67, r279_70, r279_73, r279_74, r279_75, r279_76, r279_79, r279_79n, r279_80, r279_80n, r279_81, r279_82, r279_84, r279_87, r279_90, iI_le, c3, iI_eq, hl, kl_n, kl_i, kl_r, kl_z, kl_l, kl_d, catS_0, catS_c, cat_i, cat_l, cat_d, cat_r, cat_n, kC_r, kC_x, Option.bind_some, Option.toList_some, Option.toList_none, List.cons_append, List.nil_append, gB0, gB1, gB2, gB3, gB4, rvB, nI_iI, i0, i1, l0_, wr_s, aup_s, and_true, true_and, and_self, eq_self, if_true, if_false, Nat.zero_le, Nat.reduceAdd, Nat.reduceLeDiff, gN_I, gN_L, gN_P, bI_0, bI_ok, z0, z1, Bool.true_eq, Bool.false_eq_true, not_true_eq_false, not_false_eq_true]
        simp (disch := omega) only [iI_eq, show ¬ (1 : Int) = 0 by omega, r279_87, r279_90, kl_n, kl_i, kl_r, kl_z, kl_l, kl_d, catS_0, catS_c, cat_i, cat_l, cat_d, cat_r, cat_n, kC_r, kC_x, Option.bind_some, Option.toList_some, Option.toList_none, List.cons_append, List.nil_append, gB0, gB1, gB2, gB3, gB4, rvB, nI_iI, i0, i1, l0_, wr_s, aup_s, and_true, true_and, and_self, eq_self, if_true, if_false, Nat.zero_le, Nat.reduceAdd, Nat.reduceLeDiff, gN_I, gN_L, gN_P, bI_0, bI_ok, z0, z1, Bool.true_eq, Bool.false_eq_true, not_true_eq_false, not_false_eq_true]
      · obtain ⟨e, he⟩ : ∃ e, n = e + 1 := ⟨n - 1, by omega⟩
        subst he
        obtain ⟨C', p1, s1, hl2⟩ := sr_91 (h := h') (r := (n', w', g)) (p := p) (N := N) (m := e + 1) (d := d + 1) (b := 0) (lo := 0) (e := e) (sz := e + 1) (C := C1) (sr_all hN (e + 1)) hN (by omega) (by omega) hn.1 (by omega) (fun z => by omega) (prm_bd z4 hA) none none none none none none none none none none none none none none none none none none
        rw [show ((0 : Nat) : Int) = 0 from rfl] at hl2
        refine ⟨h', n', w', C', z1, z2, z3, prm_t z4 p1, s1, ?_⟩
        have e5 : ((e + 1 : Nat) : Int) - 1 = (e : Int) := by omega
        rw [k46]
        simp (disch := omega) only [r279_46, r279_48, r279_50, r279_53, r279_53n, r279_54, r279_55, r279_57, r279_60, r279_61, r279_62, r279_65, r279_67, r279_70, r279_73, r279_74, r279_75, r279_76, r279_79, r279_79n, r279_80, r279_80n, r279_81, r279_82, r279_84, r279_87, r279_90, iI_le, c3, iI_eq, hl, e5, hl2, kl_n, kl_i, kl_r, kl_z, kl_l, kl_d, catS_0, catS_c, cat_i, cat_l, cat_d, cat_r, cat_n, kC_r, kC_x, Option.bind_some, Option.toList_some, Option.toList_none, List.cons_append, List.nil_append, gB0, gB1, gB2, gB3, gB4, rvB, nI_iI, i0, i1, l0_, wr_s, aup_s, and_true, true_and, and_self, eq_self, if_true, if_false, Nat.zero_le, Nat.reduceAdd, Nat.reduceLeDiff, gN_I, gN_L, gN_P, bI_0, bI_ok, z0, z1, Bool.true_eq, Bool.false_eq_true, not_true_eq_false, not_false_eq_true]
  obtain ⟨h', n', w', C', z1, z2, z3, z4, z5, hl⟩ := core
  refine ⟨n', w', C', z2, z3, z4, z5, ?_⟩
  have hL : L (d + 3) 272 0 [some (.ref p), some (.int (iI 0)), some (.int (iI n))] [] (lw h p N A, n0, w0, g) = some (.inl none, (lw h' p N C', n', w', g)) := by
    have gn : gN (lw h p N A p) = some N := by
      rw [lw_at]
      rfl
    have c6 : (0 : Int) ≤ 1 := by omega
    simp (disch := omega) only [r272_0, r272_1, r272_2, r272_3, r272_4, r272_7, r272_8, r272_9, r272_10, r272_11, r272_14, gn, rc, e280, r280_0, r280_1, r280_2, r280_3, r280_5, r280_6, r280_7, r280_10, r280_12, r280_15, r280_18, r280_19, r280_21, r280_23, r280_27, r280_29, r280_31, r280_34, r280_35, r280_38, r280_40, r280_42, r280_42n, r280_47i, r280_47, r280_48, r280_49, r280_49n, r280_50, r280_50n, r280_52, r280_53, r280_55, r280_56, r280_64i, r280_64, r280_65, r280_68, r280_69, r280_69n, r280_70, r280_71, r280_72, r280_73, r280_76, iI_sub, e0, iI_le, c6, e279, hl, kl_n, kl_i, kl_r, kl_z, kl_l, kl_d, catS_0, catS_c, cat_i, cat_l, cat_d, cat_r, cat_n, kC_r, kC_x, Option.bind_some, Option.toList_some, Option.toList_none, List.cons_append, List.nil_append, gB0, gB1, gB2, gB3, gB4, rvB, nI_iI, i0, i1, l0_, wr_s, aup_s, and_true, true_and, and_self, eq_self, if_true, if_false, Nat.zero_le, Nat.reduceAdd, Nat.reduceLeDiff, gN_I, gN_L, gN_P, bI_0, bI_ok, z0, z1, Bool.true_eq, Bool.false_eq_true, not_true_eq_false, not_false_eq_true]
  rw [e272, hL]
  refine congrArg some (congrArg (Prod.mk _) (congrArg (fun z => (z, n', w', g)) ?_))
  funext q
  show (if q < n0 then lw h' p N C' q else lw h p N A q) = lw h p N C' q
  unfold lw aup
  by_cases e : q < n0
  · rw [if_pos e]
    by_cases e2 : q = p
    · rw [if_pos e2, if_pos e2]
    · rw [if_neg e2, if_neg e2, z1 q e]
  · rw [if_neg e, if_neg (by omega), if_neg (by omega)]
end
