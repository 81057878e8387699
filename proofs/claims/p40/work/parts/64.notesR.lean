/-! ===== notes are in their order and bounds ===== -/
theorem rg_aupo {h : aHf} {b n q : Nat} {C : Nat → aC} {v : aC} (hb : q < b ∨ b + n ≤ q) : aup (rgW h b n C) q v = rgW (aup h q v) b n C := by
  funext z
  unfold aup rgW
  by_cases e : z = q
  · rw [if_pos e, if_neg (by omega)]
    exact (if_pos e).symm
  · rw [if_neg e]
    by_cases e2 : b ≤ z ∧ z < b + n
    · rw [if_pos e2, if_pos e2]
    · rw [if_neg e2, if_neg e2]
      exact (if_neg e).symm
/-- in which order a note's facts are looked at -/
def byN : Nat → Nat
  | 0 => 0
  | 1 => 1
  | 2 => 3
  | 3 => 2
  | _ => 4
def byF : Nat → Int32 := upd (upd (upd (upd (upd (fun _ => iI 0) (0 : Int).toNat (iI 0)) (1 : Int).toNat (iI 1)) (2 : Int).toNat (iI 3)) (3 : Int).toNat (iI 2)) (4 : Int).toNat (iI 4)
theorem byF_e : ∀ j : Nat, j < 5 → byF ((j : Int).toNat) = iI (byN j)
  | 0, _ => rfl
  | 1, _ => rfl
  | 2, _ => rfl
  | 3, _ => rfl
  | 4, _ => rfl
  | j + 5, h => by omega
theorem byN_b : ∀ j : Nat, byN j ≤ 4
  | 0 => by decide
  | 1 => by decide
  | 2 => by decide
  | 3 => by decide
  | j + 4 => by show 4 ≤ 4; omega
/-- the first facts alike, the next one is not less -/
theorem fld_le {c e : Nat} (h : c ≤ e) : ∀ j, j < 5 → (∀ i, i < j → cFact c (byN i) = cFact e (byN i)) → cFact c (byN j) ≤ cFact e (byN j)
  | 0, _, _ => by
    show cT c ≤ cT e
    unfold cT
    omega
  | 1, _, q => by
    have q0 : cT c = cT e := q 0 (by omega)
    show cS c ≤ cS e
    unfold cT at q0
    unfold cS
    omega
  | 2, _, q => by
    have q0 : cT c = cT e := q 0 (by omega)
    have q1 : cS c = cS e := q 1 (by omega)
    show cP c ≤ cP e
    unfold cT at q0
    unfold cS at q1
    unfold cP
    omega
  | 3, _, q => by
    have q0 : cT c = cT e := q 0 (by omega)
    have q1 : cS c = cS e := q 1 (by omega)
    have q2 : cP c = cP e := q 2 (by omega)
    show cL c ≤ cL e
    unfold cT at q0
    unfold cS at q1
    unfold cP at q2
    unfold cL
    omega
  | 4, _, q => by
    have q0 : cT c = cT e := q 0 (by omega)
    have q1 : cS c = cS e := q 1 (by omega)
    have q2 : cP c = cP e := q 2 (by omega)
    have q3 : cL c = cL e := q 3 (by omega)
    show cF c ≤ cF e
    unfold cT at q0
    unfold cS at q1
    unfold cP at q2
    unfold cL at q3
    unfold cF
    omega
  | j + 5, h, _ => by omega
theorem cl_1 {F : Nat → Nat} {i : Nat} : ∀ n, sm (fun j => if i < j then cl1 F i j else 0) n ≤ n - 1 - i
  | 0 => Nat.zero_le _
  | n + 1 => by
    have ih := cl_1 (F := F) (i := i) n
    have c1 : cl1 F i n ≤ 1 := by
      unfold cl1
      split <;> omega
    show sm _ n + (if i < n then cl1 F i n else 0) ≤ n + 1 - 1 - i
    split <;> omega
theorem sm_m2 {f g : Nat → Nat} (h : ∀ i, f i ≤ g i) : ∀ k, sm f k ≤ sm g k := sm_mono h
theorem cl_60 : ∀ n : Fin 61, sm (fun i => n.val - 1 - i) n.val ≤ n.val * (n.val - 1) / 2 := by decide +kernel
theorem cl_b {F : Nat → Nat} {n : Nat} (hn : n ≤ 60) : sm (cl2 F n) n ≤ n * (n - 1) / 2 := Nat.le_trans (sm_mono (fun i => cl_1 n) n) (cl_60 ⟨n, by omega⟩)
section
variable {d n w : Nat} {g : Nat × Nat} {h : aHf} {x : Nat} {W : Dk}
theorem nr_start (hx : x + 404 ≤ n) : L (d + 12) 5 0 [some (.ref x), none, none, none] [] (dkW h x W, n, w, g) = L (d + 12) 5 26 [some (.ref x), some (.ref n), some (.int (iI 0)), none] [] (dkW (aup h n (aI .int 5 byF)) x W, n + 1, w + 5, g) := by
  have c1 : (iI 5).toNatClampNeg = 5 := by decide
  have c2 : (iI 5 < iI 0 ∨ 60000000 < 5) = False := by decide
  have hh : aup (dkW h x W) n (aI .int 5 byF) = dkW (aup h n (aI .int 5 byF)) x W := rg_aupo (by omega)
  rw [← hh]
  simp (disch := omega) only [r5_0, r5_1, r5_3i, r5_3, r5_4, r5_5, r5_6, r5_7i, r5_7, r5_8, r5_9, r5_10, r5_11i, r5_11, r5_12, r5_13, r5_14, r5_15i, r5_15, r5_16, r5_17, r5_18, r5_19i, r5_19, r5_20, r5_21, r5_22, r5_23, r5_24, r5_25, c1, c2, sI_I, aup_u, kl_n, kl_i, kl_r, kl_z, kl_l, kl_d, catS_0, catS_c, cat_i, cat_l, cat_d, cat_r, cat_n, kC_r, kC_x, Option.bind_some, Option.toList_some, Option.toList_none, List.cons_append, List.nil_append, gB0, gB1, gB2, gB3, gB4, rvB, nI_iI, i0, i1, l0_, wr_s, aup_s, and_true, true_and, and_self, eq_self, if_true, if_false, Nat.zero_le, Nat.reduceAdd, Nat.reduceLeDiff, gN_I, gN_L, gN_P, bI_0, bI_ok, z0, z1, Bool.true_eq, Bool.false_eq_true, not_true_eq_false, not_false_eq_true]
  rfl
theorem nr_n {h0 : aHf} (hx : x + 404 ≤ n) : dkW (aup h0 n (aI .int 5 byF)) x W n = some (aI .int 5 byF) := (rg_o (by omega)).trans aup_s
/-- the facts of a note and of the one ahead of it are looked at -/
theorem nr_what {k : Nat} {n' w' : Nat} (hI : Inv W) (hx : x + 404 ≤ n) (hk : k < W.1.1.1) : ∀ m v : Nat, v + m = 5 → (0 < k → ∀ i, i < v → cFact (W.1.1.2 (k - 1)) (byN i) = cFact (W.1.1.2 k) (byN i)) →
    ∃ l3, L (d + 12) 5 122 [some (.ref x), some (.ref n), some (.int (iI k)), some (.int (iI v))] [] (dkW (aup h n (aI .int 5 byF)) x W, n', w', g) = L (d + 12) 5 190 [some (.ref x), some (.ref n), some (.int (iI k)), l3] [] (dkW (aup h n (aI .int 5 byF)) x W, n', w', g) := by
  have hO := Inv_ok hI
  have m60 := hI.1.1.1
  have hn := nr_n (h0 := h) (W := W) hx
  intro m
  induction m with
  | zero =>
    intro v hv _
    obtain rfl : v = 5 := by omega
    have c5 : (5 : Int) ≤ ((5 : Nat) : Int) := by omega
    by_cases k0 : (k : Int) ≤ 0
    · exact ⟨some (.int (iI ((5 : Nat) : Int))), by simp (disch := omega) only [r5_122, r5_123, r5_126, r5_127, r5_128, r5_131, r5_132, r5_133, r5_134, r5_135, r5_136, r5_139, r5_140, r5_141, r5_142, r5_143, r5_144, r5_145, r5_146, r5_149, r5_152, r5_155, r5_158, r5_159, r5_162, r5_163, r5_164, r5_167, r5_168, r5_169, r5_170, r5_171, r5_172, r5_175, r5_176, r5_177, r5_178, r5_179, r5_180, r5_181, r5_182, r5_185, r5_188, r5_189, iI_le, k0, c5, kl_n, kl_i, kl_r, kl_z, kl_l, kl_d, catS_0, catS_c, cat_i, cat_l, cat_d, cat_r, cat_n, kC_r, kC_x, Option.bind_some, Option.toList_some, Option.toList_none, List.cons_append, List.nil_append, gB0, gB1, gB2, gB3, gB4, rvB, nI_iI, i0, i1, l0_, wr_s, aup_s, and_true, true_and, and_self, eq_self, if_true, if_false, Nat.zero_le, Nat.reduceAdd, Nat.reduceLeDiff, gN_I, gN_L, gN_P, bI_0, bI_ok, z0, z1, Bool.true_eq, Bool.false_eq_true, not_true_eq_false, not_false_eq_true]⟩
    · exact ⟨some (.int (iI ((5 : Nat) : Int))), by simp (disch := omega) only [r5_122, r5_123, r5_126, r5_127, r5_128, r5_131, r5_132, r5_133, r5_134, r5_135, r5_136, r5_139, r5_140, r5_141, r5_142, r5_143, r5_144, r5_145, r5_146, r5_149, r5_152, r5_155, r5_158, r5_159, r5_162, r5_163, r5_164, r5_167, r5_168, r5_169, r5_170, r5_171, r5_172, r5_175, r5_176, r5_177, r5_178, r5_179, r5_180, r5_181, r5_182, r5_185, r5_188, r5_189, iI_le, k0, c5, kl_n, kl_i, kl_r, kl_z, kl_l, kl_d, catS_0, catS_c, cat_i, cat_l, cat_d, cat_r, cat_n, kC_r, kC_x, Option.bind_some, Option.toList_some, Option.toList_none, List.cons_append, List.nil_append, gB0, gB1, gB2, gB3, gB4, rvB, nI_iI, i0, i1, l0_, wr_s, aup_s, and_true, true_and, and_self, eq_self, if_true, if_false, Nat.zero_le, Nat.reduceAdd, Nat.reduceLeDiff, gN_I, gN_L, gN_P, bI_0, bI_ok, z0, z1, Bool.true_eq, Bool.false_eq_true, not_true_eq_false, not_false_eq_true]⟩
  | succ m ih =>
    intro v hv hq
    have c5 : ¬ (5 : Int) ≤ (v : Int) := by omega
    by_cases k0 : (k : Int) ≤ 0
    · exact ⟨some (.int (iI v)), by simp (disch := omega) only [r5_122, r5_123, r5_126, r5_127, r5_128, r5_131, r5_132, r5_133, r5_134, r5_135, r5_136, r5_139, r5_140, r5_141, r5_142, r5_143, r5_144, r5_145, r5_146, r5_149, r5_152, r5_155, r5_158, r5_159, r5_162, r5_163, r5_164, r5_167, r5_168, r5_169, r5_170, r5_171, r5_172, r5_175, r5_176, r5_177, r5_178, r5_179, r5_180, r5_181, r5_182, r5_185, r5_188, r5_189, iI_le, k0, c5, kl_n, kl_i, kl_r, kl_z, kl_l, kl_d, catS_0, catS_c, cat_i, cat_l, cat_d, cat_r, cat_n, kC_r, kC_x, Option.bind_some, Option.toList_some, Option.toList_none, List.cons_append, List.nil_append, gB0, gB1, gB2, gB3, gB4, rvB, nI_iI, i0, i1, l0_, wr_s, aup_s, and_true, true_and, and_self, eq_self, if_true, if_false, Nat.zero_le, Nat.reduceAdd, Nat.reduceLeDiff, gN_I, gN_L, gN_P, bI_0, bI_ok, z0, z1, Bool.true_eq, Bool.false_eq_true, not_true_eq_false, not_false_eq_true]⟩
    · have hk0 : 0 < k := by omega
      have f1 := s_note (d := d) (n := n') (w := w') (g := g) (h := aup h n (aI .int 5 byF)) (x := x) (v := byN v) hO hk (byN_b v)
      have f2 := s_note (d := d) (n := n') (w := w') (g := g) (h := aup h n (aI .int 5 byF)) (x := x) (p := k - 1) (v := byN v) hO (by omega) (byN_b v)
      rw [show ((k - 1 : Nat) : Int) = (k : Int) - 1 by omega] at f2
      have b1 := cFact_lt (hI.1.1.2.1 k) (byN v)
      have b2 := cFact_lt (hI.1.1.2.1 (k - 1)) (byN v)
      have le := fld_le (hI.1.2.2.1 (k - 1) k (Nat.zero_le _) (by omega) hk) v (by omega) (hq hk0)
      have hb := byF_e v (by omega)
      by_cases e : cFact (W.1.1.2 (k - 1)) (byN v) = cFact (W.1.1.2 k) (byN v)
      · obtain ⟨l3, z⟩ := ih (v + 1) (by omega) (fun _ i hi => by
          by_cases e2 : i = v
          · rw [e2]
            exact e
          · exact hq hk0 i (by omega))
        rw [show ((v + 1 : Nat) : Int) = (v : Int) + 1 from rfl] at z
        refine ⟨l3, ?_⟩
        rw [← z, r5_122]
        rw [e] at f2
        simp (disch := omega) only [r5_123, r5_126, r5_127, r5_128, r5_131, r5_132, r5_133, r5_134, r5_135, r5_136, r5_139, r5_140, r5_141, r5_142, r5_143, r5_144, r5_145, r5_146, r5_149, r5_152, r5_155, iI_le, k0, c5, dk_0, hn, gI_I, hb, f1, f2, iI_sub, iI_add, kl_n, kl_i, kl_r, kl_z, kl_l, kl_d, catS_0, catS_c, cat_i, cat_l, cat_d, cat_r, cat_n, kC_r, kC_x, Option.bind_some, Option.toList_some, Option.toList_none, List.cons_append, List.nil_append, gB0, gB1, gB2, gB3, gB4, rvB, nI_iI, i0, i1, l0_, wr_s, aup_s, and_true, true_and, and_self, eq_self, if_true, if_false, Nat.zero_le, Nat.reduceAdd, Nat.reduceLeDiff, gN_I, gN_L, gN_P, bI_0, bI_ok, z0, z1, Bool.true_eq, Bool.false_eq_true, not_true_eq_false, not_false_eq_true]
      · have ne : ¬ (cFact (W.1.1.2 k) (byN v) : Int) = cFact (W.1.1.2 (k - 1)) (byN v) := by omega
        have lt : ¬ (cFact (W.1.1.2 k) (byN v) : Int) < cFact (W.1.1.2 (k - 1)) (byN v) := by omega
        have ge : (cFact (W.1.1.2 (k - 1)) (byN v) : Int) ≤ cFact (W.1.1.2 k) (byN v) := by omega
        exact ⟨some (.int (iI v)), by simp (disch := omega) only [r5_122, r5_123, r5_126, r5_127, r5_128, r5_131, r5_132, r5_133, r5_134, r5_135, r5_136, r5_139, r5_140, r5_141, r5_142, r5_143, r5_144, r5_145, r5_146, r5_149, r5_152, r5_155, r5_158, r5_159, r5_162, r5_163, r5_164, r5_167, r5_168, r5_169, r5_170, r5_171, r5_172, r5_175, r5_176, r5_177, r5_178, r5_179, r5_180, r5_181, r5_182, r5_185, r5_188, r5_189, iI_le, iI_lt, iI_eq, k0, c5, dk_0, hn, gI_I, hb, f1, f2, ne, lt, ge, iI_sub, kl_n, kl_i, kl_r, kl_z, kl_l, kl_d, catS_0, catS_c, cat_i, cat_l, cat_d, cat_r, cat_n, kC_r, kC_x, Option.bind_some, Option.toList_some, Option.toList_none, List.cons_append, List.nil_append, gB0, gB1, gB2, gB3, gB4, rvB, nI_iI, i0, i1, l0_, wr_s, aup_s, and_true, true_and, and_self, eq_self, if_true, if_false, Nat.zero_le, Nat.reduceAdd, Nat.reduceLeDiff, gN_I, gN_L, gN_P, bI_0, bI_ok, z0, z1, Bool.true_eq, Bool.false_eq_true, not_true_eq_false, not_false_eq_true]⟩
theorem nr_loop {n' w' : Nat} (hI : Inv W) (hx : x + 404 ≤ n) : ∀ m k : Nat, k + m = W.1.1.1 → ∀ l3, L (d + 12) 5 26 [some (.ref x), some (.ref n), some (.int (iI k)), l3] [] (dkW (aup h n (aI .int 5 byF)) x W, n', w', g) = some (.inl (some (.int (iI 1))), (dkW (aup h n (aI .int 5 byF)) x W, n', w', g)) := by
  have hO := Inv_ok hI
  have m60 := hI.1.1.1
  intro m
  induction m with
  | zero =>
    intro k hk l3
    obtain rfl : k = W.1.1.1 := by omega
    have c1 : (W.1.1.1 : Int) ≤ W.1.1.1 := by omega
    have n0 := s_notes (d := d) (n := n') (w := w') (g := g) (h := aup h n (aI .int 5 byF)) (x := x) (W := W)
    have n1 := s_undos (d := d) (n := n') (w := w') (g := g) (h := aup h n (aI .int 5 byF)) (x := x) (W := W)
    have n2 := s_redos (d := d) (n := n') (w := w') (g := g) (h := aup h n (aI .int 5 byF)) (x := x) (W := W)
    have n3 := s_clashesD (d := d) (n := n') (w := w') (g := g) (h := aup h n (aI .int 5 byF)) (x := x) (W := W) hO
    have cb := cl_b (F := W.1.1.2) m60
    have u20 := hI.2.1.1.2.1
    have r20 := hI.2.1.1.2.2.1
    obtain ⟨Q, hQ⟩ : ∃ Q, Q = W.1.1.1 * (W.1.1.1 - 1) := ⟨_, rfl⟩
    have hQ2 : (W.1.1.1 : Int) * ((W.1.1.1 : Int) - 1) = Q := by
      rw [hQ]
      by_cases z : W.1.1.1 = 0
      · rw [z]
        rfl
      · rw [Int.natCast_mul]
        congr 1
        omega
    have hQ3 : Q ≤ 60 * 59 := by
      rw [hQ]
      exact Nat.mul_le_mul m60 (by omega)
    rw [← hQ] at cb
    generalize sm (cl2 W.1.1.2 W.1.1.1) W.1.1.1 = cc at *
    have e2 : (Q : Int) / 2 = ((Q / 2 : Nat) : Int) := rfl
    have q1 : ¬ (60 : Int) < W.1.1.1 := by omega
    have q2 : ¬ (20 : Int) < W.2.1.2.1 := by omega
    have q3 : ¬ (20 : Int) < W.2.1.2.2.1 := by omega
    have q4 : ¬ ((Q / 2 : Nat) : Int) < cc := by omega
    have d0 : ¬ (2 : Int) = 0 := by omega
    rw [r5_26]
    simp (disch := omega) only [r5_27, r5_28, r5_31, r5_196, r5_197, r5_200, r5_202, r5_205, r5_206, r5_209, r5_211, r5_214, r5_215, r5_218, r5_220, r5_223, r5_224, r5_227, r5_228, r5_231, r5_232, r5_235, r5_236, r5_237, r5_238, r5_239, r5_240, r5_243, r5_244, r5_247, r5_248, dk_0, n0, n1, n2, n3, iI_le, iI_lt, iI_eq, iI_sub, iI_mul, iI_div, hQ2, e2, d0, c1, q1, q2, q3, q4, kl_n, kl_i, kl_r, kl_z, kl_l, kl_d, catS_0, catS_c, cat_i, cat_l, cat_d, cat_r, cat_n, kC_r, kC_x, Option.bind_some, Option.toList_some, Option.toList_none, List.cons_append, List.nil_append, gB0, gB1, gB2, gB3, gB4, rvB, nI_iI, i0, i1, l0_, wr_s, aup_s, and_true, true_and, and_self, eq_self, if_true, if_false, Nat.zero_le, Nat.reduceAdd, Nat.reduceLeDiff, gN_I, gN_L, gN_P, bI_0, bI_ok, z0, z1, Bool.true_eq, Bool.false_eq_true, not_true_eq_false, not_false_eq_true]
  | succ m ih =>
    intro k hk l3
    have hk2 : k < W.1.1.1 := by omega
    have c1 : ¬ (W.1.1.1 : Int) ≤ k := by omega
    have n0 := s_notes (d := d) (n := n') (w := w') (g := g) (h := aup h n (aI .int 5 byF)) (x := x) (W := W)
    have f1 : aE (d + 12) 52 [.ref x, .int (iI k), .int (iI 1)] (dkW (aup h n (aI .int 5 byF)) x W, n', w', g) = some (.inl (some (.int (iI (cS (W.1.1.2 k) : Nat)))), (dkW (aup h n (aI .int 5 byF)) x W, n', w', g)) := s_note (v := 1) hO hk2 (by omega)
    have f2 : aE (d + 12) 52 [.ref x, .int (iI k), .int (iI 2)] (dkW (aup h n (aI .int 5 byF)) x W, n', w', g) = some (.inl (some (.int (iI (cL (W.1.1.2 k) : Nat)))), (dkW (aup h n (aI .int 5 byF)) x W, n', w', g)) := s_note (v := 2) hO hk2 (by omega)
    have f3 : aE (d + 12) 52 [.ref x, .int (iI k), .int (iI 3)] (dkW (aup h n (aI .int 5 byF)) x W, n', w', g) = some (.inl (some (.int (iI (cP (W.1.1.2 k) : Nat)))), (dkW (aup h n (aI .int 5 byF)) x W, n', w', g)) := s_note (v := 3) hO hk2 (by omega)
    have f4 : aE (d + 12) 52 [.ref x, .int (iI k), .int (iI 4)] (dkW (aup h n (aI .int 5 byF)) x W, n', w', g) = some (.inl (some (.int (iI (cF (W.1.1.2 k) : Nat)))), (dkW (aup h n (aI .int 5 byF)) x W, n', w', g)) := s_note (v := 4) hO hk2 (by omega)
    obtain ⟨v1, v2, v3, v4⟩ := hI.1.2.1 k hk2
    have p1 := cP_lt (W.1.1.2 k)
    have p2 := cF_lt (W.1.1.2 k)
    obtain ⟨l4, z⟩ := nr_what (d := d) (g := g) (h := h) (n' := n') (w' := w') hI hx hk2 5 0 (by omega) (fun _ i hi => absurd hi (Nat.not_lt_zero i))
    have z9 := ih (k + 1) (by omega) l4
    rw [show ((k + 1 : Nat) : Int) = (k : Int) + 1 from rfl] at z9
    generalize cS (W.1.1.2 k) = A1 at *
    generalize cL (W.1.1.2 k) = A2 at *
    generalize cP (W.1.1.2 k) = A3 at *
    generalize cF (W.1.1.2 k) = A4 at *
    have q1 : ¬ (A1 : Int) < 0 := by omega
    have q2 : ¬ (9599 : Int) < A1 := by omega
    have q3 : ¬ (A2 : Int) < 1 := by omega
    have q4 : ¬ (960 : Int) < A2 := by omega
    have q5 : ¬ (A3 : Int) < 0 := by omega
    have q6 : ¬ (127 : Int) < A3 := by omega
    have q7 : ¬ (A4 : Int) < 1 := by omega
    have q8 : (A4 : Int) ≤ 127 := by omega
    rw [show ((0 : Nat) : Int) = 0 from rfl] at z
    rw [r5_26]
    simp (disch := omega) only [r5_27, r5_28, r5_31, r5_34, r5_35, r5_36, r5_37, r5_40, r5_43, r5_44, r5_45, r5_46, r5_49, r5_52, r5_55, r5_56, r5_57, r5_58, r5_61, r5_62, r5_65, r5_66, r5_67, r5_68, r5_71, r5_74, r5_77, r5_78, r5_79, r5_80, r5_83, r5_86, r5_87, r5_88, r5_89, r5_92, r5_94, r5_97, r5_98, r5_99, r5_100, r5_103, r5_104, r5_107, r5_108, r5_109, r5_110, r5_113, r5_115, r5_118, r5_119, r5_120, r5_121, dk_0, n0, f1, f2, f3, f4, iI_le, iI_lt, c1, q1, q2, q3, q4, q5, q6, q7, q8, z, r5_190, r5_193, iI_add, z9, kl_n, kl_i, kl_r, kl_z, kl_l, kl_d, catS_0, catS_c, cat_i, cat_l, cat_d, cat_r, cat_n, kC_r, kC_x, Option.bind_some, Option.toList_some, Option.toList_none, List.cons_append, List.nil_append, gB0, gB1, gB2, gB3, gB4, rvB, nI_iI, i0, i1, l0_, wr_s, aup_s, and_true, true_and, and_self, eq_self, if_true, if_false, Nat.zero_le, Nat.reduceAdd, Nat.reduceLeDiff, gN_I, gN_L, gN_P, bI_0, bI_ok, z0, z1, Bool.true_eq, Bool.false_eq_true, not_true_eq_false, not_false_eq_true]
theorem s_notesR (hI : Inv W) (hx : x + 404 ≤ n) : aE (d + 13) 5 [.ref x] (dkW h x W, n, w, g) = some (.inl (some (.int (iI 1))), (dkW (aup h n (aI .int 5 byF)) x W, n + 1, w + 5, g)) := by
  have z := nr_loop (d := d) (g := g) (h := h) (n' := n + 1) (w' := w + 5) hI hx W.1.1.1 0 (by omega) none
  rw [show ((0 : Nat) : Int) = 0 from rfl] at z
  rw [e5, nr_start hx, z]
end
