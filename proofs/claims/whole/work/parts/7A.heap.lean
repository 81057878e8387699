/-! ===== the library sorts a row as a heap ===== -/
section
variable {d : Nat} {h : aHf} {r : Nat × Nat × Nat × Nat} {p N : Nat}
theorem hs_1 {lo hi : Nat} {l4 : Option Value} (hN : N ≤ 2000) (hh : hi ≤ N) : ∀ (m k : Nat) (C : Nat → Nat), k = lo + m → k ≤ hi → (∀ j, bd (C j)) → hp lo hi k C → ∃ C', prm lo hi C C' ∧ hp lo hi lo C' ∧
    L (d + 1) 278 6 [some (.ref p), some (.int (iI lo)), some (.int (iI hi)), some (.int (iI k)), l4] [] (lw h p N C, r) = L (d + 1) 278 27 [some (.ref p), some (.int (iI lo)), some (.int (iI hi)), some (.int (iI lo)), l4] [] (lw h p N C', r) := by
  intro m
  induction m with
  | zero =>
    intro k C hk hk2 hC hH
    obtain rfl : k = lo := by omega
    refine ⟨C, prm_r _ _ _, hH, ?_⟩
    rw [r278_6]
    simp (disch := omega) only [r278_0, r278_1, r278_2, r278_3, r278_4, r278_5, r278_7, r278_8, r278_11, r278_11n, r278_12, r278_15, r278_16, r278_16n, r278_17, r278_18, r278_19, r278_20, r278_21, r278_24, r278_30, r278_31, r278_32, r278_35, r278_35n, r278_36, r278_37, r278_38, r278_39, r278_39n, r278_40, r278_41, r278_41n, r278_42, r278_43, r278_44, r278_45, r278_46, r278_49, r278_49n, r278_50, r278_51, r278_52, r278_53, r278_56, iI_le, Int.le_refl, kl_n, kl_i, kl_r, kl_z, kl_l, kl_d, catS_0, catS_c, cat_i, cat_l, cat_d, cat_r, cat_n, kC_r, kC_x, Option.bind_some, Option.toList_some, Option.toList_none, List.cons_append, List.nil_append, gB0, gB1, gB2, gB3, gB4, rvB, nI_iI, i0, i1, l0_, wr_s, aup_s, and_true, true_and, and_self, eq_self, if_true, if_false, Nat.zero_le, Nat.reduceAdd, Nat.reduceLeDiff, gN_I, gN_L, gN_P, bI_0, bI_ok, z0, z1, Bool.true_eq, Bool.false_eq_true, not_true_eq_false, not_false_eq_true]
  | succ m ih =>
    intro k C hk hk2 hC hH
    obtain rfl : k = lo + m + 1 := by omega
    have c1 : ¬ ((lo + m + 1 : Nat) : Int) ≤ lo := by omega
    have e1 : ((lo + m + 1 : Nat) : Int) + -1 = ((lo + m : Nat) : Int) := by omega
    obtain ⟨C1, p1, s1, hl⟩ := s_pushDown (d := d) (h := h) (r := r) (p := p) (lo := lo) (hi := hi) (s := lo + m) (f := lo + m) (x := C (lo + m)) (C := C) hN (by omega) (by omega) (hC _) hC
      ⟨fun q c h1 h2 h3 h4 _ => hH q c (by omega) h3 h4, fun q h1 h2 => by omega⟩
    rw [upN_id] at p1
    obtain ⟨C', p2, s2, hl2⟩ := ih (lo + m) C1 rfl (by omega) (prm_bd p1 hC) s1
    refine ⟨C', prm_t p1 p2, s2, ?_⟩
    rw [r278_6]
    simp (disch := omega) only [r278_0, r278_1, r278_2, r278_3, r278_4, r278_5, r278_7, r278_8, r278_11, r278_11n, r278_12, r278_15, r278_16, r278_16n, r278_17, r278_18, r278_19, r278_20, r278_21, r278_24, r278_30, r278_31, r278_32, r278_35, r278_35n, r278_36, r278_37, r278_38, r278_39, r278_39n, r278_40, r278_41, r278_41n, r278_42, r278_43, r278_44, r278_45, r278_46, r278_49, r278_49n, r278_50, r278_51, r278_52, r278_53, r278_56, iI_le, c1, iI_add, e1, lw_g, hl, hl2, kl_n, kl_i, kl_r, kl_z, kl_l, kl_d, catS_0, catS_c, cat_i, cat_l, cat_d, cat_r, cat_n, kC_r, kC_x, Option.bind_some, Option.toList_some, Option.toList_none, List.cons_append, List.nil_append, gB0, gB1, gB2, gB3, gB4, rvB, nI_iI, i0, i1, l0_, wr_s, aup_s, and_true, true_and, and_self, eq_self, if_true, if_false, Nat.zero_le, Nat.reduceAdd, Nat.reduceLeDiff, gN_I, gN_L, gN_P, bI_0, bI_ok, z0, z1, Bool.true_eq, Bool.false_eq_true, not_true_eq_false, not_false_eq_true]
theorem hs_2 {lo hi : Nat} (hN : N ≤ 2000) (hh : hi ≤ N) : ∀ (m e : Nat) (C : Nat → Nat), e ≤ lo + m → lo ≤ e → e ≤ hi → (∀ j, bd (C j)) → hp lo e lo C → sor C e hi → (∀ i j, lo ≤ i → i < e → e ≤ j → j < hi → C i ≤ C j) → ∀ l3 l4 : Option Value, ∃ C', prm lo hi C C' ∧ sor C' lo hi ∧
    L (d + 1) 278 27 [some (.ref p), some (.int (iI lo)), some (.int (iI e)), l3, l4] [] (lw h p N C, r) = some (.inl none, (lw h p N C', r)) := by
  intro m
  induction m with
  | zero =>
    intro e C he he1 he2 hC hH hs hb l3 l4
    obtain rfl : e = lo := by omega
    have c1 : (e : Int) + -1 ≤ e := by omega
    refine ⟨C, prm_r _ _ _, hs, ?_⟩
    rw [r278_27]
    simp (disch := omega) only [r278_0, r278_1, r278_2, r278_3, r278_4, r278_5, r278_7, r278_8, r278_11, r278_11n, r278_12, r278_15, r278_16, r278_16n, r278_17, r278_18, r278_19, r278_20, r278_21, r278_24, r278_30, r278_31, r278_32, r278_35, r278_35n, r278_36, r278_37, r278_38, r278_39, r278_39n, r278_40, r278_41, r278_41n, r278_42, r278_43, r278_44, r278_45, r278_46, r278_49, r278_49n, r278_50, r278_51, r278_52, r278_53, r278_56, iI_add, iI_le, c1, kl_n, kl_i, kl_r, kl_z, kl_l, kl_d, catS_0, catS_c, cat_i, cat_l, cat_d, cat_r, cat_n, kC_r, kC_x, Option.bind_some, Option.toList_some, Option.toList_none, List.cons_append, List.nil_append, gB0, gB1, gB2, gB3, gB4, rvB, nI_iI, i0, i1, l0_, wr_s, aup_s, and_true, true_and, and_self, eq_self, if_true, if_false, Nat.zero_le, Nat.reduceAdd, Nat.reduceLeDiff, gN_I, gN_L, gN_P, bI_0, bI_ok, z0, z1, Bool.true_eq, Bool.false_eq_true, not_true_eq_false, not_false_eq_true]
  | succ m ih =>
    intro e C he he1 he2 hC hH hs hb l3 l4
    rw [r278_27]
    by_cases q : e ≤ lo + 1
    · have c1 : (e : Int) + -1 ≤ lo := by omega
      refine ⟨C, prm_r _ _ _, sor_2 (sor_s q) hs hb, ?_⟩
      simp (disch := omega) only [r278_0, r278_1, r278_2, r278_3, r278_4, r278_5, r278_7, r278_8, r278_11, r278_11n, r278_12, r278_15, r278_16, r278_16n, r278_17, r278_18, r278_19, r278_20, r278_21, r278_24, r278_30, r278_31, r278_32, r278_35, r278_35n, r278_36, r278_37, r278_38, r278_39, r278_39n, r278_40, r278_41, r278_41n, r278_42, r278_43, r278_44, r278_45, r278_46, r278_49, r278_49n, r278_50, r278_51, r278_52, r278_53, r278_56, iI_add, iI_le, c1, kl_n, kl_i, kl_r, kl_z, kl_l, kl_d, catS_0, catS_c, cat_i, cat_l, cat_d, cat_r, cat_n, kC_r, kC_x, Option.bind_some, Option.toList_some, Option.toList_none, List.cons_append, List.nil_append, gB0, gB1, gB2, gB3, gB4, rvB, nI_iI, i0, i1, l0_, wr_s, aup_s, and_true, true_and, and_self, eq_self, if_true, if_false, Nat.zero_le, Nat.reduceAdd, Nat.reduceLeDiff, gN_I, gN_L, gN_P, bI_0, bI_ok, z0, z1, Bool.true_eq, Bool.false_eq_true, not_true_eq_false, not_false_eq_true]
    · obtain ⟨f, rfl⟩ : ∃ f, e = f + 1 := ⟨e - 1, by omega⟩
      have c1 : ¬ (f : Int) ≤ lo := by omega
      have e1 : ((f + 1 : Nat) : Int) + -1 = (f : Int) := by omega
      obtain ⟨C1, p1, s1, hl⟩ := s_pushDown (d := d) (h := h) (r := r) (p := p) (lo := lo) (hi := f) (s := lo) (f := lo) (x := C f) (C := C) hN (by omega) (by omega) (hC _) hC
        ⟨fun q c h1 h2 h3 h4 _ => hH q c h1 h3 (by omega), fun q h1 h2 => by omega⟩
      have mx := hp_max hH
      have o1 : ∀ j, f ≤ j → C1 j = C j := fun j hj => by
        rw [p1.1 j (Or.inr hj), upN_o (by omega)]
      have a1 : ∀ i, lo ≤ i → i < f → ∀ b, (∀ k, lo ≤ k → k < f + 1 → C k ≤ b) → C1 i ≤ b := fun i h1 h2 b hb2 =>
        prm_all p1 (P := fun z => z ≤ b) (fun k h3 h4 => by
          show upN C lo (C f) k ≤ b
          unfold upN
          split
          · exact hb2 f (by omega) (by omega)
          · exact hb2 k h3 (by omega)) i h1 h2
      have bC1 : ∀ j, bd (C1 j) := prm_bd p1 (upN_ok (hC _) hC)
      obtain ⟨C', p2, s2, hl2⟩ := ih f (upN C1 f (C lo)) (by omega) (by omega) (by omega) (upN_ok (hC _) bC1)
        (fun q c h1 h2 h3 => by
          rw [upN_o (by omega), upN_o (by omega)]
          exact s1 q c h1 h2 h3)
        (fun i j h1 h2 h3 => by
          rw [upN_o (show j ≠ f by omega), o1 j (by omega)]
          by_cases e2 : i = f
          · rw [e2, upN_at]
            exact hb lo j (by omega) (by omega) (by omega) h3
          · rw [upN_o e2, o1 i (by omega)]
            exact hs i j (by omega) h2 h3)
        (fun i j h1 h2 h3 h4 => by
          rw [upN_o (show i ≠ f by omega)]
          by_cases e2 : j = f
          · rw [e2, upN_at]
            exact a1 i h1 h2 _ (fun k h5 h6 => mx k h5 h6)
          · rw [upN_o e2, o1 j (by omega)]
            exact a1 i h1 h2 _ (fun k h5 h6 => hb k j h5 h6 (by omega) h4)) (some (.long (lI (C lo)))) none
      refine ⟨C', prm_t (prm_t (prm_s (i := lo) (j := f) (by omega) (by omega)) (prm_up p1 (Nat.le_refl _) (by omega))) p2, s2, ?_⟩
      simp (disch := omega) only [r278_0, r278_1, r278_2, r278_3, r278_4, r278_5, r278_7, r278_8, r278_11, r278_11n, r278_12, r278_15, r278_16, r278_16n, r278_17, r278_18, r278_19, r278_20, r278_21, r278_24, r278_30, r278_31, r278_32, r278_35, r278_35n, r278_36, r278_37, r278_38, r278_39, r278_39n, r278_40, r278_41, r278_41n, r278_42, r278_43, r278_44, r278_45, r278_46, r278_49, r278_49n, r278_50, r278_51, r278_52, r278_53, r278_56, iI_add, e1, iI_le, c1, lw_g, hl, lw_s, lw_u, hl2, kl_n, kl_i, kl_r, kl_z, kl_l, kl_d, catS_0, catS_c, cat_i, cat_l, cat_d, cat_r, cat_n, kC_r, kC_x, Option.bind_some, Option.toList_some, Option.toList_none, List.cons_append, List.nil_append, gB0, gB1, gB2, gB3, gB4, rvB, nI_iI, i0, i1, l0_, wr_s, aup_s, and_true, true_and, and_self, eq_self, if_true, if_false, Nat.zero_le, Nat.reduceAdd, Nat.reduceLeDiff, gN_I, gN_L, gN_P, bI_0, bI_ok, z0, z1, Bool.true_eq, Bool.false_eq_true, not_true_eq_false, not_false_eq_true]
theorem s_heapSort {lo hi : Nat} {C : Nat → Nat} (hN : N ≤ 2000) (hh : lo ≤ hi ∧ hi ≤ N) (hC : ∀ j, bd (C j)) : ∃ C', prm lo hi C C' ∧ sor C' lo hi ∧
    aE (d + 2) 278 [.ref p, .int (iI lo), .int (iI hi)] (lw h p N C, r) = some (.inl none, (lw h p N C', r)) := by
  have e1 : (lo : Int) + hi = ((lo + hi : Nat) : Int) := by omega
  obtain ⟨C1, p1, s1, hl⟩ := hs_1 (d := d) (h := h) (r := r) (p := p) (lo := lo) (hi := hi) (l4 := none) hN hh.2 ((lo + hi) / 2 - lo) ((lo + hi) / 2) C (by omega) (by omega) hC (fun q c h1 h2 h3 => by omega)
  obtain ⟨C', p2, s2, hl2⟩ := hs_2 (d := d) (h := h) (r := r) (p := p) (lo := lo) (hi := hi) hN hh.2 (hi - lo) hi C1 (by omega) hh.1 (Nat.le_refl _) (prm_bd p1 hC) s1 (sor_s (by omega)) (fun i j _ h2 h3 h4 => by omega) (some (.int (iI lo))) none
  refine ⟨C', prm_t p1 p2, s2, ?_⟩
  rw [e278]
  simp (disch := omega) only [r278_0, r278_1, r278_2, r278_3, r278_4, r278_5, iI_add, e1, ushr1, hl, hl2, kl_n, kl_i, kl_r, kl_z, kl_l, kl_d, catS_0, catS_c, cat_i, cat_l, cat_d, cat_r, cat_n, kC_r, kC_x, Option.bind_some, Option.toList_some, Option.toList_none, List.cons_append, List.nil_append, gB0, gB1, gB2, gB3, gB4, rvB, nI_iI, i0, i1, l0_, wr_s, aup_s, and_true, true_and, and_self, eq_self, if_true, if_false, Nat.zero_le, Nat.reduceAdd, Nat.reduceLeDiff, gN_I, gN_L, gN_P, bI_0, bI_ok, z0, z1, Bool.true_eq, Bool.false_eq_true, not_true_eq_false, not_false_eq_true]
end
