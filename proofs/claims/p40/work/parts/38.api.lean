/-! ===== the desk's own methods: notes one by one, settings, taking back, when and where ===== -/
section
variable {d : Nat} {h : aHf} {r : Nat × Nat × Nat × Nat} {x : Nat} {W : Dk}
theorem k_insert {c : Nat} (hn : W.1.1.1 < 60) (hc : cOk c) (hF : ∀ i, cOk (W.1.1.2 i)) : aE (d + 4) 146 [.ref (x + 1 + 1), .long (lI c)] (dkW h x W, r) = some (.inl (some (.int (iI (sk W.1.1.2 c W.1.1.1)))), (dkW h x (((W.1.1.1 + 1, insN W.1.1.2 (sk W.1.1.2 c W.1.1.1) W.1.1.1 c), W.1.2), W.2), r)) := by
  have e := s_insert (d := d) (a := x + 1 + 1) (h := dkW h x W) (r := r) hn hc hF
  rw [dk_nl, dk_nl] at e
  exact e
theorem k_drop {p : Nat} (hp : p < W.1.1.1) (hn : W.1.1.1 ≤ 60) : aE (d + 3) 147 [.ref (x + 1 + 1), .int (iI p)] (dkW h x W, r) = some (.inl none, (dkW h x (((W.1.1.1 - 1, dlN W.1.1.2 p (W.1.1.1 - 1)), W.1.2), W.2), r)) := by
  have e := s_drop (d := d) (a := x + 1 + 1) (h := dkW h x W) (r := r) (F := W.1.1.2) hp hn
  rw [dk_nl, dk_nl] at e
  exact e
theorem k_sort (hn : W.1.1.1 ≤ 60) (hF : ∀ i, cOk (W.1.1.2 i)) : aE (d + 4) 149 [.ref (x + 1 + 1)] (dkW h x W, r) = some (.inl none, (dkW h x (((W.1.1.1, srtN W.1.1.2 W.1.1.1), W.1.2), W.2), r)) := by
  have e := s_nsort (d := d) (a := x + 1 + 1) (h := dkW h x W) (r := r) hn hF
  rw [dk_nl, dk_nl] at e
  exact e
theorem k_put {j c : Nat} (hj : j < 60) : aE (d + 2) 140 [.ref (x + 1 + 1), .int (iI j), .long (lI c)] (dkW h x W, r) = some (.inl none, (dkW h x (((W.1.1.1, upN W.1.1.2 j c), W.1.2), W.2), r)) := by
  have e := s_nput (d := d) (a := x + 1 + 1) (n := W.1.1.1) (F := W.1.1.2) (h := dkW h x W) (r := r) (c := c) (show (0 : Int) ≤ j by omega) (by omega)
  rw [dk_nl, dk_nl, Int.toNat_natCast] at e
  exact e
theorem k_codeAt {j : Nat} (hj : j < 60) : aE (d + 2) 138 [.ref (x + 1 + 1), .int (iI j)] (dkW h x W, r) = some (.inl (some (.long (lI (W.1.1.2 j)))), (dkW h x W, r)) := by
  have e := s_codeAt (d := d) (a := x + 1 + 1) (n := W.1.1.1) (F := W.1.1.2) (h := dkW h x W) (r := r) (show (0 : Int) ≤ j by omega) (by omega)
  rw [dk_nl, Int.toNat_natCast] at e
  exact e
theorem k_size : aE (d + 1) 142 [.ref (x + 1 + 1)] (dkW h x W, r) = some (.inl (some (.int (iI W.1.1.1))), (dkW h x W, r)) := by
  have e := s_nsize (d := d) (a := x + 1 + 1) (n := W.1.1.1) (F := W.1.1.2) (h := dkW h x W) (r := r)
  rw [dk_nl] at e
  exact e
theorem k_room : aE (d + 1) 143 [.ref (x + 1 + 1)] (dkW h x W, r) = some (.inl (some (.int (iI (60 - W.1.1.1)))), (dkW h x W, r)) := by
  have e := s_room (d := d) (a := x + 1 + 1) (n := W.1.1.1) (F := W.1.1.2) (h := dkW h x W) (r := r)
  rw [dk_nl] at e
  exact e
theorem k_has {p : Int} (h1 : -2147483648 ≤ p) (h2 : p < 2147483648) (hn : W.1.1.1 ≤ 60) : aE (d + 1) 144 [.ref (x + 1 + 1), .int (iI p)] (dkW h x W, r) = some (.inl (some (.int (bI (0 ≤ p ∧ p < W.1.1.1)))), (dkW h x W, r)) := by
  have e := s_has (d := d) (a := x + 1 + 1) (n := W.1.1.1) (F := W.1.1.2) (h := dkW h x W) (r := r) h1 h2 hn
  rw [dk_nl] at e
  exact e
theorem k_clashes (hn : W.1.1.1 ≤ 60) (hF : ∀ i, cOk (W.1.1.2 i)) : aE (d + 4) 150 [.ref (x + 1 + 1)] (dkW h x W, r) = some (.inl (some (.int (iI (sm (cl2 W.1.1.2 W.1.1.1) W.1.1.1)))), (dkW h x W, r)) := by
  have e := s_clashes (d := d) (a := x + 1 + 1) (h := dkW h x W) (r := r) hn hF
  rw [dk_nl] at e
  exact e
theorem k_tput {t : Nat} {p q : Prop} [Decidable p] [Decidable q] {u v : Int} (ht : t < 6) : aE (d + 2) 180 [.ref (x + 1 + 3), .int (iI t), .int (bI p), .int (bI q), .int (iI u), .int (iI v)] (dkW h x W, r) =
    some (.inl none, (dkW h x ((W.1.1, (upN W.1.2.1.1 t ((if p then 1 else 0) + (if q then 2 else 0)), upI W.1.2.1.2.1 t u, upI W.1.2.1.2.2 t v), W.1.2.2), W.2), r)) := by
  have e := s_tput (d := d) (a := x + 1 + 3) (M := W.1.2.1.1) (S := W.1.2.1.2.1) (D := W.1.2.1.2.2) (h := dkW h x W) (r := r) (p := p) (q := q) (u := u) (v := v) ht
  rw [dk_ts, dk_ts] at e
  exact e
/-- a desk in its bounds -/
def dkOk (W : Dk) : Prop := sgOk W.1 ∧ hsOk W.2.1 ∧ W.2.2.1.1 ≤ 60 ∧ (∀ i, cOk (W.2.2.1.2 i)) ∧ W.2.2.2.1.1 ≤ 960
end
section
variable {d n w : Nat} {g : Nat × Nat} {h : aHf} {x : Nat} {W : Dk}
/-! write -/
theorem s_write {t k l p f : Nat} (hO : dkOk W) (ht : t ≤ 5) (hk : k ≤ 9599) (hl : 1 ≤ l ∧ l ≤ 960) (hp : p ≤ 127) (hf : 1 ≤ f ∧ f ≤ 127) (hn : W.1.1.1 < 60)
    (hS : sgOk ((W.1.1.1 + 1, insN W.1.1.2 (sk W.1.1.2 (cO t k p l f) W.1.1.1) W.1.1.1 (cO t k p l f)), W.1.2)) : aE (d + 12) 38 [.ref x, .int (iI t), .int (iI k), .int (iI l), .int (iI p), .int (iI f)] (dkW h x W, n, w, g) =
    some (.inl (some (.int (iI (sk W.1.1.2 (cO t k p l f) W.1.1.1)))), (dkW h x (seW (((W.1.1.1 + 1, insN W.1.1.2 (sk W.1.1.2 (cO t k p l f) W.1.1.1) W.1.1.1 (cO t k p l f)), W.1.2), W.2)), n, w, g)) := by
  obtain ⟨o1, o2, o3, o4, o5⟩ := hO
  have q1 : (0 : Int) ≤ t ∧ (t : Int) ≤ 5 := by omega
  have q2 : (0 : Int) ≤ k ∧ (k : Int) ≤ 9599 := by omega
  have q3 : (1 : Int) ≤ l ∧ (l : Int) ≤ 960 := by omega
  have q4 : (0 : Int) ≤ p ∧ (p : Int) ≤ 127 := by omega
  have q5 : (1 : Int) ≤ f ∧ (f : Int) ≤ 127 := by omega
  have q6 : (1 : Int) ≤ 60 - (W.1.1.1 : Int) := by omega
  have hc : cOk (cO t k p l f) := cO_ok (by omega) (by omega) (by omega) (by omega) (by omega)
  have e2 := s_settle (d := d + 5) (h := h) (r := (n, w, g)) (x := x) (W := (((W.1.1.1 + 1, insN W.1.1.2 (sk W.1.1.2 (cO t k p l f) W.1.1.1) W.1.1.1 (cO t k p l f)), W.1.2), W.2)) hS o2
  simp (disch := omega) only [e38, r38_0, r38_1, r38_4, r38_7, r38_8, r38_11, r38_14, r38_15, r38_16, r38_19, r38_22, r38_25, r38_35, r38_37, r38_38, r38_40, r38_43, r38_46, r38_48, r38_49, r38_51, r38_54, r38_57, r38_67, r38_68, r38_71, r38_74, r38_77, r38_78, r38_81, r38_91, r38_92, r38_95, r38_98, r38_99, r38_100, r38_101, r38_103, r38_105, r38_108, r38_111, r38_113, r38_114, r38_117, r38_119, s_isTrack, s_isTick, s_isWithin, q1, q2, q3, q4, q5, q6, dk_0, dk_1, dk_2, k_room, iI_le, s_of (show t < 8 by omega) (show k < 16384 by omega) (show l < 1024 by omega) (show p < 128 by omega) (show f < 128 by omega), k_insert hn hc o1.2.1, e2, kl_n, kl_i, kl_r, kl_z, kl_l, kl_d, catS_0, catS_c, cat_i, cat_l, cat_d, cat_r, cat_n, kC_r, kC_x, Option.bind_some, Option.toList_some, Option.toList_none, List.cons_append, List.nil_append, gB0, gB1, gB2, gB3, gB4, rvB, nI_iI, i0, i1, l0_, wr_s, aup_s, and_true, true_and, and_self, eq_self, if_true, if_false, Nat.zero_le, Nat.reduceAdd, Nat.reduceLeDiff, gN_I, gN_L, gN_P, bI_0, bI_ok, z0, z1, Bool.true_eq, Bool.false_eq_true, not_true_eq_false, not_false_eq_true]
theorem s_write_1 {t k l p f : Int} (b1 : -2147483648 ≤ t ∧ t < 2147483648) (b2 : -2147483648 ≤ k ∧ k < 2147483648) (b3 : -2147483648 ≤ l ∧ l < 2147483648) (b4 : -2147483648 ≤ p ∧ p < 2147483648) (b5 : -2147483648 ≤ f ∧ f < 2147483648)
    (hc : ¬ ((0 ≤ t ∧ t ≤ 5) ∧ (0 ≤ k ∧ k ≤ 9599) ∧ (1 ≤ l ∧ l ≤ 960) ∧ (0 ≤ p ∧ p ≤ 127) ∧ (1 ≤ f ∧ f ≤ 127))) : aE (d + 12) 38 [.ref x, .int (iI t), .int (iI k), .int (iI l), .int (iI p), .int (iI f)] (dkW h x W, n, w, g) =
    some (.inr "java/lang/IllegalArgumentException", (dkW h x W, n + 1, w + 6, g)) := by
  have c8 : 8 ≤ d + 11 := by omega
  simp (disch := omega) only [e38, r38_0, r38_1, r38_4, r38_7, r38_8, r38_11, r38_14, r38_15, r38_16, r38_19, r38_22, r38_25, r38_35, r38_37, r38_38, r38_40, r38_43, r38_46, r38_48, r38_49, r38_51, r38_54, r38_57, s_isTrack, s_isTick, s_isWithin, c8, ite_not, kl_n, kl_i, kl_r, kl_z, kl_l, kl_d, catS_0, catS_c, cat_i, cat_l, cat_d, cat_r, cat_n, kC_r, kC_x, Option.bind_some, Option.toList_some, Option.toList_none, List.cons_append, List.nil_append, gB0, gB1, gB2, gB3, gB4, rvB, nI_iI, i0, i1, l0_, wr_s, aup_s, and_true, true_and, and_self, eq_self, if_true, if_false, Nat.zero_le, Nat.reduceAdd, Nat.reduceLeDiff, gN_I, gN_L, gN_P, bI_0, bI_ok, z0, z1, Bool.true_eq, Bool.false_eq_true, not_true_eq_false, not_false_eq_true]
  repeat' split
  all_goals first
    | rfl
    | (exfalso; omega)
theorem s_write_2 {t k l p f : Nat} (hO : dkOk W) (ht : t ≤ 5) (hk : k ≤ 9599) (hl : 1 ≤ l ∧ l ≤ 960) (hp : p ≤ 127) (hf : 1 ≤ f ∧ f ≤ 127) (hn : ¬ W.1.1.1 < 60) : aE (d + 12) 38 [.ref x, .int (iI t), .int (iI k), .int (iI l), .int (iI p), .int (iI f)] (dkW h x W, n, w, g) =
    some (.inr "java/lang/IllegalStateException", (dkW h x W, n + 1, w + 6, g)) := by
  have c8 : 8 ≤ d + 11 := by omega
  have q1 : (0 : Int) ≤ t ∧ (t : Int) ≤ 5 := by omega
  have q2 : (0 : Int) ≤ k ∧ (k : Int) ≤ 9599 := by omega
  have q3 : (1 : Int) ≤ l ∧ (l : Int) ≤ 960 := by omega
  have q4 : (0 : Int) ≤ p ∧ (p : Int) ≤ 127 := by omega
  have q5 : (1 : Int) ≤ f ∧ (f : Int) ≤ 127 := by omega
  have h60 := hO.1.1
  have q6 : ¬ (1 : Int) ≤ 60 - (W.1.1.1 : Int) := by omega
  simp (disch := omega) only [e38, r38_0, r38_1, r38_4, r38_7, r38_8, r38_11, r38_14, r38_15, r38_16, r38_19, r38_22, r38_25, r38_35, r38_37, r38_38, r38_40, r38_43, r38_46, r38_48, r38_49, r38_51, r38_54, r38_57, r38_67, r38_68, r38_71, r38_74, r38_77, r38_78, r38_81, r38_91, r38_92, r38_95, r38_98, r38_99, r38_100, r38_101, r38_103, r38_105, r38_108, r38_111, r38_113, r38_114, r38_117, r38_119, s_isTrack, s_isTick, s_isWithin, q1, q2, q3, q4, q5, q6, dk_0, dk_1, dk_2, k_room, iI_le, c8, kl_n, kl_i, kl_r, kl_z, kl_l, kl_d, catS_0, catS_c, cat_i, cat_l, cat_d, cat_r, cat_n, kC_r, kC_x, Option.bind_some, Option.toList_some, Option.toList_none, List.cons_append, List.nil_append, gB0, gB1, gB2, gB3, gB4, rvB, nI_iI, i0, i1, l0_, wr_s, aup_s, and_true, true_and, and_self, eq_self, if_true, if_false, Nat.zero_le, Nat.reduceAdd, Nat.reduceLeDiff, gN_I, gN_L, gN_P, bI_0, bI_ok, z0, z1, Bool.true_eq, Bool.false_eq_true, not_true_eq_false, not_false_eq_true]
/-! remove -/
theorem seW_1 (V : Dk) : (seW V).1 = V.1 := by
  unfold seW
  split <;> rfl
theorem s_remove {p : Nat} (hO : dkOk W) (hp : p < W.1.1.1) (hS : sgOk ((W.1.1.1 - 1, dlN W.1.1.2 p (W.1.1.1 - 1)), W.1.2)) : aE (d + 12) 39 [.ref x, .int (iI p)] (dkW h x W, n, w, g) =
    some (.inl (some (.int (iI (W.1.1.1 - 1 : Nat)))), (dkW h x (seW (((W.1.1.1 - 1, dlN W.1.1.2 p (W.1.1.1 - 1)), W.1.2), W.2)), n, w, g)) := by
  obtain ⟨o1, o2, o3, o4, o5⟩ := hO
  have hn := o1.1
  have q1 : (0 : Int) ≤ p ∧ (p : Int) < W.1.1.1 := by omega
  have e2 := s_settle (d := d + 5) (h := h) (r := (n, w, g)) (x := x) (W := (((W.1.1.1 - 1, dlN W.1.1.2 p (W.1.1.1 - 1)), W.1.2), W.2)) hS o2
  simp (disch := omega) only [e39, r39_0, r39_1, r39_4, r39_7, r39_8, r39_11, r39_14, r39_24, r39_25, r39_28, r39_31, r39_32, r39_35, r39_36, r39_39, r39_40, r39_43, r39_46, r39_49, k_has, q1, dk_0, dk_1, dk_2, k_drop hp hn, e2, k_size, seW_1, kl_n, kl_i, kl_r, kl_z, kl_l, kl_d, catS_0, catS_c, cat_i, cat_l, cat_d, cat_r, cat_n, kC_r, kC_x, Option.bind_some, Option.toList_some, Option.toList_none, List.cons_append, List.nil_append, gB0, gB1, gB2, gB3, gB4, rvB, nI_iI, i0, i1, l0_, wr_s, aup_s, and_true, true_and, and_self, eq_self, if_true, if_false, Nat.zero_le, Nat.reduceAdd, Nat.reduceLeDiff, gN_I, gN_L, gN_P, bI_0, bI_ok, z0, z1, Bool.true_eq, Bool.false_eq_true, not_true_eq_false, not_false_eq_true]
theorem s_remove_1 {p : Int} (hO : dkOk W) (b1 : -2147483648 ≤ p ∧ p < 2147483648) (hc : ¬ (0 ≤ p ∧ p < W.1.1.1)) : aE (d + 12) 39 [.ref x, .int (iI p)] (dkW h x W, n, w, g) = some (.inr "java/lang/IndexOutOfBoundsException", (dkW h x W, n + 1, w + 6, g)) := by
  have hn := hO.1.1
  have c8 : 8 ≤ d + 11 := by omega
  simp (disch := omega) only [e39, r39_0, r39_1, r39_4, r39_7, r39_8, r39_11, r39_14, r39_24, r39_25, r39_28, r39_31, r39_32, r39_35, r39_36, r39_39, r39_40, r39_43, r39_46, r39_49, k_has, dk_0, dk_1, dk_2, c8, kl_n, kl_i, kl_r, kl_z, kl_l, kl_d, catS_0, catS_c, cat_i, cat_l, cat_d, cat_r, cat_n, kC_r, kC_x, Option.bind_some, Option.toList_some, Option.toList_none, List.cons_append, List.nil_append, gB0, gB1, gB2, gB3, gB4, rvB, nI_iI, i0, i1, l0_, wr_s, aup_s, and_true, true_and, and_self, eq_self, if_true, if_false, Nat.zero_le, Nat.reduceAdd, Nat.reduceLeDiff, gN_I, gN_L, gN_P, bI_0, bI_ok, z0, z1, Bool.true_eq, Bool.false_eq_true, not_true_eq_false, not_false_eq_true]
  rw [if_pos hc]
/-! split -/
def sp1 (c k : Nat) : Nat := cO (cT c) (cS c) (cP c) (k - cS c) (cF c)
def sp2 (c k : Nat) : Nat := cO (cT c) k (cP c) (cS c + cL c - k) (cF c)
/-- a song's notes -/
def nlD (v : NLv) (p : Nat) : NLv := (v.1 - 1, dlN v.2 p (v.1 - 1))
def nlA (v : NLv) (c : Nat) : NLv := (v.1 + 1, insN v.2 (sk v.2 c v.1) v.1 c)
theorem s_split {p k : Nat} (hO : dkOk W) (hp : p < W.1.1.1) (hk : cS (W.1.1.2 p) < k ∧ k < cS (W.1.1.2 p) + cL (W.1.1.2 p) ∧ k ≤ 9599) (hn : W.1.1.1 < 60)
    (hS : sgOk (nlA (nlA (nlD W.1.1 p) (sp1 (W.1.1.2 p) k)) (sp2 (W.1.1.2 p) k), W.1.2)) : aE (d + 12) 40 [.ref x, .int (iI p), .int (iI k)] (dkW h x W, n, w, g) =
    some (.inl (some (.int (iI (W.1.1.1 + 1 : Nat)))), (dkW h x (seW ((nlA (nlA (nlD W.1.1 p) (sp1 (W.1.1.2 p) k)) (sp2 (W.1.1.2 p) k), W.1.2), W.2)), n, w, g)) := by
  obtain ⟨o1, o2, o3, o4, o5⟩ := hO
  have q1 : (0 : Int) ≤ p ∧ (p : Int) < W.1.1.1 := by omega
  have hc := o1.2.1 p
  obtain ⟨k1, k2, k3⟩ := hk
  have a1 := cS_lt (W.1.1.2 p)
  have a2 := cL_lt (W.1.1.2 p)
  have q2 : ¬ (k : Int) ≤ (cS (W.1.1.2 p) : Int) := by omega
  have q3 : ¬ (cS (W.1.1.2 p) : Int) + (cL (W.1.1.2 p) : Int) ≤ (k : Int) := by omega
  have q4 : (0 : Int) ≤ k ∧ (k : Int) ≤ 9599 := by omega
  have q5 : (1 : Int) ≤ 60 - (W.1.1.1 : Int) := by omega
  have e1 : (k : Int) - (cS (W.1.1.2 p) : Int) = ((k - cS (W.1.1.2 p) : Nat) : Int) := by omega
  have e2 : (cS (W.1.1.2 p) : Int) + (cL (W.1.1.2 p) : Int) - (k : Int) = ((cS (W.1.1.2 p) + cL (W.1.1.2 p) - k : Nat) : Int) := by omega
  have g1 : cOk (sp1 (W.1.1.2 p) k) := cO_ok (cT_lt hc) a1 (cP_lt _) (by omega) (cF_lt _)
  have g0 : cOk (cO (cT (W.1.1.2 p)) k (cP (W.1.1.2 p)) (cL (W.1.1.2 p)) (cF (W.1.1.2 p))) := cO_ok (cT_lt hc) (by omega) (cP_lt _) a2 (cF_lt _)
  have g2 : cOk (sp2 (W.1.1.2 p) k) := cO_ok (cT_lt hc) (by omega) (cP_lt _) (by omega) (cF_lt _)
  have d1 := k_drop (d := d + 8) (h := h) (r := (n, w, g)) (x := x) (W := W) hp (by omega)
  have d2 := k_insert (d := d + 7) (h := h) (r := (n, w, g)) (x := x) (W := ((nlD W.1.1 p, W.1.2), W.2)) (c := sp1 (W.1.1.2 p) k) (by show W.1.1.1 - 1 < 60; omega) g1 (dlN_ok o1.2.1)
  have d3 := k_insert (d := d + 7) (h := h) (r := (n, w, g)) (x := x) (W := ((nlA (nlD W.1.1 p) (sp1 (W.1.1.2 p) k), W.1.2), W.2)) (c := sp2 (W.1.1.2 p) k) (by show W.1.1.1 - 1 + 1 < 60; omega) g2 (insN_ok g1 (dlN_ok o1.2.1))
  have d4 := s_settle (d := d + 5) (h := h) (r := (n, w, g)) (x := x) (W := ((nlA (nlA (nlD W.1.1 p) (sp1 (W.1.1.2 p) k)) (sp2 (W.1.1.2 p) k), W.1.2), W.2)) hS o2
  have w1 := s_withLength (d := d + 9) (h := dkW h x ((nlD W.1.1 p, W.1.2), W.2)) (r := (n, w, g)) hc (l := k - cS (W.1.1.2 p)) (by omega)
  have w2 := s_withStart (d := d + 9) (h := dkW h x ((nlA (nlD W.1.1 p) (sp1 (W.1.1.2 p) k), W.1.2), W.2)) (r := (n, w, g)) hc (s := k) (by omega)
  have w3 := s_withLength (d := d + 9) (h := dkW h x ((nlA (nlD W.1.1 p) (sp1 (W.1.1.2 p) k), W.1.2), W.2)) (r := (n, w, g)) g0 (l := cS (W.1.1.2 p) + cL (W.1.1.2 p) - k) (by omega)
  rw [cT_O (by omega) (cP_lt _) a2 (cF_lt _), cS_O (by omega) (cP_lt _) a2 (cF_lt _), cP_O (cP_lt _) a2 (cF_lt _), cF_O (cF_lt _)] at w3
  have f1 : W.1.1.1 - 1 + 1 + 1 = W.1.1.1 + 1 := by omega
  change aE (d + 11) 147 _ _ = some (.inl none, (dkW h x ((nlD W.1.1 p, W.1.2), W.2), n, w, g)) at d1
  change aE (d + 11) 146 _ _ = some (_, (dkW h x ((nlA (nlD W.1.1 p) (sp1 (W.1.1.2 p) k), W.1.2), W.2), n, w, g)) at d2
  change aE (d + 11) 146 _ _ = some (_, (dkW h x ((nlA (nlA (nlD W.1.1 p) (sp1 (W.1.1.2 p) k)) (sp2 (W.1.1.2 p) k), W.1.2), W.2), n, w, g)) at d3
  change aE (d + 11) 94 _ _ = some (.inl (some (.long (lI (sp1 (W.1.1.2 p) k)))), _) at w1
  change aE (d + 11) 94 _ _ = some (.inl (some (.long (lI (sp2 (W.1.1.2 p) k)))), _) at w3
  simp (disch := omega) only [e40, r40_0, r40_1, r40_4, r40_7, r40_8, r40_11, r40_14, r40_24, r40_25, r40_28, r40_31, r40_32, r40_35, r40_36, r40_37, r40_40, r40_42, r40_43, r40_46, r40_48, r40_49, r40_51, r40_54, r40_55, r40_57, r40_60, r40_61, r40_64, r40_67, r40_77, r40_78, r40_81, r40_84, r40_87, r40_88, r40_91, r40_101, r40_102, r40_105, r40_108, r40_109, r40_112, r40_113, r40_116, r40_119, r40_120, r40_121, r40_123, r40_124, r40_127, r40_130i, r40_130, r40_131, r40_132, r40_135, r40_138, r40_139, r40_140, r40_143, r40_145, r40_146, r40_147, r40_150, r40_153i, r40_153, r40_154, r40_155, r40_158, r40_159, r40_162, r40_165, r40_168, k_has, q1, k_codeAt, s_start hc, s_end hc, iI_le, iI_lt, q2, q3, s_isTick, q4, k_room, q5, d1, iI_sub, e1, e2, w1, d2, w2, w3, d3, d4, k_size, seW_1, dk_0, dk_1, dk_2, kl_n, kl_i, kl_r, kl_z, kl_l, kl_d, catS_0, catS_c, cat_i, cat_l, cat_d, cat_r, cat_n, kC_r, kC_x, Option.bind_some, Option.toList_some, Option.toList_none, List.cons_append, List.nil_append, gB0, gB1, gB2, gB3, gB4, rvB, nI_iI, i0, i1, l0_, wr_s, aup_s, and_true, true_and, and_self, eq_self, if_true, if_false, Nat.zero_le, Nat.reduceAdd, Nat.reduceLeDiff, gN_I, gN_L, gN_P, bI_0, bI_ok, z0, z1, Bool.true_eq, Bool.false_eq_true, not_true_eq_false, not_false_eq_true]
  show (some ((.inl (some (.int (iI ((W.1.1.1 - 1 + 1 + 1 : Nat) : Int)))) : aO), _) : aR) = _
  rw [f1]
theorem s_split_1 {p k : Int} (hO : dkOk W) (b1 : -2147483648 ≤ p ∧ p < 2147483648) (hc : ¬ (0 ≤ p ∧ p < W.1.1.1)) : aE (d + 12) 40 [.ref x, .int (iI p), .int (iI k)] (dkW h x W, n, w, g) = some (.inr "java/lang/IndexOutOfBoundsException", (dkW h x W, n + 1, w + 6, g)) := by
  have hn := hO.1.1
  have c8 : 8 ≤ d + 11 := by omega
  simp (disch := omega) only [e40, r40_0, r40_1, r40_4, r40_7, r40_8, r40_11, r40_14, k_has, dk_0, dk_1, dk_2, c8, kl_n, kl_i, kl_r, kl_z, kl_l, kl_d, catS_0, catS_c, cat_i, cat_l, cat_d, cat_r, cat_n, kC_r, kC_x, Option.bind_some, Option.toList_some, Option.toList_none, List.cons_append, List.nil_append, gB0, gB1, gB2, gB3, gB4, rvB, nI_iI, i0, i1, l0_, wr_s, aup_s, and_true, true_and, and_self, eq_self, if_true, if_false, Nat.zero_le, Nat.reduceAdd, Nat.reduceLeDiff, gN_I, gN_L, gN_P, bI_0, bI_ok, z0, z1, Bool.true_eq, Bool.false_eq_true, not_true_eq_false, not_false_eq_true]
  rw [if_pos hc]
theorem s_split_2 {p : Nat} {k : Int} (hO : dkOk W) (hp : p < W.1.1.1) (b2 : -2147483648 ≤ k ∧ k < 2147483648) (hk : ¬ ((cS (W.1.1.2 p) : Int) < k ∧ k < (cS (W.1.1.2 p) : Int) + cL (W.1.1.2 p) ∧ 0 ≤ k ∧ k ≤ 9599)) : aE (d + 12) 40 [.ref x, .int (iI p), .int (iI k)] (dkW h x W, n, w, g) =
    some (.inr "java/lang/IllegalArgumentException", (dkW h x W, n + 1, w + 6, g)) := by
  obtain ⟨o1, o2, o3, o4, o5⟩ := hO
  have hn := o1.1
  have c8 : 8 ≤ d + 11 := by omega
  have q1 : (0 : Int) ≤ p ∧ (p : Int) < W.1.1.1 := by omega
  have hc := o1.2.1 p
  have a1 := cS_lt (W.1.1.2 p)
  have a2 := cL_lt (W.1.1.2 p)
  simp (disch := omega) only [e40, r40_0, r40_1, r40_4, r40_7, r40_8, r40_11, r40_14, r40_24, r40_25, r40_28, r40_31, r40_32, r40_35, r40_36, r40_37, r40_40, r40_42, r40_43, r40_46, r40_48, r40_49, r40_51, r40_54, r40_55, r40_57, r40_60, r40_61, r40_64, r40_67, r40_77, r40_78, r40_81, r40_84, r40_87, r40_88, r40_91, r40_101, r40_102, r40_105, r40_108, r40_109, r40_112, r40_113, r40_116, r40_119, r40_120, r40_121, r40_123, r40_124, r40_127, r40_130i, r40_130, r40_131, r40_132, r40_135, r40_138, r40_139, r40_140, r40_143, r40_145, r40_146, r40_147, r40_150, r40_153i, r40_153, r40_154, r40_155, r40_158, r40_159, r40_162, r40_165, r40_168, k_has, q1, k_codeAt, s_start hc, s_end hc, iI_le, iI_lt, s_isTick, c8, dk_0, dk_1, dk_2, ite_not, kl_n, kl_i, kl_r, kl_z, kl_l, kl_d, catS_0, catS_c, cat_i, cat_l, cat_d, cat_r, cat_n, kC_r, kC_x, Option.bind_some, Option.toList_some, Option.toList_none, List.cons_append, List.nil_append, gB0, gB1, gB2, gB3, gB4, rvB, nI_iI, i0, i1, l0_, wr_s, aup_s, and_true, true_and, and_self, eq_self, if_true, if_false, Nat.zero_le, Nat.reduceAdd, Nat.reduceLeDiff, gN_I, gN_L, gN_P, bI_0, bI_ok, z0, z1, Bool.true_eq, Bool.false_eq_true, not_true_eq_false, not_false_eq_true]
  repeat' split
  all_goals first
    | rfl
    | (exfalso; omega)
theorem s_split_3 {p k : Nat} (hO : dkOk W) (hp : p < W.1.1.1) (hk : cS (W.1.1.2 p) < k ∧ k < cS (W.1.1.2 p) + cL (W.1.1.2 p) ∧ k ≤ 9599) (hn9 : ¬ W.1.1.1 < 60) : aE (d + 12) 40 [.ref x, .int (iI p), .int (iI k)] (dkW h x W, n, w, g) =
    some (.inr "java/lang/IllegalStateException", (dkW h x W, n + 1, w + 6, g)) := by
  obtain ⟨o1, o2, o3, o4, o5⟩ := hO
  have hn := o1.1
  have c8 : 8 ≤ d + 11 := by omega
  have q1 : (0 : Int) ≤ p ∧ (p : Int) < W.1.1.1 := by omega
  have hc := o1.2.1 p
  have a1 := cS_lt (W.1.1.2 p)
  have a2 := cL_lt (W.1.1.2 p)
  have q2 : ¬ (k : Int) ≤ (cS (W.1.1.2 p) : Int) := by omega
  have q3 : ¬ (cS (W.1.1.2 p) : Int) + (cL (W.1.1.2 p) : Int) ≤ (k : Int) := by omega
  have q4 : (0 : Int) ≤ k ∧ (k : Int) ≤ 9599 := by omega
  have q5 : ¬ (1 : Int) ≤ 60 - (W.1.1.1 : Int) := by omega
  simp (disch := omega) only [e40, r40_0, r40_1, r40_4, r40_7, r40_8, r40_11, r40_14, r40_24, r40_25, r40_28, r40_31, r40_32, r40_35, r40_36, r40_37, r40_40, r40_42, r40_43, r40_46, r40_48, r40_49, r40_51, r40_54, r40_55, r40_57, r40_60, r40_61, r40_64, r40_67, r40_77, r40_78, r40_81, r40_84, r40_87, r40_88, r40_91, r40_101, r40_102, r40_105, r40_108, r40_109, r40_112, r40_113, r40_116, r40_119, r40_120, r40_121, r40_123, r40_124, r40_127, r40_130i, r40_130, r40_131, r40_132, r40_135, r40_138, r40_139, r40_140, r40_143, r40_145, r40_146, r40_147, r40_150, r40_153i, r40_153, r40_154, r40_155, r40_158, r40_159, r40_162, r40_165, r40_168, k_has, q1, k_codeAt, s_start hc, s_end hc, iI_le, iI_lt, q2, q3, s_isTick, q4, k_room, q5, c8, dk_0, dk_1, dk_2, kl_n, kl_i, kl_r, kl_z, kl_l, kl_d, catS_0, catS_c, cat_i, cat_l, cat_d, cat_r, cat_n, kC_r, kC_x, Option.bind_some, Option.toList_some, Option.toList_none, List.cons_append, List.nil_append, gB0, gB1, gB2, gB3, gB4, rvB, nI_iI, i0, i1, l0_, wr_s, aup_s, and_true, true_and, and_self, eq_self, if_true, if_false, Nat.zero_le, Nat.reduceAdd, Nat.reduceLeDiff, gN_I, gN_L, gN_P, bI_0, bI_ok, z0, z1, Bool.true_eq, Bool.false_eq_true, not_true_eq_false, not_false_eq_true]
/-! notes, note -/
theorem s_notes : aE (d + 12) 51 [.ref x] (dkW h x W, n, w, g) = some (.inl (some (.int (iI W.1.1.1))), (dkW h x W, n, w, g)) := by
  simp only [e51, r51_0, r51_1, r51_4, r51_7, r51_10, dk_0, dk_1, dk_2, k_size, kl_n, kl_i, kl_r, kl_z, kl_l, kl_d, catS_0, catS_c, cat_i, cat_l, cat_d, cat_r, cat_n, kC_r, kC_x, Option.bind_some, Option.toList_some, Option.toList_none, List.cons_append, List.nil_append, gB0, gB1, gB2, gB3, gB4, rvB, nI_iI, i0, i1, l0_, wr_s, aup_s, and_true, true_and, and_self, eq_self, if_true, if_false, Nat.zero_le, Nat.reduceAdd, Nat.reduceLeDiff, gN_I, gN_L, gN_P, bI_0, bI_ok, z0, z1, Bool.true_eq, Bool.false_eq_true, not_true_eq_false, not_false_eq_true]
theorem s_note {p v : Nat} (hO : dkOk W) (hp : p < W.1.1.1) (hv : v ≤ 4) : aE (d + 12) 52 [.ref x, .int (iI p), .int (iI v)] (dkW h x W, n, w, g) = some (.inl (some (.int (iI (cFact (W.1.1.2 p) v)))), (dkW h x W, n, w, g)) := by
  have hn := hO.1.1
  have q1 : (0 : Int) ≤ p ∧ (p : Int) < W.1.1.1 := by omega
  have q2 : (0 : Int) ≤ v ∧ (v : Int) ≤ 4 := by omega
  simp (disch := omega) only [e52, r52_0, r52_1, r52_4, r52_7, r52_8, r52_11, r52_14, r52_24, r52_25, r52_26, r52_27, r52_30, r52_33, r52_43, r52_44, r52_47, r52_50, r52_51, r52_54, r52_55, r52_58, k_has, q1, s_isWithin, q2, k_codeAt, s_fact (hO.1.2.1 p) hv, dk_0, dk_1, dk_2, kl_n, kl_i, kl_r, kl_z, kl_l, kl_d, catS_0, catS_c, cat_i, cat_l, cat_d, cat_r, cat_n, kC_r, kC_x, Option.bind_some, Option.toList_some, Option.toList_none, List.cons_append, List.nil_append, gB0, gB1, gB2, gB3, gB4, rvB, nI_iI, i0, i1, l0_, wr_s, aup_s, and_true, true_and, and_self, eq_self, if_true, if_false, Nat.zero_le, Nat.reduceAdd, Nat.reduceLeDiff, gN_I, gN_L, gN_P, bI_0, bI_ok, z0, z1, Bool.true_eq, Bool.false_eq_true, not_true_eq_false, not_false_eq_true]
theorem s_note_1 {p v : Int} (hO : dkOk W) (b1 : -2147483648 ≤ p ∧ p < 2147483648) (hc : ¬ (0 ≤ p ∧ p < W.1.1.1)) : aE (d + 12) 52 [.ref x, .int (iI p), .int (iI v)] (dkW h x W, n, w, g) = some (.inr "java/lang/IndexOutOfBoundsException", (dkW h x W, n + 1, w + 6, g)) := by
  have hn := hO.1.1
  have c8 : 8 ≤ d + 11 := by omega
  simp (disch := omega) only [e52, r52_0, r52_1, r52_4, r52_7, r52_8, r52_11, r52_14, k_has, dk_0, dk_1, dk_2, c8, kl_n, kl_i, kl_r, kl_z, kl_l, kl_d, catS_0, catS_c, cat_i, cat_l, cat_d, cat_r, cat_n, kC_r, kC_x, Option.bind_some, Option.toList_some, Option.toList_none, List.cons_append, List.nil_append, gB0, gB1, gB2, gB3, gB4, rvB, nI_iI, i0, i1, l0_, wr_s, aup_s, and_true, true_and, and_self, eq_self, if_true, if_false, Nat.zero_le, Nat.reduceAdd, Nat.reduceLeDiff, gN_I, gN_L, gN_P, bI_0, bI_ok, z0, z1, Bool.true_eq, Bool.false_eq_true, not_true_eq_false, not_false_eq_true]
  rw [if_pos hc]
theorem s_note_2 {p : Nat} {v : Int} (hO : dkOk W) (hp : p < W.1.1.1) (b1 : -2147483648 ≤ v ∧ v < 2147483648) (hc : ¬ (0 ≤ v ∧ v ≤ 4)) : aE (d + 12) 52 [.ref x, .int (iI p), .int (iI v)] (dkW h x W, n, w, g) = some (.inr "java/lang/IllegalArgumentException", (dkW h x W, n + 1, w + 6, g)) := by
  have hn := hO.1.1
  have c8 : 8 ≤ d + 11 := by omega
  have q1 : (0 : Int) ≤ p ∧ (p : Int) < W.1.1.1 := by omega
  simp (disch := omega) only [e52, r52_0, r52_1, r52_4, r52_7, r52_8, r52_11, r52_14, r52_24, r52_25, r52_26, r52_27, r52_30, r52_33, r52_43, r52_44, r52_47, r52_50, r52_51, r52_54, r52_55, r52_58, k_has, q1, s_isWithin, dk_0, dk_1, dk_2, c8, kl_n, kl_i, kl_r, kl_z, kl_l, kl_d, catS_0, catS_c, cat_i, cat_l, cat_d, cat_r, cat_n, kC_r, kC_x, Option.bind_some, Option.toList_some, Option.toList_none, List.cons_append, List.nil_append, gB0, gB1, gB2, gB3, gB4, rvB, nI_iI, i0, i1, l0_, wr_s, aup_s, and_true, true_and, and_self, eq_self, if_true, if_false, Nat.zero_le, Nat.reduceAdd, Nat.reduceLeDiff, gN_I, gN_L, gN_P, bI_0, bI_ok, z0, z1, Bool.true_eq, Bool.false_eq_true, not_true_eq_false, not_false_eq_true]
  rw [if_pos hc]
/-! setTrack -/
def tkT (W : Dk) (t : Nat) (p q : Prop) [Decidable p] [Decidable q] (u v : Int) : Dk := ((W.1.1, (upN W.1.2.1.1 t ((if p then 1 else 0) + (if q then 2 else 0)), upI W.1.2.1.2.1 t u, upI W.1.2.1.2.2 t v), W.1.2.2), W.2)
theorem s_setTrack {t : Nat} {p q : Prop} [Decidable p] [Decidable q] {u v : Int} (hO : dkOk W) (ht : t ≤ 5) (hu : -24 ≤ u ∧ u ≤ 24) (hv : -48 ≤ v ∧ v ≤ 48) (hS : sgOk (tkT W t p q u v).1) : aE (d + 12) 53 [.ref x, .int (iI t), .int (bI p), .int (bI q), .int (iI u), .int (iI v)] (dkW h x W, n, w, g) =
    some (.inl (some (.int (iI (W.1.2.1.2.1 t)))), (dkW h x (seW (tkT W t p q u v)), n, w, g)) := by
  have q1 : (0 : Int) ≤ t ∧ (t : Int) ≤ 5 := by omega
  have d1 := k_tput (d := d + 9) (h := h) (r := (n, w, g)) (x := x) (W := W) (p := p) (q := q) (u := u) (v := v) (show t < 6 by omega)
  change aE (d + 11) 180 _ _ = some (.inl none, (dkW h x (tkT W t p q u v), n, w, g)) at d1
  have d2 := s_settle (d := d + 5) (h := h) (r := (n, w, g)) (x := x) (W := tkT W t p q u v) hS hO.2.1
  simp (disch := omega) only [e53, r53_0, r53_1, r53_4, r53_7, r53_17, r53_19, r53_21, r53_23, r53_26, r53_29, r53_31, r53_33, r53_35, r53_38, r53_41, r53_51, r53_52, r53_55, r53_58, r53_59, r53_62, r53_64, r53_65, r53_68, r53_71, r53_72, r53_73, r53_74, r53_76, r53_78, r53_81, r53_82, r53_85, r53_87, s_isTrack, q1, s_isWithin, hu, hv, s_shiftOf dk_tsI (show t < 6 by omega), d1, d2, dk_0, dk_1, dk_tsI.1, kl_n, kl_i, kl_r, kl_z, kl_l, kl_d, catS_0, catS_c, cat_i, cat_l, cat_d, cat_r, cat_n, kC_r, kC_x, Option.bind_some, Option.toList_some, Option.toList_none, List.cons_append, List.nil_append, gB0, gB1, gB2, gB3, gB4, rvB, nI_iI, i0, i1, l0_, wr_s, aup_s, and_true, true_and, and_self, eq_self, if_true, if_false, Nat.zero_le, Nat.reduceAdd, Nat.reduceLeDiff, gN_I, gN_L, gN_P, bI_0, bI_ok, z0, z1, Bool.true_eq, Bool.false_eq_true, not_true_eq_false, not_false_eq_true]
theorem s_setTrack_1 {t : Int} {p q u v : Int32} (b1 : -2147483648 ≤ t ∧ t < 2147483648) (ht : ¬ (0 ≤ t ∧ t ≤ 5)) : aE (d + 12) 53 [.ref x, .int (iI t), .int p, .int q, .int u, .int v] (dkW h x W, n, w, g) = some (.inr "java/lang/IndexOutOfBoundsException", (dkW h x W, n + 1, w + 6, g)) := by
  have c8 : 8 ≤ d + 11 := by omega
  simp (disch := omega) only [e53, r53_0, r53_1, r53_4, r53_7, s_isTrack, c8, kl_n, kl_i, kl_r, kl_z, kl_l, kl_d, catS_0, catS_c, cat_i, cat_l, cat_d, cat_r, cat_n, kC_r, kC_x, Option.bind_some, Option.toList_some, Option.toList_none, List.cons_append, List.nil_append, gB0, gB1, gB2, gB3, gB4, rvB, nI_iI, i0, i1, l0_, wr_s, aup_s, and_true, true_and, and_self, eq_self, if_true, if_false, Nat.zero_le, Nat.reduceAdd, Nat.reduceLeDiff, gN_I, gN_L, gN_P, bI_0, bI_ok, z0, z1, Bool.true_eq, Bool.false_eq_true, not_true_eq_false, not_false_eq_true]
  rw [if_pos ht]
theorem s_setTrack_2 {t : Nat} {p q : Int32} {u v : Int} (ht : t ≤ 5) (b1 : -2147483648 ≤ u ∧ u < 2147483648) (b2 : -2147483648 ≤ v ∧ v < 2147483648) (hc : ¬ ((-24 ≤ u ∧ u ≤ 24) ∧ (-48 ≤ v ∧ v ≤ 48))) : aE (d + 12) 53 [.ref x, .int (iI t), .int p, .int q, .int (iI u), .int (iI v)] (dkW h x W, n, w, g) = some (.inr "java/lang/IllegalArgumentException", (dkW h x W, n + 1, w + 6, g)) := by
  have c8 : 8 ≤ d + 11 := by omega
  have q1 : (0 : Int) ≤ t ∧ (t : Int) ≤ 5 := by omega
  simp (disch := omega) only [e53, r53_0, r53_1, r53_4, r53_7, r53_17, r53_19, r53_21, r53_23, r53_26, r53_29, r53_31, r53_33, r53_35, r53_38, r53_41, r53_51, r53_52, r53_55, r53_58, r53_59, r53_62, r53_64, r53_65, r53_68, r53_71, r53_72, r53_73, r53_74, r53_76, r53_78, r53_81, r53_82, r53_85, r53_87, s_isTrack, q1, s_isWithin, c8, ite_not, kl_n, kl_i, kl_r, kl_z, kl_l, kl_d, catS_0, catS_c, cat_i, cat_l, cat_d, cat_r, cat_n, kC_r, kC_x, Option.bind_some, Option.toList_some, Option.toList_none, List.cons_append, List.nil_append, gB0, gB1, gB2, gB3, gB4, rvB, nI_iI, i0, i1, l0_, wr_s, aup_s, and_true, true_and, and_self, eq_self, if_true, if_false, Nat.zero_le, Nat.reduceAdd, Nat.reduceLeDiff, gN_I, gN_L, gN_P, bI_0, bI_ok, z0, z1, Bool.true_eq, Bool.false_eq_true, not_true_eq_false, not_false_eq_true]
  repeat' split
  all_goals first
    | rfl
    | (exfalso; omega)
/-! setLoop -/
def lpT (W : Dk) (f t y : Nat) : Dk := ((W.1.1, W.1.2.1, W.1.2.2.1, W.1.2.2.2.1, (if y = 0 then 0 else f, if y = 0 then 0 else t, y)), W.2)
theorem s_setLoop {f t y : Nat} (hO : dkOk W) (hf : f ≤ 9599) (ht : f < t ∧ t ≤ 9600) (hy : y ≤ 8) (hS : sgOk (lpT W f t y).1) : aE (d + 12) 56 [.ref x, .int (iI f), .int (iI t), .int (iI y)] (dkW h x W, n, w, g) =
    some (.inl (some (.int (iI W.1.2.2.2.2.2.2))), (dkW h x (seW (lpT W f t y)), n, w, g)) := by
  have q1 : (0 : Int) ≤ f ∧ (f : Int) < t ∧ (t : Int) ≤ 9600 := by omega
  have q2 : (0 : Int) ≤ y ∧ (y : Int) ≤ 8 := by omega
  have d1 := s_lput (d := d + 10) (h := dkW h x W) (r := (n, w, g)) (f' := f) (t' := t) (x' := y) (dk_18 (W := W)) (by omega)
  rw [dk_lp] at d1
  change aE (d + 11) 113 _ _ = some (.inl none, (dkW h x (lpT W f t y), n, w, g)) at d1
  have d2 := s_settle (d := d + 5) (h := h) (r := (n, w, g)) (x := x) (W := lpT W f t y) hS hO.2.1
  simp (disch := omega) only [e56, r56_0, r56_1, r56_2, r56_5, r56_8, r56_9, r56_10, r56_12, r56_15, r56_18, r56_28, r56_29, r56_32, r56_35, r56_38, r56_40, r56_41, r56_44, r56_47, r56_48, r56_49, r56_50, r56_53, r56_54, r56_57, r56_59, s_isStretch, q1, s_isWithin, q2, d1, d2, dk_0, dk_1, dk_18, kl_n, kl_i, kl_r, kl_z, kl_l, kl_d, catS_0, catS_c, cat_i, cat_l, cat_d, cat_r, cat_n, kC_r, kC_x, Option.bind_some, Option.toList_some, Option.toList_none, List.cons_append, List.nil_append, gB0, gB1, gB2, gB3, gB4, rvB, nI_iI, i0, i1, l0_, wr_s, aup_s, and_true, true_and, and_self, eq_self, if_true, if_false, Nat.zero_le, Nat.reduceAdd, Nat.reduceLeDiff, gN_I, gN_L, gN_P, bI_0, bI_ok, z0, z1, Bool.true_eq, Bool.false_eq_true, not_true_eq_false, not_false_eq_true]
theorem s_setLoop_1 {f t y : Int} (b1 : -2147483648 ≤ f ∧ f < 2147483648) (b2 : -2147483648 ≤ t ∧ t < 2147483648) (b3 : -2147483648 ≤ y ∧ y < 2147483648) (hc : ¬ ((0 ≤ f ∧ f < t ∧ t ≤ 9600) ∧ 0 ≤ y ∧ y ≤ 8)) : aE (d + 12) 56 [.ref x, .int (iI f), .int (iI t), .int (iI y)] (dkW h x W, n, w, g) = some (.inr "java/lang/IllegalArgumentException", (dkW h x W, n + 1, w + 6, g)) := by
  have c8 : 8 ≤ d + 11 := by omega
  simp (disch := omega) only [e56, r56_0, r56_1, r56_2, r56_5, r56_8, r56_9, r56_10, r56_12, r56_15, r56_18, s_isStretch, s_isWithin, c8, ite_not, kl_n, kl_i, kl_r, kl_z, kl_l, kl_d, catS_0, catS_c, cat_i, cat_l, cat_d, cat_r, cat_n, kC_r, kC_x, Option.bind_some, Option.toList_some, Option.toList_none, List.cons_append, List.nil_append, gB0, gB1, gB2, gB3, gB4, rvB, nI_iI, i0, i1, l0_, wr_s, aup_s, and_true, true_and, and_self, eq_self, if_true, if_false, Nat.zero_le, Nat.reduceAdd, Nat.reduceLeDiff, gN_I, gN_L, gN_P, bI_0, bI_ok, z0, z1, Bool.true_eq, Bool.false_eq_true, not_true_eq_false, not_false_eq_true]
  repeat' split
  all_goals first
    | rfl
    | (exfalso; omega)
/-! groups, taking back -/
theorem s_openGroup (hg : W.2.2.2.2 = false) : aE (d + 12) 57 [.ref x] (dkW h x W, n, w, g) = some (.inl (some (.int (iI W.2.1.2.1))), (dkW h x (W.1, W.2.1, W.2.2.1, W.2.2.2.1, true), n, w, g)) := by
  have q : ¬ (W.2.2.2.2 = true) := by rw [hg]; exact fun z => by cases z
  have e1 : iI 1 = bI (true = true) := rfl
  have hs : ∀ (y : Value) (p : Prop) [Decidable p], sF (some (aB 9 [.ref (x + 1), .ref (x + 19), .ref (x + 399), .ref (x + 401), .int (bI p)])) 9 4 1 (.int (iI 1)) = some (aB 9 [.ref (x + 1), .ref (x + 19), .ref (x + 399), .ref (x + 401), .int (iI 1)]) := fun y p _ => sB4z (p := true = true)
  have hg9 : aup (dkW h x W) x (aB 9 [.ref (x + 1), .ref (x + 19), .ref (x + 399), .ref (x + 401), .int (iI 1)]) = dkW h x (W.1, W.2.1, W.2.2.1, W.2.2.2.1, true) := dk_g (g := true)
  simp only [e57, r57_0, r57_1, r57_4, r57_7, r57_18, r57_19, r57_20, r57_23, r57_24, r57_27, r57_30, dk_0, dk_hist, q, hs .null, hg9, kl_n, kl_i, kl_r, kl_z, kl_l, kl_d, catS_0, catS_c, cat_i, cat_l, cat_d, cat_r, cat_n, kC_r, kC_x, Option.bind_some, Option.toList_some, Option.toList_none, List.cons_append, List.nil_append, gB0, gB1, gB2, gB3, gB4, rvB, nI_iI, i0, i1, l0_, wr_s, aup_s, and_true, true_and, and_self, eq_self, if_true, if_false, Nat.zero_le, Nat.reduceAdd, Nat.reduceLeDiff, gN_I, gN_L, gN_P, bI_0, bI_ok, z0, z1, Bool.true_eq, Bool.false_eq_true, not_true_eq_false, not_false_eq_true]
theorem s_openGroup_1 (hg : W.2.2.2.2 = true) : aE (d + 12) 57 [.ref x] (dkW h x W, n, w, g) = some (.inr "java/lang/IllegalStateException", (dkW h x W, n + 1, w + 6, g)) := by
  have c8 : 8 ≤ d + 11 := by omega
  simp only [e57, r57_0, r57_1, r57_4, r57_7, r57_18, r57_19, r57_20, r57_23, r57_24, r57_27, r57_30, dk_0, hg, c8, kl_n, kl_i, kl_r, kl_z, kl_l, kl_d, catS_0, catS_c, cat_i, cat_l, cat_d, cat_r, cat_n, kC_r, kC_x, Option.bind_some, Option.toList_some, Option.toList_none, List.cons_append, List.nil_append, gB0, gB1, gB2, gB3, gB4, rvB, nI_iI, i0, i1, l0_, wr_s, aup_s, and_true, true_and, and_self, eq_self, if_true, if_false, Nat.zero_le, Nat.reduceAdd, Nat.reduceLeDiff, gN_I, gN_L, gN_P, bI_0, bI_ok, z0, z1, Bool.true_eq, Bool.false_eq_true, not_true_eq_false, not_false_eq_true]
theorem s_closeGroup (hO : dkOk W) (hg : W.2.2.2.2 = true) : aE (d + 12) 58 [.ref x] (dkW h x W, n, w, g) =
    some (.inl (some (.int (bI (¬ lkS (W.2.1.2.2.2 W.2.1.1) W.1)))), (dkW h x (seW (W.1, W.2.1, W.2.2.1, W.2.2.2.1, false)), n, w, g)) := by
  have e1 : iI 0 = bI (false = true) := rfl
  have hs : ∀ (y : Value) (p : Prop) [Decidable p], sF (some (aB 9 [.ref (x + 1), .ref (x + 19), .ref (x + 399), .ref (x + 401), .int (bI p)])) 9 4 1 (.int (iI 0)) = some (aB 9 [.ref (x + 1), .ref (x + 19), .ref (x + 399), .ref (x + 401), .int (iI 0)]) := fun y p _ => sB4z (p := false = true)
  have hg9 : aup (dkW h x W) x (aB 9 [.ref (x + 1), .ref (x + 19), .ref (x + 399), .ref (x + 401), .int (iI 0)]) = dkW h x (W.1, W.2.1, W.2.2.1, W.2.2.2.1, false) := dk_g (g := false)
  have d1 := s_keep (d := d + 6) (h := h) (r := (n, w, g)) (x := x) (W := (W.1, W.2.1, W.2.2.1, W.2.2.2.1, false)) hO.1 hO.2.1
  have e2 : seW (W.1, W.2.1, W.2.2.1, W.2.2.2.1, false) = if lkS (W.2.1.2.2.2 W.2.1.1) W.1 then (W.1, W.2.1, W.2.2.1, W.2.2.2.1, false) else kpW (W.1, W.2.1, W.2.2.1, W.2.2.2.1, false) := by
    unfold seW
    by_cases q : lkS (W.2.1.2.2.2 W.2.1.1) W.1
    · rw [if_pos q, if_pos (Or.inr q)]
    · rw [if_neg q, if_neg (fun z => z.elim (fun y => by cases y) q)]
  rw [e2]
  simp only [e58, r58_0, r58_1, r58_4, r58_7, r58_18, r58_19, r58_20, r58_23, r58_24, r58_27, r58_28, r58_31, r58_34, dk_0, dk_hist, hg, hs .null, hg9, d1, kl_n, kl_i, kl_r, kl_z, kl_l, kl_d, catS_0, catS_c, cat_i, cat_l, cat_d, cat_r, cat_n, kC_r, kC_x, Option.bind_some, Option.toList_some, Option.toList_none, List.cons_append, List.nil_append, gB0, gB1, gB2, gB3, gB4, rvB, nI_iI, i0, i1, l0_, wr_s, aup_s, and_true, true_and, and_self, eq_self, if_true, if_false, Nat.zero_le, Nat.reduceAdd, Nat.reduceLeDiff, gN_I, gN_L, gN_P, bI_0, bI_ok, z0, z1, Bool.true_eq, Bool.false_eq_true, not_true_eq_false, not_false_eq_true]
theorem s_closeGroup_1 (hg : W.2.2.2.2 = false) : aE (d + 12) 58 [.ref x] (dkW h x W, n, w, g) = some (.inr "java/lang/IllegalStateException", (dkW h x W, n + 1, w + 6, g)) := by
  have c8 : 8 ≤ d + 11 := by omega
  have q : ¬ (W.2.2.2.2 = true) := by rw [hg]; exact fun z => by cases z
  simp only [e58, r58_0, r58_1, r58_4, r58_7, r58_18, r58_19, r58_20, r58_23, r58_24, r58_27, r58_28, r58_31, r58_34, dk_0, q, c8, kl_n, kl_i, kl_r, kl_z, kl_l, kl_d, catS_0, catS_c, cat_i, cat_l, cat_d, cat_r, cat_n, kC_r, kC_x, Option.bind_some, Option.toList_some, Option.toList_none, List.cons_append, List.nil_append, gB0, gB1, gB2, gB3, gB4, rvB, nI_iI, i0, i1, l0_, wr_s, aup_s, and_true, true_and, and_self, eq_self, if_true, if_false, Nat.zero_le, Nat.reduceAdd, Nat.reduceLeDiff, gN_I, gN_L, gN_P, bI_0, bI_ok, z0, z1, Bool.true_eq, Bool.false_eq_true, not_true_eq_false, not_false_eq_true]
def bkW (W : Dk) : Dk := stW W ((W.2.1.1 + 20) % 21) (W.2.1.2.1 - 1) (W.2.1.2.2.1 + 1)
def fwW (W : Dk) : Dk := stW W ((W.2.1.1 + 1) % 21) (W.2.1.2.1 + 1) (W.2.1.2.2.1 - 1)
theorem s_undo (hO : dkOk W) (hg : W.2.2.2.2 = false) (hb : 0 < W.2.1.2.1) : aE (d + 12) 59 [.ref x] (dkW h x W, n, w, g) = some (.inl (some (.int (iI (W.2.1.2.1 - 1 : Nat)))), (dkW h x (bkW W), n, w, g)) := by
  have q : ¬ (W.2.2.2.2 = true) := by rw [hg]; exact fun z => by cases z
  have q2 : (1 : Int) ≤ W.2.1.2.1 := by omega
  have b2 := hO.2.1.2.1
  have d1 := s_stepBack (d := d + 5) (h := h) (r := (n, w, g)) (x := x) (W := W) hO.2.1 hb
  change aE (d + 11) 109 _ _ = some (.inl none, (dkW h x (bkW W), n, w, g)) at d1
  simp (disch := omega) only [e59, r59_0, r59_1, r59_4, r59_7, r59_8, r59_11, r59_14, r59_15, r59_18, r59_29, r59_30, r59_33, r59_34, r59_37, r59_40, r59_41, r59_44, r59_47, dk_0, dk_hist, q, iI_le, q2, d1, kl_n, kl_i, kl_r, kl_z, kl_l, kl_d, catS_0, catS_c, cat_i, cat_l, cat_d, cat_r, cat_n, kC_r, kC_x, Option.bind_some, Option.toList_some, Option.toList_none, List.cons_append, List.nil_append, gB0, gB1, gB2, gB3, gB4, rvB, nI_iI, i0, i1, l0_, wr_s, aup_s, and_true, true_and, and_self, eq_self, if_true, if_false, Nat.zero_le, Nat.reduceAdd, Nat.reduceLeDiff, gN_I, gN_L, gN_P, bI_0, bI_ok, z0, z1, Bool.true_eq, Bool.false_eq_true, not_true_eq_false, not_false_eq_true]
  rfl
theorem s_undo_1 (hO : dkOk W) (hc : W.2.2.2.2 = true ∨ W.2.1.2.1 = 0) : aE (d + 12) 59 [.ref x] (dkW h x W, n, w, g) = some (.inr "java/lang/IllegalStateException", (dkW h x W, n + 1, w + 6, g)) := by
  have c8 : 8 ≤ d + 11 := by omega
  have b2 := hO.2.1.2.1
  by_cases q : W.2.2.2.2 = true
  · simp (disch := omega) only [e59, r59_0, r59_1, r59_4, r59_7, r59_8, r59_11, r59_14, r59_15, r59_18, r59_29, r59_30, r59_33, r59_34, r59_37, r59_40, r59_41, r59_44, r59_47, dk_0, dk_hist, q, c8, kl_n, kl_i, kl_r, kl_z, kl_l, kl_d, catS_0, catS_c, cat_i, cat_l, cat_d, cat_r, cat_n, kC_r, kC_x, Option.bind_some, Option.toList_some, Option.toList_none, List.cons_append, List.nil_append, gB0, gB1, gB2, gB3, gB4, rvB, nI_iI, i0, i1, l0_, wr_s, aup_s, and_true, true_and, and_self, eq_self, if_true, if_false, Nat.zero_le, Nat.reduceAdd, Nat.reduceLeDiff, gN_I, gN_L, gN_P, bI_0, bI_ok, z0, z1, Bool.true_eq, Bool.false_eq_true, not_true_eq_false, not_false_eq_true]
  · have q2 : ¬ (1 : Int) ≤ W.2.1.2.1 := by have := hc.resolve_left q; omega
    simp (disch := omega) only [e59, r59_0, r59_1, r59_4, r59_7, r59_8, r59_11, r59_14, r59_15, r59_18, r59_29, r59_30, r59_33, r59_34, r59_37, r59_40, r59_41, r59_44, r59_47, dk_0, dk_hist, q, iI_le, q2, c8, kl_n, kl_i, kl_r, kl_z, kl_l, kl_d, catS_0, catS_c, cat_i, cat_l, cat_d, cat_r, cat_n, kC_r, kC_x, Option.bind_some, Option.toList_some, Option.toList_none, List.cons_append, List.nil_append, gB0, gB1, gB2, gB3, gB4, rvB, nI_iI, i0, i1, l0_, wr_s, aup_s, and_true, true_and, and_self, eq_self, if_true, if_false, Nat.zero_le, Nat.reduceAdd, Nat.reduceLeDiff, gN_I, gN_L, gN_P, bI_0, bI_ok, z0, z1, Bool.true_eq, Bool.false_eq_true, not_true_eq_false, not_false_eq_true]
theorem s_redo (hO : dkOk W) (hg : W.2.2.2.2 = false) (hb : 0 < W.2.1.2.2.1) : aE (d + 12) 60 [.ref x] (dkW h x W, n, w, g) = some (.inl (some (.int (iI (W.2.1.2.2.1 - 1 : Nat)))), (dkW h x (fwW W), n, w, g)) := by
  have q : ¬ (W.2.2.2.2 = true) := by rw [hg]; exact fun z => by cases z
  have q2 : (1 : Int) ≤ W.2.1.2.2.1 := by omega
  have b2 := hO.2.1.2.2.1
  have d1 := s_stepAhead (d := d + 5) (h := h) (r := (n, w, g)) (x := x) (W := W) hO.2.1 hb
  change aE (d + 11) 110 _ _ = some (.inl none, (dkW h x (fwW W), n, w, g)) at d1
  simp (disch := omega) only [e60, r60_0, r60_1, r60_4, r60_7, r60_8, r60_11, r60_14, r60_15, r60_18, r60_29, r60_30, r60_33, r60_34, r60_37, r60_40, r60_41, r60_44, r60_47, dk_0, dk_hist, q, iI_le, q2, d1, kl_n, kl_i, kl_r, kl_z, kl_l, kl_d, catS_0, catS_c, cat_i, cat_l, cat_d, cat_r, cat_n, kC_r, kC_x, Option.bind_some, Option.toList_some, Option.toList_none, List.cons_append, List.nil_append, gB0, gB1, gB2, gB3, gB4, rvB, nI_iI, i0, i1, l0_, wr_s, aup_s, and_true, true_and, and_self, eq_self, if_true, if_false, Nat.zero_le, Nat.reduceAdd, Nat.reduceLeDiff, gN_I, gN_L, gN_P, bI_0, bI_ok, z0, z1, Bool.true_eq, Bool.false_eq_true, not_true_eq_false, not_false_eq_true]
  rfl
theorem s_redo_1 (hO : dkOk W) (hc : W.2.2.2.2 = true ∨ W.2.1.2.2.1 = 0) : aE (d + 12) 60 [.ref x] (dkW h x W, n, w, g) = some (.inr "java/lang/IllegalStateException", (dkW h x W, n + 1, w + 6, g)) := by
  have c8 : 8 ≤ d + 11 := by omega
  have b2 := hO.2.1.2.2.1
  by_cases q : W.2.2.2.2 = true
  · simp (disch := omega) only [e60, r60_0, r60_1, r60_4, r60_7, r60_8, r60_11, r60_14, r60_15, r60_18, r60_29, r60_30, r60_33, r60_34, r60_37, r60_40, r60_41, r60_44, r60_47, dk_0, dk_hist, q, c8, kl_n, kl_i, kl_r, kl_z, kl_l, kl_d, catS_0, catS_c, cat_i, cat_l, cat_d, cat_r, cat_n, kC_r, kC_x, Option.bind_some, Option.toList_some, Option.toList_none, List.cons_append, List.nil_append, gB0, gB1, gB2, gB3, gB4, rvB, nI_iI, i0, i1, l0_, wr_s, aup_s, and_true, true_and, and_self, eq_self, if_true, if_false, Nat.zero_le, Nat.reduceAdd, Nat.reduceLeDiff, gN_I, gN_L, gN_P, bI_0, bI_ok, z0, z1, Bool.true_eq, Bool.false_eq_true, not_true_eq_false, not_false_eq_true]
  · have q2 : ¬ (1 : Int) ≤ W.2.1.2.2.1 := by have := hc.resolve_left q; omega
    simp (disch := omega) only [e60, r60_0, r60_1, r60_4, r60_7, r60_8, r60_11, r60_14, r60_15, r60_18, r60_29, r60_30, r60_33, r60_34, r60_37, r60_40, r60_41, r60_44, r60_47, dk_0, dk_hist, q, iI_le, q2, c8, kl_n, kl_i, kl_r, kl_z, kl_l, kl_d, catS_0, catS_c, cat_i, cat_l, cat_d, cat_r, cat_n, kC_r, kC_x, Option.bind_some, Option.toList_some, Option.toList_none, List.cons_append, List.nil_append, gB0, gB1, gB2, gB3, gB4, rvB, nI_iI, i0, i1, l0_, wr_s, aup_s, and_true, true_and, and_self, eq_self, if_true, if_false, Nat.zero_le, Nat.reduceAdd, Nat.reduceLeDiff, gN_I, gN_L, gN_P, bI_0, bI_ok, z0, z1, Bool.true_eq, Bool.false_eq_true, not_true_eq_false, not_false_eq_true]
theorem s_undos : aE (d + 12) 61 [.ref x] (dkW h x W, n, w, g) = some (.inl (some (.int (iI W.2.1.2.1))), (dkW h x W, n, w, g)) := by
  simp only [e61, r61_0, r61_1, r61_4, r61_7, dk_0, dk_hist, kl_n, kl_i, kl_r, kl_z, kl_l, kl_d, catS_0, catS_c, cat_i, cat_l, cat_d, cat_r, cat_n, kC_r, kC_x, Option.bind_some, Option.toList_some, Option.toList_none, List.cons_append, List.nil_append, gB0, gB1, gB2, gB3, gB4, rvB, nI_iI, i0, i1, l0_, wr_s, aup_s, and_true, true_and, and_self, eq_self, if_true, if_false, Nat.zero_le, Nat.reduceAdd, Nat.reduceLeDiff, gN_I, gN_L, gN_P, bI_0, bI_ok, z0, z1, Bool.true_eq, Bool.false_eq_true, not_true_eq_false, not_false_eq_true]
theorem s_redos : aE (d + 12) 62 [.ref x] (dkW h x W, n, w, g) = some (.inl (some (.int (iI W.2.1.2.2.1))), (dkW h x W, n, w, g)) := by
  simp only [e62, r62_0, r62_1, r62_4, r62_7, dk_0, dk_hist, kl_n, kl_i, kl_r, kl_z, kl_l, kl_d, catS_0, catS_c, cat_i, cat_l, cat_d, cat_r, cat_n, kC_r, kC_x, Option.bind_some, Option.toList_some, Option.toList_none, List.cons_append, List.nil_append, gB0, gB1, gB2, gB3, gB4, rvB, nI_iI, i0, i1, l0_, wr_s, aup_s, and_true, true_and, and_self, eq_self, if_true, if_false, Nat.zero_le, Nat.reduceAdd, Nat.reduceLeDiff, gN_I, gN_L, gN_P, bI_0, bI_ok, z0, z1, Bool.true_eq, Bool.false_eq_true, not_true_eq_false, not_false_eq_true]
end
