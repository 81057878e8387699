/-! ===== copied, pasted; the best step; sums of notes ===== -/
section
variable {d : Nat} {h : aHf} {r : Nat × Nat × Nat × Nat} {x : Nat} {W : Dk}
theorem dk_cp : dkW h x W (x + 399) = some (aB 4 [.ref (x + 399 + 1), .int (iI W.2.2.1.1)]) := dk_clip.1
theorem c_size : aE (d + 1) 142 [.ref (x + 399)] (dkW h x W, r) = some (.inl (some (.int (iI W.2.2.1.1))), (dkW h x W, r)) := by
  have e := s_nsize (d := d) (a := x + 399) (n := W.2.2.1.1) (F := W.2.2.1.2) (h := dkW h x W) (r := r)
  rw [dk_cl] at e
  exact e
theorem c_codeAt {j : Nat} (hj : j < 60) : aE (d + 2) 138 [.ref (x + 399), .int (iI j)] (dkW h x W, r) = some (.inl (some (.long (lI (W.2.2.1.2 j)))), (dkW h x W, r)) := by
  have e := s_codeAt (d := d) (a := x + 399) (n := W.2.2.1.1) (F := W.2.2.1.2) (h := dkW h x W) (r := r) (show (0 : Int) ≤ j by omega) (by omega)
  rw [dk_cl, Int.toNat_natCast] at e
  exact e
theorem c_clear : aE (d + 1) 148 [.ref (x + 399)] (dkW h x W, r) = some (.inl none, (dkW h x (W.1, W.2.1, (0, W.2.2.1.2), W.2.2.2), r)) := by
  have e := s_clear (d := d) (a := x + 399) (n := W.2.2.1.1) (F := W.2.2.1.2) (h := dkW h x W) (r := r)
  rw [dk_cl, dk_cl] at e
  exact e
theorem c_insert {c : Nat} (hn : W.2.2.1.1 < 60) (hc : cOk c) (hF : ∀ i, cOk (W.2.2.1.2 i)) : aE (d + 4) 146 [.ref (x + 399), .long (lI c)] (dkW h x W, r) = some (.inl (some (.int (iI (sk W.2.2.1.2 c W.2.2.1.1)))), (dkW h x (W.1, W.2.1, nlA W.2.2.1 c, W.2.2.2), r)) := by
  have e := s_insert (d := d) (a := x + 399) (h := dkW h x W) (r := r) hn hc hF
  rw [dk_cl, dk_cl] at e
  exact e
end
def cbC (v : Int) (c : Nat) : Nat := cO (cT c) ((cS c : Int) - v).toNat (cP c) (cL c) (cF c)
def cpN (F : Nat → Nat) (t v u : Int) : Nat → NLv → NLv
  | 0, e => e
  | k + 1, e => if cIn (F k) t v u then nlA (cpN F t v u k e) (cbC v (F k)) else cpN F t v u k e
theorem nlA_ok {e : NLv} {c : Nat} (hc : cOk c) (he : ∀ i, cOk (e.2 i)) : ∀ i, cOk ((nlA e c).2 i) := insN_ok hc he
theorem cpN_1 {F : Nat → Nat} {t v u : Int} {e : NLv} : ∀ k, (cpN F t v u k e).1 = e.1 + cntP (inB4 t v u) F k
  | 0 => rfl
  | k + 1 => by
    have ih := cpN_1 (F := F) (t := t) (v := v) (u := u) (e := e) k
    unfold cpN
    by_cases q : cIn (F k) t v u
    · rw [if_pos q, cntP_t (decide_eq_true q)]
      show (cpN F t v u k e).1 + 1 = _
      omega
    · rw [if_neg q, cntP_f (fun z => q (of_decide_eq_true z)), ih]
theorem cbC_ok {v : Int} {c : Nat} (hv : 0 ≤ v) (hc : cOk c) : cOk (cbC v c) := by
  have a1 := cS_lt c
  exact cO_ok (cT_lt hc) (by omega) (cP_lt c) (cL_lt c) (cF_lt c)
theorem cpN_ok {F : Nat → Nat} {t v u : Int} {e : NLv} (hv : 0 ≤ v) (hF : ∀ i, cOk (F i)) (he : ∀ i, cOk (e.2 i)) : ∀ k i, cOk ((cpN F t v u k e).2 i)
  | 0 => he
  | k + 1 => by
    unfold cpN
    split
    · exact nlA_ok (cbC_ok hv (hF k)) (cpN_ok hv hF he k)
    · exact cpN_ok hv hF he k
section
variable {d n w : Nat} {g : Nat × Nat} {h : aHf} {x : Nat} {W : Dk}
theorem cp_loop {t v u : Int} (hO : dkOk W) (hr : rgOk t v u) : ∀ m i : Nat, i + m = W.1.1.1 → ∀ l5 l6 : Option Value, L (d + 11) 49 29 [some (.ref x), some (.int (iI t)), some (.int (iI v)), some (.int (iI u)), some (.int (iI i)), l5, l6] [] (dkW h x (W.1, W.2.1, cpN W.1.1.2 t v u i (0, W.2.2.1.2), W.2.2.2), n, w, g) =
    some (.inl (some (.int (iI (cpN W.1.1.2 t v u W.1.1.1 (0, W.2.2.1.2)).1))), (dkW h x (W.1, W.2.1, cpN W.1.1.2 t v u W.1.1.1 (0, W.2.2.1.2), W.2.2.2), n, w, g)) := by
  have hn := hO.1.1
  intro m
  induction m with
  | zero =>
    intro i hi l5 l6
    obtain rfl : i = W.1.1.1 := by omega
    have c1 : (W.1.1.1 : Int) ≤ W.1.1.1 := by omega
    rw [r49_29]
    simp (disch := omega) only [r49_0, r49_1, r49_2, r49_3, r49_6, r49_9, r49_19, r49_20, r49_23, r49_26, r49_27, r49_31, r49_32, r49_35, r49_38, r49_41, r49_44, r49_45, r49_48, r49_51, r49_53, r49_56, r49_58, r49_60, r49_61, r49_62, r49_63, r49_66, r49_69, r49_70, r49_73, r49_75, r49_77, r49_80, r49_81, r49_82, r49_85, r49_88i, r49_88, r49_89, r49_92, r49_95, r49_96, r49_99, r49_102, dk_0, dk_1, dk_2, k_size, dk_cp, c_size, iI_le, c1, kl_n, kl_i, kl_r, kl_z, kl_l, kl_d, catS_0, catS_c, cat_i, cat_l, cat_d, cat_r, cat_n, kC_r, kC_x, Option.bind_some, Option.toList_some, Option.toList_none, List.cons_append, List.nil_append, gB0, gB1, gB2, gB3, gB4, rvB, nI_iI, i0, i1, l0_, wr_s, aup_s, and_true, true_and, and_self, eq_self, if_true, if_false, Nat.zero_le, Nat.reduceAdd, Nat.reduceLeDiff, gN_I, gN_L, gN_P, bI_0, bI_ok, z0, z1, Bool.true_eq, Bool.false_eq_true, not_true_eq_false, not_false_eq_true]
  | succ m ih =>
    intro i hi l5 l6
    have c1 : ¬ (W.1.1.1 : Int) ≤ i := by omega
    have e1 : (i : Int) + 1 = ((i + 1 : Nat) : Int) := by omega
    have hc := hO.1.2.1 i
    have a1 := cS_lt (W.1.1.2 i)
    have h9 := fun l4 l5 => ih (i + 1) (by omega) l4 l5
    rw [r49_29]
    by_cases q : cIn (W.1.1.2 i) t v u
    · have qT := eq_true q
      have e2 : (cS (W.1.1.2 i) : Int) - v = ((((cS (W.1.1.2 i) : Int) - v).toNat : Nat) : Int) := by have := q.2.1; omega
      have p1 : ((cS (W.1.1.2 i) : Int) - v).toNat < 16384 := by omega
      have e4 : cpN W.1.1.2 t v u (i + 1) (0, W.2.2.1.2) = nlA (cpN W.1.1.2 t v u i (0, W.2.2.1.2)) (cbC v (W.1.1.2 i)) := if_pos q
      have e5 : cO (cT (W.1.1.2 i)) ((cS (W.1.1.2 i) : Int) - v).toNat (cP (W.1.1.2 i)) (cL (W.1.1.2 i)) (cF (W.1.1.2 i)) = cbC v (W.1.1.2 i) := rfl
      have hlt : (cpN W.1.1.2 t v u i (0, W.2.2.1.2)).1 < 60 := by
        have := cntP_le (inB4 t v u) W.1.1.2 i
        rw [cpN_1]
        show 0 + _ < 60
        omega
      have ki := c_insert (d := d + 7) (h := h) (x := x) (r := (n, w, g)) (W := (W.1, W.2.1, cpN W.1.1.2 t v u i (0, W.2.2.1.2), W.2.2.2)) hlt (cbC_ok hr.2.2.1 hc) (cpN_ok (e := (0, W.2.2.1.2)) hr.2.2.1 hO.1.2.1 hO.2.2.2.1 i)
      rw [e4] at h9
      generalize ((cS (W.1.1.2 i) : Int) - v).toNat = pp at e2 p1 e5
      simp (disch := omega) only [r49_0, r49_1, r49_2, r49_3, r49_6, r49_9, r49_19, r49_20, r49_23, r49_26, r49_27, r49_31, r49_32, r49_35, r49_38, r49_41, r49_44, r49_45, r49_48, r49_51, r49_53, r49_56, r49_58, r49_60, r49_61, r49_62, r49_63, r49_66, r49_69, r49_70, r49_73, r49_75, r49_77, r49_80, r49_81, r49_82, r49_85, r49_88i, r49_88, r49_89, r49_92, r49_95, r49_96, r49_99, r49_102, dk_0, dk_1, dk_2, k_size, iI_le, c1, k_codeAt, s_isIn hc, qT, s_start hc, iI_sub, e2, s_withStart hc p1, e5, dk_cp, ki, iI_add, e1, h9, kl_n, kl_i, kl_r, kl_z, kl_l, kl_d, catS_0, catS_c, cat_i, cat_l, cat_d, cat_r, cat_n, kC_r, kC_x, Option.bind_some, Option.toList_some, Option.toList_none, List.cons_append, List.nil_append, gB0, gB1, gB2, gB3, gB4, rvB, nI_iI, i0, i1, l0_, wr_s, aup_s, and_true, true_and, and_self, eq_self, if_true, if_false, Nat.zero_le, Nat.reduceAdd, Nat.reduceLeDiff, gN_I, gN_L, gN_P, bI_0, bI_ok, z0, z1, Bool.true_eq, Bool.false_eq_true, not_true_eq_false, not_false_eq_true]
    · have qT := eq_false q
      have e4 : cpN W.1.1.2 t v u (i + 1) (0, W.2.2.1.2) = cpN W.1.1.2 t v u i (0, W.2.2.1.2) := if_neg q
      rw [e4] at h9
      simp (disch := omega) only [r49_0, r49_1, r49_2, r49_3, r49_6, r49_9, r49_19, r49_20, r49_23, r49_26, r49_27, r49_31, r49_32, r49_35, r49_38, r49_41, r49_44, r49_45, r49_48, r49_51, r49_53, r49_56, r49_58, r49_60, r49_61, r49_62, r49_63, r49_66, r49_69, r49_70, r49_73, r49_75, r49_77, r49_80, r49_81, r49_82, r49_85, r49_88i, r49_88, r49_89, r49_92, r49_95, r49_96, r49_99, r49_102, dk_0, dk_1, dk_2, k_size, iI_le, c1, k_codeAt, s_isIn hc, qT, iI_add, e1, h9, kl_n, kl_i, kl_r, kl_z, kl_l, kl_d, catS_0, catS_c, cat_i, cat_l, cat_d, cat_r, cat_n, kC_r, kC_x, Option.bind_some, Option.toList_some, Option.toList_none, List.cons_append, List.nil_append, gB0, gB1, gB2, gB3, gB4, rvB, nI_iI, i0, i1, l0_, wr_s, aup_s, and_true, true_and, and_self, eq_self, if_true, if_false, Nat.zero_le, Nat.reduceAdd, Nat.reduceLeDiff, gN_I, gN_L, gN_P, bI_0, bI_ok, z0, z1, Bool.true_eq, Bool.false_eq_true, not_true_eq_false, not_false_eq_true]
theorem s_copy {t v u : Int} (hO : dkOk W) (hr : rgOk t v u) : aE (d + 12) 49 [.ref x, .int (iI t), .int (iI v), .int (iI u)] (dkW h x W, n, w, g) =
    some (.inl (some (.int (iI (cpN W.1.1.2 t v u W.1.1.1 (0, W.2.2.1.2)).1))), (dkW h x (W.1, W.2.1, cpN W.1.1.2 t v u W.1.1.1 (0, W.2.2.1.2), W.2.2.2), n, w, g)) := by
  have hl := cp_loop (d := d) (n := n) (w := w) (g := g) (h := h) (x := x) hO hr W.1.1.1 0 (by omega) none none
  rw [show ((0 : Nat) : Int) = 0 from rfl, show cpN W.1.1.2 t v u 0 (0, W.2.2.1.2) = (0, W.2.2.1.2) from rfl] at hl
  have hr2 : rgOk t v u := hr
  unfold rgOk at hr2
  have q1 := eq_true hr2
  simp (disch := omega) only [e49, r49_0, r49_1, r49_2, r49_3, r49_6, r49_9, r49_19, r49_20, r49_23, r49_26, r49_27, r49_31, r49_32, r49_35, r49_38, r49_41, r49_44, r49_45, r49_48, r49_51, r49_53, r49_56, r49_58, r49_60, r49_61, r49_62, r49_63, r49_66, r49_69, r49_70, r49_73, r49_75, r49_77, r49_80, r49_81, r49_82, r49_85, r49_88i, r49_88, r49_89, r49_92, r49_95, r49_96, r49_99, r49_102, s_isRange, q1, dk_0, dk_cp, c_clear, hl, kl_n, kl_i, kl_r, kl_z, kl_l, kl_d, catS_0, catS_c, cat_i, cat_l, cat_d, cat_r, cat_n, kC_r, kC_x, Option.bind_some, Option.toList_some, Option.toList_none, List.cons_append, List.nil_append, gB0, gB1, gB2, gB3, gB4, rvB, nI_iI, i0, i1, l0_, wr_s, aup_s, and_true, true_and, and_self, eq_self, if_true, if_false, Nat.zero_le, Nat.reduceAdd, Nat.reduceLeDiff, gN_I, gN_L, gN_P, bI_0, bI_ok, z0, z1, Bool.true_eq, Bool.false_eq_true, not_true_eq_false, not_false_eq_true]
theorem s_copy_1 {t v u : Int} (b1 : -2147483648 ≤ t ∧ t < 2147483648) (b2 : -2147483648 ≤ v ∧ v < 2147483648) (b3 : -2147483648 ≤ u ∧ u < 2147483648) (hc : ¬ rgOk t v u) :
    aE (d + 12) 49 [.ref x, .int (iI t), .int (iI v), .int (iI u)] (dkW h x W, n, w, g) = some (.inr "java/lang/IllegalArgumentException", (dkW h x W, n + 1, w + 6, g)) := by
  have c8 : 8 ≤ d + 11 := by omega
  simp (disch := omega) only [e49, r49_0, r49_1, r49_2, r49_3, r49_6, r49_9, s_isRange, c8, ite_not, kl_n, kl_i, kl_r, kl_z, kl_l, kl_d, catS_0, catS_c, cat_i, cat_l, cat_d, cat_r, cat_n, kC_r, kC_x, Option.bind_some, Option.toList_some, Option.toList_none, List.cons_append, List.nil_append, gB0, gB1, gB2, gB3, gB4, rvB, nI_iI, i0, i1, l0_, wr_s, aup_s, and_true, true_and, and_self, eq_self, if_true, if_false, Nat.zero_le, Nat.reduceAdd, Nat.reduceLeDiff, gN_I, gN_L, gN_P, bI_0, bI_ok, z0, z1, Bool.true_eq, Bool.false_eq_true, not_true_eq_false, not_false_eq_true]
  rw [if_neg hc]
/-! paste -/
end
def ptP (k : Nat) (c : Nat) : Bool := decide (k + cS c ≤ 9599)
def psC (k : Nat) (c : Nat) : Nat := cO (cT c) (k + cS c) (cP c) (cL c) (cF c)
def psN (C : Nat → Nat) (k : Nat) : Nat → NLv → NLv
  | 0, e => e
  | j + 1, e => if k + cS (C j) ≤ 9599 then nlA (psN C k j e) (psC k (C j)) else psN C k j e
theorem psN_1 {C : Nat → Nat} {k : Nat} {e : NLv} : ∀ j, (psN C k j e).1 = e.1 + cntP (ptP k) C j
  | 0 => rfl
  | j + 1 => by
    have ih := psN_1 (C := C) (k := k) (e := e) j
    unfold psN
    by_cases q : k + cS (C j) ≤ 9599
    · rw [if_pos q, cntP_t (decide_eq_true q)]
      show (psN C k j e).1 + 1 = _
      omega
    · rw [if_neg q, cntP_f (fun z => q (of_decide_eq_true z)), ih]
theorem psN_ok {C : Nat → Nat} {k : Nat} {e : NLv} (hF : ∀ i, cOk (C i)) (he : ∀ i, cOk (e.2 i)) : ∀ j i, cOk ((psN C k j e).2 i)
  | 0 => he
  | j + 1 => by
    unfold psN
    split
    · exact nlA_ok (cO_ok (cT_lt (hF j)) (by omega) (cP_lt _) (cL_lt _) (cF_lt _)) (psN_ok hF he j)
    · exact psN_ok hF he j
theorem cntP_mono (p : Nat → Bool) (F : Nat → Nat) {i k : Nat} (h : i ≤ k) : cntP p F i ≤ cntP p F k := by
  induction h with
  | refl => exact Nat.le_refl _
  | step _ ih => exact Nat.le_trans ih (Nat.le_add_right _ _)
section
variable {d n w : Nat} {g : Nat × Nat} {h : aHf} {x : Nat} {W : Dk}
theorem pf_loop {k : Nat} (hO : dkOk W) (hk : k ≤ 9599) (V : aR) (hV : ∀ l4 l5 l6 : Option Value, L (d + 11) 50 60 [some (.ref x), some (.int (iI k)), some (.int (iI (cntP (ptP k) W.2.2.1.2 W.2.2.1.1))), some (.int (iI W.2.2.1.1)), l4, l5, l6] [] (dkW h x W, n, w, g) = V) :
    ∀ m i : Nat, i + m = W.2.2.1.1 → ∀ l4 l5 l6 : Option Value, L (d + 11) 50 21 [some (.ref x), some (.int (iI k)), some (.int (iI (cntP (ptP k) W.2.2.1.2 i))), some (.int (iI i)), l4, l5, l6] [] (dkW h x W, n, w, g) = V := by
  have hn := hO.2.2.1
  intro m
  induction m with
  | zero =>
    intro i hi l4 l5 l6
    obtain rfl : i = W.2.2.1.1 := by omega
    have c1 : (W.2.2.1.1 : Int) ≤ W.2.2.1.1 := by omega
    rw [r50_21]
    simp (disch := omega) only [r50_22, r50_23, r50_26, r50_29, r50_32, r50_33, r50_34, r50_37, r50_38, r50_41, r50_44, r50_45, r50_48, r50_51, r50_54, r50_57, dk_0, dk_cp, c_size, iI_le, c1, kl_n, kl_i, kl_r, kl_z, kl_l, kl_d, catS_0, catS_c, cat_i, cat_l, cat_d, cat_r, cat_n, kC_r, kC_x, Option.bind_some, Option.toList_some, Option.toList_none, List.cons_append, List.nil_append, gB0, gB1, gB2, gB3, gB4, rvB, nI_iI, i0, i1, l0_, wr_s, aup_s, and_true, true_and, and_self, eq_self, if_true, if_false, Nat.zero_le, Nat.reduceAdd, Nat.reduceLeDiff, gN_I, gN_L, gN_P, bI_0, bI_ok, z0, z1, Bool.true_eq, Bool.false_eq_true, not_true_eq_false, not_false_eq_true]
    exact hV l4 l5 l6
  | succ m ih =>
    intro i hi l4 l5 l6
    have c1 : ¬ (W.2.2.1.1 : Int) ≤ i := by omega
    have e1 : (i : Int) + 1 = ((i + 1 : Nat) : Int) := by omega
    have hc := hO.2.2.2.1 i
    have a1 := cS_lt (W.2.2.1.2 i)
    have h9 := ih (i + 1) (by omega) l4 l5 l6
    have eA : (k : Int) + (cS (W.2.2.1.2 i) : Int) = ((k + cS (W.2.2.1.2 i) : Nat) : Int) := by omega
    rw [r50_21]
    by_cases q : k + cS (W.2.2.1.2 i) ≤ 9599
    · have e3 : (cntP (ptP k) W.2.2.1.2 i : Int) + 1 = (cntP (ptP k) W.2.2.1.2 (i + 1) : Int) := by rw [cntP_t (decide_eq_true q)]; omega
      have q2 : (0 : Int) ≤ ((k + cS (W.2.2.1.2 i) : Nat) : Int) ∧ ((k + cS (W.2.2.1.2 i) : Nat) : Int) ≤ 9599 := by omega
      simp (disch := omega) only [r50_22, r50_23, r50_26, r50_29, r50_32, r50_33, r50_34, r50_37, r50_38, r50_41, r50_44, r50_45, r50_48, r50_51, r50_54, r50_57, dk_0, dk_cp, c_size, c_codeAt, iI_le, c1, s_start hc, iI_add, eA, s_isTick, q2, e3, e1, h9, kl_n, kl_i, kl_r, kl_z, kl_l, kl_d, catS_0, catS_c, cat_i, cat_l, cat_d, cat_r, cat_n, kC_r, kC_x, Option.bind_some, Option.toList_some, Option.toList_none, List.cons_append, List.nil_append, gB0, gB1, gB2, gB3, gB4, rvB, nI_iI, i0, i1, l0_, wr_s, aup_s, and_true, true_and, and_self, eq_self, if_true, if_false, Nat.zero_le, Nat.reduceAdd, Nat.reduceLeDiff, gN_I, gN_L, gN_P, bI_0, bI_ok, z0, z1, Bool.true_eq, Bool.false_eq_true, not_true_eq_false, not_false_eq_true]
    · have e3 : cntP (ptP k) W.2.2.1.2 i = cntP (ptP k) W.2.2.1.2 (i + 1) := (cntP_f (fun z => q (of_decide_eq_true z))).symm
      have q2 : ¬ ((0 : Int) ≤ ((k + cS (W.2.2.1.2 i) : Nat) : Int) ∧ ((k + cS (W.2.2.1.2 i) : Nat) : Int) ≤ 9599) := by omega
      rw [← e3] at h9
      simp (disch := omega) only [r50_22, r50_23, r50_26, r50_29, r50_32, r50_33, r50_34, r50_37, r50_38, r50_41, r50_44, r50_45, r50_48, r50_51, r50_54, r50_57, dk_0, dk_cp, c_size, c_codeAt, iI_le, c1, s_start hc, iI_add, eA, s_isTick, q2, e1, h9, kl_n, kl_i, kl_r, kl_z, kl_l, kl_d, catS_0, catS_c, cat_i, cat_l, cat_d, cat_r, cat_n, kC_r, kC_x, Option.bind_some, Option.toList_some, Option.toList_none, List.cons_append, List.nil_append, gB0, gB1, gB2, gB3, gB4, rvB, nI_iI, i0, i1, l0_, wr_s, aup_s, and_true, true_and, and_self, eq_self, if_true, if_false, Nat.zero_le, Nat.reduceAdd, Nat.reduceLeDiff, gN_I, gN_L, gN_P, bI_0, bI_ok, z0, z1, Bool.true_eq, Bool.false_eq_true, not_true_eq_false, not_false_eq_true]
theorem ps_loop {k : Nat} (hO : dkOk W) (hk : k ≤ 9599) (hR : W.1.1.1 + cntP (ptP k) W.2.2.1.2 W.2.2.1.1 ≤ 60) (hS : sgOk (psN W.2.2.1.2 k W.2.2.1.1 W.1.1, W.1.2)) :
    ∀ m i : Nat, i + m = W.2.2.1.1 → ∀ l4 l5 l6 : Option Value, L (d + 11) 50 86 [some (.ref x), some (.int (iI k)), some (.int (iI (cntP (ptP k) W.2.2.1.2 W.2.2.1.1))), some (.int (iI i)), l4, l5, l6] [] (dkW h x ((psN W.2.2.1.2 k i W.1.1, W.1.2), W.2), n, w, g) =
      some (.inl (some (.int (iI (cntP (ptP k) W.2.2.1.2 W.2.2.1.1)))), (dkW h x (seW ((psN W.2.2.1.2 k W.2.2.1.1 W.1.1, W.1.2), W.2)), n, w, g)) := by
  have hn := hO.2.2.1
  intro m
  induction m with
  | zero =>
    intro i hi l4 l5 l6
    obtain rfl : i = W.2.2.1.1 := by omega
    have c1 : (W.2.2.1.1 : Int) ≤ W.2.2.1.1 := by omega
    have d2 := s_settle (d := d + 5) (h := h) (r := (n, w, g)) (x := x) (W := ((psN W.2.2.1.2 k W.2.2.1.1 W.1.1, W.1.2), W.2)) hS hO.2.1
    rw [r50_86]
    simp (disch := omega) only [r50_0, r50_1, r50_4, r50_7, r50_17, r50_18, r50_19, r50_20, r50_22, r50_23, r50_26, r50_29, r50_32, r50_33, r50_34, r50_37, r50_38, r50_41, r50_44, r50_45, r50_48, r50_51, r50_54, r50_57, r50_60, r50_61, r50_64, r50_67, r50_70, r50_71, r50_74, r50_84, r50_85, r50_87, r50_88, r50_91, r50_94, r50_97, r50_98, r50_101, r50_102, r50_105, r50_107, r50_108, r50_110, r50_113, r50_114, r50_116, r50_118, r50_121, r50_124, r50_125, r50_128, r50_131, r50_133, r50_135, r50_138, r50_141i, r50_141, r50_142, r50_145, r50_148, r50_149, r50_152, r50_153, dk_0, dk_cp, c_size, iI_le, c1, d2, kl_n, kl_i, kl_r, kl_z, kl_l, kl_d, catS_0, catS_c, cat_i, cat_l, cat_d, cat_r, cat_n, kC_r, kC_x, Option.bind_some, Option.toList_some, Option.toList_none, List.cons_append, List.nil_append, gB0, gB1, gB2, gB3, gB4, rvB, nI_iI, i0, i1, l0_, wr_s, aup_s, and_true, true_and, and_self, eq_self, if_true, if_false, Nat.zero_le, Nat.reduceAdd, Nat.reduceLeDiff, gN_I, gN_L, gN_P, bI_0, bI_ok, z0, z1, Bool.true_eq, Bool.false_eq_true, not_true_eq_false, not_false_eq_true]
  | succ m ih =>
    intro i hi l4 l5 l6
    have c1 : ¬ (W.2.2.1.1 : Int) ≤ i := by omega
    have e1 : (i : Int) + 1 = ((i + 1 : Nat) : Int) := by omega
    have hc := hO.2.2.2.1 i
    have a1 := cS_lt (W.2.2.1.2 i)
    have h9 := fun l4 l5 l6 => ih (i + 1) (by omega) l4 l5 l6
    have eA : (k : Int) + (cS (W.2.2.1.2 i) : Int) = ((k + cS (W.2.2.1.2 i) : Nat) : Int) := by omega
    rw [r50_86]
    by_cases q : k + cS (W.2.2.1.2 i) ≤ 9599
    · have e4 : psN W.2.2.1.2 k (i + 1) W.1.1 = nlA (psN W.2.2.1.2 k i W.1.1) (psC k (W.2.2.1.2 i)) := if_pos q
      have q2 : (0 : Int) ≤ ((k + cS (W.2.2.1.2 i) : Nat) : Int) ∧ ((k + cS (W.2.2.1.2 i) : Nat) : Int) ≤ 9599 := by omega
      have p1 : k + cS (W.2.2.1.2 i) < 16384 := by omega
      have e5 : cO (cT (W.2.2.1.2 i)) (k + cS (W.2.2.1.2 i)) (cP (W.2.2.1.2 i)) (cL (W.2.2.1.2 i)) (cF (W.2.2.1.2 i)) = psC k (W.2.2.1.2 i) := rfl
      have hlt : (psN W.2.2.1.2 k i W.1.1).1 < 60 := by
        have h1 := cntP_mono (ptP k) W.2.2.1.2 (show i + 1 ≤ W.2.2.1.1 by omega)
        rw [cntP_t (decide_eq_true q)] at h1
        rw [psN_1]
        omega
      have ki := k_insert (d := d + 7) (h := h) (x := x) (r := (n, w, g)) (W := ((psN W.2.2.1.2 k i W.1.1, W.1.2), W.2)) (c := psC k (W.2.2.1.2 i)) hlt (cO_ok (cT_lt hc) p1 (cP_lt _) (cL_lt _) (cF_lt _)) (psN_ok hO.2.2.2.1 hO.1.2.1 i)
      change aE (d + 11) 146 _ _ = some (_, (dkW h x ((nlA (psN W.2.2.1.2 k i W.1.1) (psC k (W.2.2.1.2 i)), W.1.2), W.2), n, w, g)) at ki
      rw [e4] at h9
      simp (disch := omega) only [r50_0, r50_1, r50_4, r50_7, r50_17, r50_18, r50_19, r50_20, r50_22, r50_23, r50_26, r50_29, r50_32, r50_33, r50_34, r50_37, r50_38, r50_41, r50_44, r50_45, r50_48, r50_51, r50_54, r50_57, r50_60, r50_61, r50_64, r50_67, r50_70, r50_71, r50_74, r50_84, r50_85, r50_87, r50_88, r50_91, r50_94, r50_97, r50_98, r50_101, r50_102, r50_105, r50_107, r50_108, r50_110, r50_113, r50_114, r50_116, r50_118, r50_121, r50_124, r50_125, r50_128, r50_131, r50_133, r50_135, r50_138, r50_141i, r50_141, r50_142, r50_145, r50_148, r50_149, r50_152, r50_153, dk_0, dk_1, dk_2, dk_cp, c_size, c_codeAt, iI_le, c1, s_start hc, iI_add, eA, s_isTick, q2, s_withStart hc p1, e5, ki, e1, h9, kl_n, kl_i, kl_r, kl_z, kl_l, kl_d, catS_0, catS_c, cat_i, cat_l, cat_d, cat_r, cat_n, kC_r, kC_x, Option.bind_some, Option.toList_some, Option.toList_none, List.cons_append, List.nil_append, gB0, gB1, gB2, gB3, gB4, rvB, nI_iI, i0, i1, l0_, wr_s, aup_s, and_true, true_and, and_self, eq_self, if_true, if_false, Nat.zero_le, Nat.reduceAdd, Nat.reduceLeDiff, gN_I, gN_L, gN_P, bI_0, bI_ok, z0, z1, Bool.true_eq, Bool.false_eq_true, not_true_eq_false, not_false_eq_true]
    · have e4 : psN W.2.2.1.2 k (i + 1) W.1.1 = psN W.2.2.1.2 k i W.1.1 := if_neg q
      have q2 : ¬ ((0 : Int) ≤ ((k + cS (W.2.2.1.2 i) : Nat) : Int) ∧ ((k + cS (W.2.2.1.2 i) : Nat) : Int) ≤ 9599) := by omega
      rw [e4] at h9
      simp (disch := omega) only [r50_0, r50_1, r50_4, r50_7, r50_17, r50_18, r50_19, r50_20, r50_22, r50_23, r50_26, r50_29, r50_32, r50_33, r50_34, r50_37, r50_38, r50_41, r50_44, r50_45, r50_48, r50_51, r50_54, r50_57, r50_60, r50_61, r50_64, r50_67, r50_70, r50_71, r50_74, r50_84, r50_85, r50_87, r50_88, r50_91, r50_94, r50_97, r50_98, r50_101, r50_102, r50_105, r50_107, r50_108, r50_110, r50_113, r50_114, r50_116, r50_118, r50_121, r50_124, r50_125, r50_128, r50_131, r50_133, r50_135, r50_138, r50_141i, r50_141, r50_142, r50_145, r50_148, r50_149, r50_152, r50_153, dk_0, dk_1, dk_2, dk_cp, c_size, c_codeAt, iI_le, c1, s_start hc, iI_add, eA, s_isTick, q2, e1, h9, kl_n, kl_i, kl_r, kl_z, kl_l, kl_d, catS_0, catS_c, cat_i, cat_l, cat_d, cat_r, cat_n, kC_r, kC_x, Option.bind_some, Option.toList_some, Option.toList_none, List.cons_append, List.nil_append, gB0, gB1, gB2, gB3, gB4, rvB, nI_iI, i0, i1, l0_, wr_s, aup_s, and_true, true_and, and_self, eq_self, if_true, if_false, Nat.zero_le, Nat.reduceAdd, Nat.reduceLeDiff, gN_I, gN_L, gN_P, bI_0, bI_ok, z0, z1, Bool.true_eq, Bool.false_eq_true, not_true_eq_false, not_false_eq_true]
theorem s_paste {k : Nat} (hO : dkOk W) (hk : k ≤ 9599) (hR : W.1.1.1 + cntP (ptP k) W.2.2.1.2 W.2.2.1.1 ≤ 60) (hS : sgOk (psN W.2.2.1.2 k W.2.2.1.1 W.1.1, W.1.2)) : aE (d + 12) 50 [.ref x, .int (iI k)] (dkW h x W, n, w, g) =
    some (.inl (some (.int (iI (cntP (ptP k) W.2.2.1.2 W.2.2.1.1)))), (dkW h x (seW ((psN W.2.2.1.2 k W.2.2.1.1 W.1.1, W.1.2), W.2)), n, w, g)) := by
  have hn := hO.1.1
  have q1 : (0 : Int) ≤ k ∧ (k : Int) ≤ 9599 := by omega
  have q2 : (cntP (ptP k) W.2.2.1.2 W.2.2.1.1 : Int) ≤ 60 - (W.1.1.1 : Int) := by omega
  have hl2 := fun l4 l5 l6 => ps_loop (d := d) (n := n) (w := w) (g := g) (h := h) (x := x) hO hk hR hS W.2.2.1.1 0 (by omega) l4 l5 l6
  have hl := pf_loop (d := d) (n := n) (w := w) (g := g) (h := h) (x := x) hO hk _ (fun l4 l5 l6 => by
    simp (disch := omega) only [r50_60, r50_61, r50_64, r50_67, r50_70, r50_71, r50_74, r50_84, r50_85, dk_0, dk_1, dk_2, k_room, iI_le, q2, kl_n, kl_i, kl_r, kl_z, kl_l, kl_d, catS_0, catS_c, cat_i, cat_l, cat_d, cat_r, cat_n, kC_r, kC_x, Option.bind_some, Option.toList_some, Option.toList_none, List.cons_append, List.nil_append, gB0, gB1, gB2, gB3, gB4, rvB, nI_iI, i0, i1, l0_, wr_s, aup_s, and_true, true_and, and_self, eq_self, if_true, if_false, Nat.zero_le, Nat.reduceAdd, Nat.reduceLeDiff, gN_I, gN_L, gN_P, bI_0, bI_ok, z0, z1, Bool.true_eq, Bool.false_eq_true, not_true_eq_false, not_false_eq_true]
    exact hl2 l4 l5 l6) W.2.2.1.1 0 (by omega) none none none
  rw [show ((0 : Nat) : Int) = 0 from rfl, show ((cntP (ptP k) W.2.2.1.2 0 : Nat) : Int) = 0 from rfl] at hl
  simp (disch := omega) only [e50, r50_0, r50_1, r50_4, r50_7, r50_17, r50_18, r50_19, r50_20, s_isTick, q1, hl, kl_n, kl_i, kl_r, kl_z, kl_l, kl_d, catS_0, catS_c, cat_i, cat_l, cat_d, cat_r, cat_n, kC_r, kC_x, Option.bind_some, Option.toList_some, Option.toList_none, List.cons_append, List.nil_append, gB0, gB1, gB2, gB3, gB4, rvB, nI_iI, i0, i1, l0_, wr_s, aup_s, and_true, true_and, and_self, eq_self, if_true, if_false, Nat.zero_le, Nat.reduceAdd, Nat.reduceLeDiff, gN_I, gN_L, gN_P, bI_0, bI_ok, z0, z1, Bool.true_eq, Bool.false_eq_true, not_true_eq_false, not_false_eq_true]
theorem s_paste_1 {k : Int} (b1 : -2147483648 ≤ k ∧ k < 2147483648) (hc : ¬ (0 ≤ k ∧ k ≤ 9599)) : aE (d + 12) 50 [.ref x, .int (iI k)] (dkW h x W, n, w, g) = some (.inr "java/lang/IllegalArgumentException", (dkW h x W, n + 1, w + 6, g)) := by
  have c8 : 8 ≤ d + 11 := by omega
  simp (disch := omega) only [e50, r50_0, r50_1, r50_4, r50_7, s_isTick, c8, ite_not, kl_n, kl_i, kl_r, kl_z, kl_l, kl_d, catS_0, catS_c, cat_i, cat_l, cat_d, cat_r, cat_n, kC_r, kC_x, Option.bind_some, Option.toList_some, Option.toList_none, List.cons_append, List.nil_append, gB0, gB1, gB2, gB3, gB4, rvB, nI_iI, i0, i1, l0_, wr_s, aup_s, and_true, true_and, and_self, eq_self, if_true, if_false, Nat.zero_le, Nat.reduceAdd, Nat.reduceLeDiff, gN_I, gN_L, gN_P, bI_0, bI_ok, z0, z1, Bool.true_eq, Bool.false_eq_true, not_true_eq_false, not_false_eq_true]
  rw [if_neg hc]
theorem s_paste_2 {k : Nat} (hO : dkOk W) (hk : k ≤ 9599) (hR : ¬ W.1.1.1 + cntP (ptP k) W.2.2.1.2 W.2.2.1.1 ≤ 60) : aE (d + 12) 50 [.ref x, .int (iI k)] (dkW h x W, n, w, g) = some (.inr "java/lang/IllegalStateException", (dkW h x W, n + 1, w + 6, g)) := by
  have c8 : 8 ≤ d + 11 := by omega
  have hn := hO.1.1
  have hn2 := hO.2.2.1
  have hl0 := cntP_le (ptP k) W.2.2.1.2 W.2.2.1.1
  have q1 : (0 : Int) ≤ k ∧ (k : Int) ≤ 9599 := by omega
  have q2 : ¬ (cntP (ptP k) W.2.2.1.2 W.2.2.1.1 : Int) ≤ 60 - (W.1.1.1 : Int) := by omega
  have hl := pf_loop (d := d) (n := n) (w := w) (g := g) (h := h) (x := x) hO hk (some (.inr "java/lang/IllegalStateException", (dkW h x W, n + 1, w + 6, g))) (fun l4 l5 l6 => by
    simp (disch := omega) only [r50_60, r50_61, r50_64, r50_67, r50_70, r50_71, r50_74, dk_0, dk_1, dk_2, k_room, iI_le, q2, c8, kl_n, kl_i, kl_r, kl_z, kl_l, kl_d, catS_0, catS_c, cat_i, cat_l, cat_d, cat_r, cat_n, kC_r, kC_x, Option.bind_some, Option.toList_some, Option.toList_none, List.cons_append, List.nil_append, gB0, gB1, gB2, gB3, gB4, rvB, nI_iI, i0, i1, l0_, wr_s, aup_s, and_true, true_and, and_self, eq_self, if_true, if_false, Nat.zero_le, Nat.reduceAdd, Nat.reduceLeDiff, gN_I, gN_L, gN_P, bI_0, bI_ok, z0, z1, Bool.true_eq, Bool.false_eq_true, not_true_eq_false, not_false_eq_true]) W.2.2.1.1 0 (by omega) none none none
  rw [show ((0 : Nat) : Int) = 0 from rfl, show ((cntP (ptP k) W.2.2.1.2 0 : Nat) : Int) = 0 from rfl] at hl
  simp (disch := omega) only [e50, r50_0, r50_1, r50_4, r50_7, r50_17, r50_18, r50_19, r50_20, s_isTick, q1, hl, kl_n, kl_i, kl_r, kl_z, kl_l, kl_d, catS_0, catS_c, cat_i, cat_l, cat_d, cat_r, cat_n, kC_r, kC_x, Option.bind_some, Option.toList_some, Option.toList_none, List.cons_append, List.nil_append, gB0, gB1, gB2, gB3, gB4, rvB, nI_iI, i0, i1, l0_, wr_s, aup_s, and_true, true_and, and_self, eq_self, if_true, if_false, Nat.zero_le, Nat.reduceAdd, Nat.reduceLeDiff, gN_I, gN_L, gN_P, bI_0, bI_ok, z0, z1, Bool.true_eq, Bool.false_eq_true, not_true_eq_false, not_false_eq_true]
end
