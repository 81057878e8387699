/-! ===== the reference is made ===== -/
section
variable {a0 a1 a2 a3 a4 a5 a6 a7 a8 a9 a10 a11 a12 a13 a14 : Value}
theorem mr1 {q : Nat} : sF (some (aB 10 [a0, a1, a2, a3, a4, a5, a6, a7, a8, a9, a10, a11, a12, a13, a14])) 10 1 3 (.ref q) = some (aB 10 [a0, .ref q, a2, a3, a4, a5, a6, a7, a8, a9, a10, a11, a12, a13, a14]) := sFx (by simp) ft3 rfl
theorem mr2 {q : Nat} : sF (some (aB 10 [a0, a1, a2, a3, a4, a5, a6, a7, a8, a9, a10, a11, a12, a13, a14])) 10 2 3 (.ref q) = some (aB 10 [a0, a1, .ref q, a3, a4, a5, a6, a7, a8, a9, a10, a11, a12, a13, a14]) := sFx (by simp) ft3 rfl
theorem mr3 {q : Nat} : sF (some (aB 10 [a0, a1, a2, a3, a4, a5, a6, a7, a8, a9, a10, a11, a12, a13, a14])) 10 3 3 (.ref q) = some (aB 10 [a0, a1, a2, .ref q, a4, a5, a6, a7, a8, a9, a10, a11, a12, a13, a14]) := sFx (by simp) ft3 rfl
theorem mr4 {q : Nat} : sF (some (aB 10 [a0, a1, a2, a3, a4, a5, a6, a7, a8, a9, a10, a11, a12, a13, a14])) 10 4 3 (.ref q) = some (aB 10 [a0, a1, a2, a3, .ref q, a5, a6, a7, a8, a9, a10, a11, a12, a13, a14]) := sFx (by simp) ft3 rfl
theorem mr8 {q : Nat} : sF (some (aB 10 [a0, a1, a2, a3, a4, a5, a6, a7, a8, a9, a10, a11, a12, a13, a14])) 10 8 3 (.ref q) = some (aB 10 [a0, a1, a2, a3, a4, a5, a6, a7, .ref q, a9, a10, a11, a12, a13, a14]) := sFx (by simp) ft3 rfl
theorem mr10 {q : Nat} : sF (some (aB 10 [a0, a1, a2, a3, a4, a5, a6, a7, a8, a9, a10, a11, a12, a13, a14])) 10 10 3 (.ref q) = some (aB 10 [a0, a1, a2, a3, a4, a5, a6, a7, a8, a9, .ref q, a11, a12, a13, a14]) := sFx (by simp) ft3 rfl
theorem mr11 {q : Nat} : sF (some (aB 10 [a0, a1, a2, a3, a4, a5, a6, a7, a8, a9, a10, a11, a12, a13, a14])) 10 11 3 (.ref q) = some (aB 10 [a0, a1, a2, a3, a4, a5, a6, a7, a8, a9, a10, .ref q, a12, a13, a14]) := sFx (by simp) ft3 rfl
theorem mr13 {q : Nat} : sF (some (aB 10 [a0, a1, a2, a3, a4, a5, a6, a7, a8, a9, a10, a11, a12, a13, a14])) 10 13 3 (.ref q) = some (aB 10 [a0, a1, a2, a3, a4, a5, a6, a7, a8, a9, a10, a11, a12, .ref q, a14]) := sFx (by simp) ft3 rfl
end
def zI : Nat → Int32 := fun _ => 0
/-- all nought -/
def MZ : Md := ((iI 0, iI 0, iI 0, false, iI 0, iI 0, lI 0), zI, zI, (fun i => i, fun _ => zI), (fun i => i, fun _ => zI), zI, zI, fun _ => zI, fun _ => 0)
/-- a new one -/
def M0 : Md := alM MZ (upd (upd (upd (upd (upd zI 325 (iI 1)) 327 (iI 1200)) 348 (iI 1)) 350 (iI 4)) 351 (iI 4))
def nO (y : Nat) (o : aC) : Nat → aC := fun j => if j = 0 then o else mdC y MZ j
section
variable {d n w : Nat} {g : Nat × Nat} {h : aHf} {y : Nat}
theorem no_1 {k : Nat} {o v : aC} (hk : 0 < k) (hv : v = mdC y MZ k) : aup (rgW h y k (nO y o)) (y + k) v = rgW h y (k + 1) (nO y o) := by
  rw [rg_new]
  refine rg_ext (fun j hj => ?_)
  by_cases e : j < k
  · rw [if_pos e]
  · obtain rfl : j = k := by omega
    rw [if_neg e, hv]
    unfold nO
    rw [if_neg (by omega)]
theorem no_2 {k N c : Nat} {o : aC} (hk : 0 < k) (hv : mdC y MZ k = aP (.array .int) N (fun i => if i < N then some (y + k + 1 + i) else none)) (hv2 : ∀ i, i < N → mdC y MZ (k + 1 + i) = aI .int c (fun _ => 0)) : mk2 (rgW h y k (nO y o), y + k, w, g) N c = (rgW h y (k + 1 + N) (nO y o), y + (k + 1 + N), w + N + N * c, g) := by
  unfold mk2
  dsimp only
  have e : (fun q => if q = y + k then some (aP (.array .int) N (fun i => if i < N then some (y + k + 1 + i) else none)) else if y + k < q ∧ q ≤ y + k + N then some (aI .int c (fun _ => 0)) else rgW h y k (nO y o) q) = rgW h y (k + 1 + N) (nO y o) := by
    funext q
    by_cases c1 : q = y + k
    · rw [if_pos c1, ← hv, c1, rg_at (by omega)]
      unfold nO
      rw [if_neg (by omega)]
    · rw [if_neg c1]
      by_cases c2 : y + k < q ∧ q ≤ y + k + N
      · rw [if_pos c2]
        obtain ⟨i, hi, rfl⟩ : ∃ i, i < N ∧ q = y + (k + 1 + i) := ⟨q - (y + k + 1), by omega, by omega⟩
        rw [rg_at (by omega), ← hv2 i hi]
        unfold nO
        rw [if_neg (by omega)]
      · rw [if_neg c2]
        unfold rgW
        by_cases c3 : y ≤ q ∧ q < y + k
        · rw [if_pos c3, if_pos (by omega)]
        · rw [if_neg c3, if_neg (by omega)]
  rw [e, show y + k + 1 + N = y + (k + 1 + N) by omega]
theorem no_s {k : Nat} {o o' : aC} (hk : 0 < k) : aup (rgW h y k (nO y o)) y o' = rgW h y k (nO y o') := by
  rw [rg_set0 hk]
  refine rg_ext (fun j hj => ?_)
  unfold nO
  by_cases e : j = 0
  · rw [if_pos e, if_pos e]
  · rw [if_neg e, if_neg e, if_neg e]
theorem no_0 {k : Nat} {o : aC} (hk : 0 < k) : rgW h y k (nO y o) y = some o := by
  rw [rg_0 hk]
  rfl
theorem no_i {o : aC} : aup h y o = rgW h y 1 (nO y o) := by
  rw [up_rg]
  refine rg_ext (fun j hj => ?_)
  obtain rfl : j = 0 := by omega
  rfl
theorem no_e : rgW h y 531 (nO y (mdC y MZ 0)) = mdW h y MZ := rg_ext (fun j hj => by
  unfold nO
  by_cases e : j = 0
  · rw [if_pos e, e]
  · rw [if_neg e])
theorem r_new : aE (d + 1) 181 [.ref y] (aup h y (aB 10 [.int (iI 0), .null, .null, .null, .null, .int (iI 0), .int (iI 0), .int (iI 0), .null, .int (iI 0), .null, .null, .int (iI 0), .null, .long (lI 0)]), y + 1, w, g) = some (.inl none, (mdW h y M0, y + 531, w + 21507, g)) := by
  have e1 : (iI 385).toNatClampNeg = 385 := by decide
  have e2 : ¬ (iI 385 < iI 0 ∨ 60000000 < 385) := by decide
  have e3 : (iI 21).toNatClampNeg = 21 := by decide
  have e4 : ¬ (iI 385 < iI 0 ∨ 60000 < 385 ∨ iI 21 < iI 0 ∨ 60000 < 21) := by decide
  have e5 : (iI 300).toNatClampNeg = 300 := by decide
  have e6 : ¬ (iI 300 < iI 0 ∨ 60000000 < 300) := by decide
  have e7 : (iI 480).toNatClampNeg = 480 := by decide
  have e8 : (iI 5).toNatClampNeg = 5 := by decide
  have e9 : ¬ (iI 5 < iI 0 ∨ 60000 < 5 ∨ iI 480 < iI 0 ∨ 60000 < 480) := by decide
  have e10 : (iI 960).toNatClampNeg = 960 := by decide
  have e11 : ¬ (iI 960 < iI 0 ∨ 60000000 < 960) := by decide

  have t1 : L d 181 4 [some (.ref y)] [] (rgW h y 1 (nO y (aB 10 [.int (iI 0), .null, .null, .null, .null, .int (iI 0), .int (iI 0), .int (iI 0), .null, .int (iI 0), .null, .null, .int (iI 0), .null, .long (lI 0)])), y + 1, w + 0, g) = L d 181 13 [some (.ref y)] [] (rgW h y 2 (nO y (aB 10 [.int (iI 0), .ref (y + 1), .null, .null, .null, .int (iI 0), .int (iI 0), .int (iI 0), .null, .int (iI 0), .null, .null, .int (iI 0), .null, .long (lI 0)])), y + 2, w + 385, g) := by
    have nw : aup (rgW h y 1 (nO y (aB 10 [.int (iI 0), .null, .null, .null, .null, .int (iI 0), .int (iI 0), .int (iI 0), .null, .int (iI 0), .null, .null, .int (iI 0), .null, .long (lI 0)]))) (y + 1) (aI .int 385 (fun _ => iI 0)) = rgW h y 2 (nO y (aB 10 [.int (iI 0), .null, .null, .null, .null, .int (iI 0), .int (iI 0), .int (iI 0), .null, .int (iI 0), .null, .null, .int (iI 0), .null, .long (lI 0)])) := no_1 (by omega) rfl
    simp (disch := omega) only [r181_4, r181_5, r181_8, r181_10, e1, e2, nw, no_0, no_s, mr1, Nat.add_assoc, kl_n, kl_i, kl_r, kl_z, kl_l, kl_d, catS_0, catS_c, cat_i, cat_l, cat_d, cat_r, cat_n, kC_r, kC_x, Option.bind_some, Option.toList_some, Option.toList_none, List.cons_append, List.nil_append, gB0, gB1, gB2, gB3, gB4, rvB, nI_iI, i0, i1, l0_, wr_s, aup_s, and_true, true_and, and_self, eq_self, if_true, if_false, Nat.zero_le, Nat.reduceAdd, Nat.reduceLeDiff, gN_I, gN_L, gN_P, bI_0, bI_ok, z0, z1, Bool.true_eq, Bool.false_eq_true, not_true_eq_false, not_false_eq_true]
  have t2 : L d 181 13 [some (.ref y)] [] (rgW h y 2 (nO y (aB 10 [.int (iI 0), .ref (y + 1), .null, .null, .null, .int (iI 0), .int (iI 0), .int (iI 0), .null, .int (iI 0), .null, .null, .int (iI 0), .null, .long (lI 0)])), y + 2, w + 385, g) = L d 181 22 [some (.ref y)] [] (rgW h y 3 (nO y (aB 10 [.int (iI 0), .ref (y + 1), .ref (y + 2), .null, .null, .int (iI 0), .int (iI 0), .int (iI 0), .null, .int (iI 0), .null, .null, .int (iI 0), .null, .long (lI 0)])), y + 3, w + 770, g) := by
    have nw : aup (rgW h y 2 (nO y (aB 10 [.int (iI 0), .ref (y + 1), .null, .null, .null, .int (iI 0), .int (iI 0), .int (iI 0), .null, .int (iI 0), .null, .null, .int (iI 0), .null, .long (lI 0)]))) (y + 2) (aI .int 385 (fun _ => iI 0)) = rgW h y 3 (nO y (aB 10 [.int (iI 0), .ref (y + 1), .null, .null, .null, .int (iI 0), .int (iI 0), .int (iI 0), .null, .int (iI 0), .null, .null, .int (iI 0), .null, .long (lI 0)])) := no_1 (by omega) rfl
    simp (disch := omega) only [r181_13, r181_14, r181_17, r181_19, e1, e2, nw, no_0, no_s, mr2, Nat.add_assoc, kl_n, kl_i, kl_r, kl_z, kl_l, kl_d, catS_0, catS_c, cat_i, cat_l, cat_d, cat_r, cat_n, kC_r, kC_x, Option.bind_some, Option.toList_some, Option.toList_none, List.cons_append, List.nil_append, gB0, gB1, gB2, gB3, gB4, rvB, nI_iI, i0, i1, l0_, wr_s, aup_s, and_true, true_and, and_self, eq_self, if_true, if_false, Nat.zero_le, Nat.reduceAdd, Nat.reduceLeDiff, gN_I, gN_L, gN_P, bI_0, bI_ok, z0, z1, Bool.true_eq, Bool.false_eq_true, not_true_eq_false, not_false_eq_true]
  have t3 : L d 181 22 [some (.ref y)] [] (rgW h y 3 (nO y (aB 10 [.int (iI 0), .ref (y + 1), .ref (y + 2), .null, .null, .int (iI 0), .int (iI 0), .int (iI 0), .null, .int (iI 0), .null, .null, .int (iI 0), .null, .long (lI 0)])), y + 3, w + 770, g) = L d 181 35 [some (.ref y)] [] (rgW h y 25 (nO y (aB 10 [.int (iI 0), .ref (y + 1), .ref (y + 2), .ref (y + 3), .null, .int (iI 0), .int (iI 0), .int (iI 0), .null, .int (iI 0), .null, .null, .int (iI 0), .null, .long (lI 0)])), y + 25, w + 8876, g) := by
    have nw : mk2 (rgW h y 3 (nO y (aB 10 [.int (iI 0), .ref (y + 1), .ref (y + 2), .null, .null, .int (iI 0), .int (iI 0), .int (iI 0), .null, .int (iI 0), .null, .null, .int (iI 0), .null, .long (lI 0)])), y + 3, w + 770, g) 21 385 = (rgW h y 25 (nO y (aB 10 [.int (iI 0), .ref (y + 1), .ref (y + 2), .null, .null, .int (iI 0), .int (iI 0), .int (iI 0), .null, .int (iI 0), .null, .null, .int (iI 0), .null, .long (lI 0)])), y + 25, w + 8876, g) := no_2 (k := 3) (w := w + 770) (by omega) rfl (fun i hi => by
      unfold mdC
      rw [if_neg (by omega), if_neg (by omega), if_neg (by omega), if_neg (by omega), if_pos (by omega)]
      rfl)
    simp (disch := omega) only [r181_22, r181_23, r181_25, r181_28, r181_32, e1, e3, e4, nw, no_0, no_s, mr3, Nat.add_assoc, kl_n, kl_i, kl_r, kl_z, kl_l, kl_d, catS_0, catS_c, cat_i, cat_l, cat_d, cat_r, cat_n, kC_r, kC_x, Option.bind_some, Option.toList_some, Option.toList_none, List.cons_append, List.nil_append, gB0, gB1, gB2, gB3, gB4, rvB, nI_iI, i0, i1, l0_, wr_s, aup_s, and_true, true_and, and_self, eq_self, if_true, if_false, Nat.zero_le, Nat.reduceAdd, Nat.reduceLeDiff, gN_I, gN_L, gN_P, bI_0, bI_ok, z0, z1, Bool.true_eq, Bool.false_eq_true, not_true_eq_false, not_false_eq_true]
  have t4 : L d 181 35 [some (.ref y)] [] (rgW h y 25 (nO y (aB 10 [.int (iI 0), .ref (y + 1), .ref (y + 2), .ref (y + 3), .null, .int (iI 0), .int (iI 0), .int (iI 0), .null, .int (iI 0), .null, .null, .int (iI 0), .null, .long (lI 0)])), y + 25, w + 8876, g) = L d 181 48 [some (.ref y)] [] (rgW h y 47 (nO y (aB 10 [.int (iI 0), .ref (y + 1), .ref (y + 2), .ref (y + 3), .ref (y + 25), .int (iI 0), .int (iI 0), .int (iI 0), .null, .int (iI 0), .null, .null, .int (iI 0), .null, .long (lI 0)])), y + 47, w + 16982, g) := by
    have nw : mk2 (rgW h y 25 (nO y (aB 10 [.int (iI 0), .ref (y + 1), .ref (y + 2), .ref (y + 3), .null, .int (iI 0), .int (iI 0), .int (iI 0), .null, .int (iI 0), .null, .null, .int (iI 0), .null, .long (lI 0)])), y + 25, w + 8876, g) 21 385 = (rgW h y 47 (nO y (aB 10 [.int (iI 0), .ref (y + 1), .ref (y + 2), .ref (y + 3), .null, .int (iI 0), .int (iI 0), .int (iI 0), .null, .int (iI 0), .null, .null, .int (iI 0), .null, .long (lI 0)])), y + 47, w + 16982, g) := no_2 (k := 25) (w := w + 8876) (by omega) rfl (fun i hi => by
      unfold mdC
      rw [if_neg (by omega), if_neg (by omega), if_neg (by omega), if_neg (by omega), if_neg (by omega), if_neg (by omega), if_pos (by omega)]
      rfl)
    simp (disch := omega) only [r181_35, r181_36, r181_38, r181_41, r181_45, e1, e3, e4, nw, no_0, no_s, mr4, Nat.add_assoc, kl_n, kl_i, kl_r, kl_z, kl_l, kl_d, catS_0, catS_c, cat_i, cat_l, cat_d, cat_r, cat_n, kC_r, kC_x, Option.bind_some, Option.toList_some, Option.toList_none, List.cons_append, List.nil_append, gB0, gB1, gB2, gB3, gB4, rvB, nI_iI, i0, i1, l0_, wr_s, aup_s, and_true, true_and, and_self, eq_self, if_true, if_false, Nat.zero_le, Nat.reduceAdd, Nat.reduceLeDiff, gN_I, gN_L, gN_P, bI_0, bI_ok, z0, z1, Bool.true_eq, Bool.false_eq_true, not_true_eq_false, not_false_eq_true]
  have t5 : L d 181 48 [some (.ref y)] [] (rgW h y 47 (nO y (aB 10 [.int (iI 0), .ref (y + 1), .ref (y + 2), .ref (y + 3), .ref (y + 25), .int (iI 0), .int (iI 0), .int (iI 0), .null, .int (iI 0), .null, .null, .int (iI 0), .null, .long (lI 0)])), y + 47, w + 16982, g) = L d 181 57 [some (.ref y)] [] (rgW h y 48 (nO y (aB 10 [.int (iI 0), .ref (y + 1), .ref (y + 2), .ref (y + 3), .ref (y + 25), .int (iI 0), .int (iI 0), .int (iI 0), .ref (y + 47), .int (iI 0), .null, .null, .int (iI 0), .null, .long (lI 0)])), y + 48, w + 17367, g) := by
    have nw : aup (rgW h y 47 (nO y (aB 10 [.int (iI 0), .ref (y + 1), .ref (y + 2), .ref (y + 3), .ref (y + 25), .int (iI 0), .int (iI 0), .int (iI 0), .null, .int (iI 0), .null, .null, .int (iI 0), .null, .long (lI 0)]))) (y + 47) (aI .int 385 (fun _ => iI 0)) = rgW h y 48 (nO y (aB 10 [.int (iI 0), .ref (y + 1), .ref (y + 2), .ref (y + 3), .ref (y + 25), .int (iI 0), .int (iI 0), .int (iI 0), .null, .int (iI 0), .null, .null, .int (iI 0), .null, .long (lI 0)])) := no_1 (by omega) rfl
    simp (disch := omega) only [r181_48, r181_49, r181_52, r181_54, e1, e2, nw, no_0, no_s, mr8, Nat.add_assoc, kl_n, kl_i, kl_r, kl_z, kl_l, kl_d, catS_0, catS_c, cat_i, cat_l, cat_d, cat_r, cat_n, kC_r, kC_x, Option.bind_some, Option.toList_some, Option.toList_none, List.cons_append, List.nil_append, gB0, gB1, gB2, gB3, gB4, rvB, nI_iI, i0, i1, l0_, wr_s, aup_s, and_true, true_and, and_self, eq_self, if_true, if_false, Nat.zero_le, Nat.reduceAdd, Nat.reduceLeDiff, gN_I, gN_L, gN_P, bI_0, bI_ok, z0, z1, Bool.true_eq, Bool.false_eq_true, not_true_eq_false, not_false_eq_true]
  have t6 : L d 181 57 [some (.ref y)] [] (rgW h y 48 (nO y (aB 10 [.int (iI 0), .ref (y + 1), .ref (y + 2), .ref (y + 3), .ref (y + 25), .int (iI 0), .int (iI 0), .int (iI 0), .ref (y + 47), .int (iI 0), .null, .null, .int (iI 0), .null, .long (lI 0)])), y + 48, w + 17367, g) = L d 181 66 [some (.ref y)] [] (rgW h y 49 (nO y (aB 10 [.int (iI 0), .ref (y + 1), .ref (y + 2), .ref (y + 3), .ref (y + 25), .int (iI 0), .int (iI 0), .int (iI 0), .ref (y + 47), .int (iI 0), .ref (y + 48), .null, .int (iI 0), .null, .long (lI 0)])), y + 49, w + 17667, g) := by
    have nw : aup (rgW h y 48 (nO y (aB 10 [.int (iI 0), .ref (y + 1), .ref (y + 2), .ref (y + 3), .ref (y + 25), .int (iI 0), .int (iI 0), .int (iI 0), .ref (y + 47), .int (iI 0), .null, .null, .int (iI 0), .null, .long (lI 0)]))) (y + 48) (aI .int 300 (fun _ => iI 0)) = rgW h y 49 (nO y (aB 10 [.int (iI 0), .ref (y + 1), .ref (y + 2), .ref (y + 3), .ref (y + 25), .int (iI 0), .int (iI 0), .int (iI 0), .ref (y + 47), .int (iI 0), .null, .null, .int (iI 0), .null, .long (lI 0)])) := no_1 (by omega) rfl
    simp (disch := omega) only [r181_57, r181_58, r181_61, r181_63, e5, e6, nw, no_0, no_s, mr10, Nat.add_assoc, kl_n, kl_i, kl_r, kl_z, kl_l, kl_d, catS_0, catS_c, cat_i, cat_l, cat_d, cat_r, cat_n, kC_r, kC_x, Option.bind_some, Option.toList_some, Option.toList_none, List.cons_append, List.nil_append, gB0, gB1, gB2, gB3, gB4, rvB, nI_iI, i0, i1, l0_, wr_s, aup_s, and_true, true_and, and_self, eq_self, if_true, if_false, Nat.zero_le, Nat.reduceAdd, Nat.reduceLeDiff, gN_I, gN_L, gN_P, bI_0, bI_ok, z0, z1, Bool.true_eq, Bool.false_eq_true, not_true_eq_false, not_false_eq_true]
  have t7 : L d 181 66 [some (.ref y)] [] (rgW h y 49 (nO y (aB 10 [.int (iI 0), .ref (y + 1), .ref (y + 2), .ref (y + 3), .ref (y + 25), .int (iI 0), .int (iI 0), .int (iI 0), .ref (y + 47), .int (iI 0), .ref (y + 48), .null, .int (iI 0), .null, .long (lI 0)])), y + 49, w + 17667, g) = L d 181 78 [some (.ref y)] [] (rgW h y 530 (nO y (aB 10 [.int (iI 0), .ref (y + 1), .ref (y + 2), .ref (y + 3), .ref (y + 25), .int (iI 0), .int (iI 0), .int (iI 0), .ref (y + 47), .int (iI 0), .ref (y + 48), .ref (y + 49), .int (iI 0), .null, .long (lI 0)])), y + 530, w + 20547, g) := by
    have nw : mk2 (rgW h y 49 (nO y (aB 10 [.int (iI 0), .ref (y + 1), .ref (y + 2), .ref (y + 3), .ref (y + 25), .int (iI 0), .int (iI 0), .int (iI 0), .ref (y + 47), .int (iI 0), .ref (y + 48), .null, .int (iI 0), .null, .long (lI 0)])), y + 49, w + 17667, g) 480 5 = (rgW h y 530 (nO y (aB 10 [.int (iI 0), .ref (y + 1), .ref (y + 2), .ref (y + 3), .ref (y + 25), .int (iI 0), .int (iI 0), .int (iI 0), .ref (y + 47), .int (iI 0), .ref (y + 48), .null, .int (iI 0), .null, .long (lI 0)])), y + 530, w + 20547, g) := no_2 (k := 49) (w := w + 17667) (by omega) rfl (fun i hi => by
      unfold mdC
      rw [if_neg (by omega), if_neg (by omega), if_neg (by omega), if_neg (by omega), if_neg (by omega), if_neg (by omega), if_neg (by omega), if_neg (by omega), if_neg (by omega), if_neg (by omega), if_pos (by omega)]
      rfl)
    simp (disch := omega) only [r181_66, r181_67, r181_70, r181_71, r181_75, e7, e8, e9, nw, no_0, no_s, mr11, Nat.add_assoc, kl_n, kl_i, kl_r, kl_z, kl_l, kl_d, catS_0, catS_c, cat_i, cat_l, cat_d, cat_r, cat_n, kC_r, kC_x, Option.bind_some, Option.toList_some, Option.toList_none, List.cons_append, List.nil_append, gB0, gB1, gB2, gB3, gB4, rvB, nI_iI, i0, i1, l0_, wr_s, aup_s, and_true, true_and, and_self, eq_self, if_true, if_false, Nat.zero_le, Nat.reduceAdd, Nat.reduceLeDiff, gN_I, gN_L, gN_P, bI_0, bI_ok, z0, z1, Bool.true_eq, Bool.false_eq_true, not_true_eq_false, not_false_eq_true]
  have t8 : L d 181 78 [some (.ref y)] [] (rgW h y 530 (nO y (aB 10 [.int (iI 0), .ref (y + 1), .ref (y + 2), .ref (y + 3), .ref (y + 25), .int (iI 0), .int (iI 0), .int (iI 0), .ref (y + 47), .int (iI 0), .ref (y + 48), .ref (y + 49), .int (iI 0), .null, .long (lI 0)])), y + 530, w + 20547, g) = L d 181 87 [some (.ref y)] [] (rgW h y 531 (nO y (aB 10 [.int (iI 0), .ref (y + 1), .ref (y + 2), .ref (y + 3), .ref (y + 25), .int (iI 0), .int (iI 0), .int (iI 0), .ref (y + 47), .int (iI 0), .ref (y + 48), .ref (y + 49), .int (iI 0), .ref (y + 530), .long (lI 0)])), y + 531, w + 21507, g) := by
    have nw : aup (rgW h y 530 (nO y (aB 10 [.int (iI 0), .ref (y + 1), .ref (y + 2), .ref (y + 3), .ref (y + 25), .int (iI 0), .int (iI 0), .int (iI 0), .ref (y + 47), .int (iI 0), .ref (y + 48), .ref (y + 49), .int (iI 0), .null, .long (lI 0)]))) (y + 530) (aL 960 (fun _ => lI 0)) = rgW h y 531 (nO y (aB 10 [.int (iI 0), .ref (y + 1), .ref (y + 2), .ref (y + 3), .ref (y + 25), .int (iI 0), .int (iI 0), .int (iI 0), .ref (y + 47), .int (iI 0), .ref (y + 48), .ref (y + 49), .int (iI 0), .null, .long (lI 0)])) := no_1 (by omega) rfl
    simp (disch := omega) only [r181_78, r181_79, r181_82, r181_84, e10, e11, nw, no_0, no_s, mr13, Nat.add_assoc, kl_n, kl_i, kl_r, kl_z, kl_l, kl_d, catS_0, catS_c, cat_i, cat_l, cat_d, cat_r, cat_n, kC_r, kC_x, Option.bind_some, Option.toList_some, Option.toList_none, List.cons_append, List.nil_append, gB0, gB1, gB2, gB3, gB4, rvB, nI_iI, i0, i1, l0_, wr_s, aup_s, and_true, true_and, and_self, eq_self, if_true, if_false, Nat.zero_le, Nat.reduceAdd, Nat.reduceLeDiff, gN_I, gN_L, gN_P, bI_0, bI_ok, z0, z1, Bool.true_eq, Bool.false_eq_true, not_true_eq_false, not_false_eq_true]
  have t0 : L d 181 0 [some (.ref y)] [] (aup h y (aB 10 [.int (iI 0), .null, .null, .null, .null, .int (iI 0), .int (iI 0), .int (iI 0), .null, .int (iI 0), .null, .null, .int (iI 0), .null, .long (lI 0)]), y + 1, w, g) = L d 181 4 [some (.ref y)] [] (rgW h y 1 (nO y (aB 10 [.int (iI 0), .null, .null, .null, .null, .int (iI 0), .int (iI 0), .int (iI 0), .null, .int (iI 0), .null, .null, .int (iI 0), .null, .long (lI 0)])), y + 1, w + 0, g) := by
    rw [no_i]
    simp (disch := omega) only [r181_0, r181_1, ob_i, kl_n, kl_i, kl_r, kl_z, kl_l, kl_d, catS_0, catS_c, cat_i, cat_l, cat_d, cat_r, cat_n, kC_r, kC_x, Option.bind_some, Option.toList_some, Option.toList_none, List.cons_append, List.nil_append, gB0, gB1, gB2, gB3, gB4, rvB, nI_iI, i0, i1, l0_, wr_s, aup_s, and_true, true_and, and_self, eq_self, if_true, if_false, Nat.zero_le, Nat.reduceAdd, Nat.reduceLeDiff, gN_I, gN_L, gN_P, bI_0, bI_ok, z0, z1, Bool.true_eq, Bool.false_eq_true, not_true_eq_false, not_false_eq_true]
    rfl
  have hz : rgW h y 531 (nO y (aB 10 [.int (iI 0), .ref (y + 1), .ref (y + 2), .ref (y + 3), .ref (y + 25), .int (iI 0), .int (iI 0), .int (iI 0), .ref (y + 47), .int (iI 0), .ref (y + 48), .ref (y + 49), .int (iI 0), .ref (y + 530), .long (lI 0)])) = mdW h y MZ := no_e
  have ma : ∀ A A', aup (mdW h y (alM MZ A)) (y + 1) (aI .int 385 A') = mdW h y (alM MZ A') := fun A A' => md_a
  have m0 := fun A => md_0 (h := h) (y := y) (M := alM MZ A)
  have m1 : ∀ A, mdW h y (alM MZ A) (y + 1) = some (aI .int 385 A) := fun A => md_1
  have sa : ∀ (A : Nat → Int32) (j : Nat) (v : Int32), j < 385 → sI (some (aI .int 385 A)) (iI (j : Int)) v = some (aI .int 385 (upd A j v)) := fun A j v hj => by
    rw [sI_I (by omega) (by omega) (by omega), Int.toNat_natCast]
  have s1 := fun A v => sa A 325 v (by omega)
  have s2 := fun A v => sa A 327 v (by omega)
  have s3 := fun A v => sa A 348 v (by omega)
  have s4 := fun A v => sa A 350 v (by omega)
  have s5 := fun A v => sa A 351 v (by omega)
  rw [show ((325 : Nat) : Int) = 325 from rfl] at s1
  rw [show ((327 : Nat) : Int) = 327 from rfl] at s2
  rw [show ((348 : Nat) : Int) = 348 from rfl] at s3
  rw [show ((350 : Nat) : Int) = 350 from rfl] at s4
  rw [show ((351 : Nat) : Int) = 351 from rfl] at s5
  rw [e181, t0, t1, t2, t3, t4, t5, t6, t7, t8, hz]
  change L d 181 87 _ [] (mdW h y (alM MZ zI), _) = _
  simp (disch := omega) only [r181_87, r181_88, r181_91, r181_94, r181_95, r181_96, r181_97, r181_100, r181_103, r181_106, r181_107, r181_108, r181_111, r181_114, r181_115, r181_116, r181_117, r181_120, r181_123, r181_124, r181_125, r181_126, r181_129, r181_132, r181_133, r181_134, m0, m1, gB1, s1, s2, s3, s4, s5, ma, kl_n, kl_i, kl_r, kl_z, kl_l, kl_d, catS_0, catS_c, cat_i, cat_l, cat_d, cat_r, cat_n, kC_r, kC_x, Option.bind_some, Option.toList_some, Option.toList_none, List.cons_append, List.nil_append, gB0, gB1, gB2, gB3, gB4, rvB, nI_iI, i0, i1, l0_, wr_s, aup_s, and_true, true_and, and_self, eq_self, if_true, if_false, Nat.zero_le, Nat.reduceAdd, Nat.reduceLeDiff, gN_I, gN_L, gN_P, bI_0, bI_ok, z0, z1, Bool.true_eq, Bool.false_eq_true, not_true_eq_false, not_false_eq_true]
  rfl
end
