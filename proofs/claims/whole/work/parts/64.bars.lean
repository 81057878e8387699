/-! ===== both reckon bars and beats alike ===== -/
theorem lu_gt (P : Nat → Nat) (v : Nat) : ∀ k i, lu P v k < i → i < k → v < P i
  | 0, i, _, h => by omega
  | k + 1, i, h1, h2 => by
    unfold lu at h1
    by_cases q : P k ≤ v
    · rw [if_pos q] at h1
      omega
    · rw [if_neg q] at h1
      by_cases e : i = k
      · rw [e]; omega
      · exact lu_gt P v k i h1 (by omega)
theorem lu_is {P : Nat → Nat} {v n j : Nat} (h0 : P 0 ≤ v) (hj : j < n) (h1 : P j ≤ v) (h2 : ∀ i, j < i → i < n → v < P i) : lu P v n = j := by
  have a1 := lu_lt P v (show 0 < n by omega)
  have a2 := lu_le (P := P) h0 n
  have a3 := lu_gt P v n
  rcases Nat.lt_trichotomy (lu P v n) j with e | e | e
  · have := a3 j e hj
    omega
  · exact e
  · have := h2 _ e a1
    omega
theorem up_lt {P : Nat → Nat} {n : Nat} (h : ∀ i, i + 1 < n → P i < P (i + 1)) : ∀ k i, i < k → k < n → P i < P k
  | 0, i, h1, _ => by omega
  | k + 1, i, h1, h2 => by
    have a1 := h k h2
    by_cases e : i = k
    · rw [e]; exact a1
    · have := up_lt h k i (by omega) (by omega)
      omega
section
variable {n : Nat} {P Q B : Nat → Nat}
theorem sm_up {g : Nat → Nat} {i k : Nat} (h : i ≤ k) : sm g i ≤ sm g k := by
  induction h with
  | refl => exact Nat.le_refl _
  | step _ ih => exact Nat.le_trans ih (Nat.le_add_right _ _)
/-- a bar's first tick, by the meter in which the bar before it lies -/
theorem bst_s (hM : mkOk n P Q B) (v : Nat) : bSt n P Q B (v + 1) = sm (bst P Q B) (lu P v n) + (v + 1 - P (lu P v n)) * br Q B (lu P v n) := by
  obtain ⟨m1, m2, m3, m4, m5, m6, m7⟩ := hM
  have h0 : P 0 ≤ v := by rw [m3]; exact Nat.zero_le v
  have a1 := lu_lt P v m1
  have a2 := lu_le (P := P) h0 n
  have a3 := lu_gt P v n
  have ul := up_lt m4
  unfold bSt
  generalize hj : lu P v n = j at a1 a2 a3
  by_cases q : j + 1 < n ∧ P (j + 1) ≤ v + 1
  · have e1 := a3 (j + 1) (by omega) q.1
    have e2 : P (j + 1) = v + 1 := by omega
    have e3 : lu P (v + 1) n = j + 1 := lu_is (by omega) q.1 q.2 (fun i hi hn => by
      have := ul i (j + 1) hi hn
      omega)
    rw [e3, e2, Nat.sub_self, Nat.zero_mul, Nat.add_zero]
    show sm (bst P Q B) j + bst P Q B j = _
    unfold bst
    rw [e2]
  · have e3 : lu P (v + 1) n = j := lu_is (by omega) a1 (by omega) (fun i hi hn => by
      by_cases e : i = j + 1
      · subst e
        omega
      · have h1 := ul i (j + 1) (by omega) hn
        have h2 := a3 (j + 1) (by omega) (by omega)
        omega)
    rw [e3]
theorem bst_n (hM : mkOk n P Q B) (v : Nat) : bSt n P Q B (v + 1) = bSt n P Q B v + mbl n P Q B v := by
  rw [bst_s hM]
  have h0 : P 0 ≤ v := by rw [hM.2.2.1]; exact Nat.zero_le v
  have a2 := lu_le (P := P) h0 n
  unfold bSt mbl
  rw [show v + 1 - P (lu P v n) = (v - P (lu P v n)) + 1 by omega, Nat.add_mul, Nat.one_mul, Nat.add_assoc]
theorem bst_S (hM : mkOk n P Q B) : ∀ v, bSt n P Q B v = sm (mbl n P Q B) v
  | 0 => by
    have e : lu P 0 n = 0 := lu_is (by rw [hM.2.2.1]; exact Nat.le_refl 0) hM.1 (by rw [hM.2.2.1]; exact Nat.le_refl 0) (fun i hi hn => by
      have := up_lt hM.2.2.2.1 i 0 hi hn
      omega)
    unfold bSt
    rw [e, Nat.zero_sub, Nat.zero_mul]
    rfl
  | v + 1 => by
    rw [bst_n hM, bst_S hM v]
    rfl
theorem bAt_is (hM : mkOk n P Q B) {b t : Nat} (h1 : sm (mbl n P Q B) b ≤ t) (h2 : t < sm (mbl n P Q B) (b + 1)) :
    bAt n P Q B t = b ∧ btAt n P Q B t = (t - sm (mbl n P Q B) b) / bl B (lu P b n) := by
  have s2 := bst_s hM b
  rw [bst_S hM] at s2
  have s1 : sm (mbl n P Q B) b = sm (bst P Q B) (lu P b n) + (b - P (lu P b n)) * br Q B (lu P b n) := (bst_S hM b).symm
  obtain ⟨m1, m2, m3, m4, m5, m6, m7⟩ := hM
  have h0 : P 0 ≤ b := by rw [m3]; exact Nat.zero_le b
  have a1 := lu_lt P b m1
  have a2 := lu_le (P := P) h0 n
  have a3 := lu_gt P b n
  have pb := br_pos Q B (lu P b n)
  generalize hj : lu P b n = j at a1 a2 a3 s1 s2 pb
  have e1 : lu (sm (bst P Q B)) t n = j := by
    refine lu_is (Nat.zero_le t) a1 (by omega) (fun i hi hn => ?_)
    have u1 : sm (bst P Q B) (j + 1) ≤ sm (bst P Q B) i := sm_up hi
    have u2 : sm (bst P Q B) (j + 1) = sm (bst P Q B) j + (P (j + 1) - P j) * br Q B j := rfl
    have u3 := a3 (j + 1) (by omega) (by omega)
    have u4 : (b + 1 - P j) * br Q B j ≤ (P (j + 1) - P j) * br Q B j := Nat.mul_le_mul_right _ (by omega)
    omega
  have e2 : (b + 1 - P j) * br Q B j = (b - P j) * br Q B j + br Q B j := by
    rw [show b + 1 - P j = (b - P j) + 1 by omega, Nat.add_mul, Nat.one_mul]
  have e3 : t - sm (bst P Q B) j = (t - sm (mbl n P Q B) b) + br Q B j * (b - P j) := by
    rw [Nat.mul_comm (br Q B j)]
    omega
  have e4 : t - sm (mbl n P Q B) b < br Q B j := by omega
  constructor
  · unfold bAt
    rw [e1, e3, Nat.add_mul_div_left _ _ pb, Nat.div_eq_of_lt e4]
    omega
  · unfold btAt
    rw [e1, e3, Nat.add_mul_mod_self_left, Nat.mod_eq_of_lt e4]
end
section
variable {d : Nat} {h : aHf} {r : Nat × Nat × Nat × Nat} {y : Nat} {M : Md} {n : Nat} {P Q B : Nat → Nat}
theorem r_bar {t : Nat} (hA : mtA M.2.1 n P Q B) (hM : mkOk n P Q B) (hB : mtOk n Q B) (hQ : ∀ i, Q i ≤ 16) (ht : t ≤ 99999) : aE (d + 4) 232 [.ref y, .int (iI t)] (mdW h y M, r) = some (.inl (some (.int (iI (bAt n P Q B t)))), (mdW h y M, r)) := by
  obtain ⟨b, z1, z2, z3⟩ := r_barNow (d := d) (h := h) (r := r) (y := y) hA hM hB hQ ht
  rw [z3, (bAt_is hM z1 z2).1]
theorem r_beat {t : Nat} (hA : mtA M.2.1 n P Q B) (hM : mkOk n P Q B) (hB : mtOk n Q B) (hQ : ∀ i, Q i ≤ 16) (ht : t ≤ 99999) : aE (d + 5) 234 [.ref y, .int (iI t)] (mdW h y M, r) = some (.inl (some (.int (iI (btAt n P Q B t)))), (mdW h y M, r)) := by
  obtain ⟨b, z1, z2, z3⟩ := r_barNow (d := d) (h := h) (r := r) (y := y) hA hM hB hQ ht
  have hb : b ≤ t := by
    have : ∀ b, b ≤ sm (mbl n P Q B) b := by
      intro b
      induction b with
      | zero => exact Nat.le_refl 0
      | succ b ih =>
        have := mbl_pos (n := n) (P := P) (Q := Q) (B := B) b
        show b + 1 ≤ sm (mbl n P Q B) b + mbl n P Q B b
        omega
    have := this b
    omega
  have t1 := r_tickOfBarNow (d := d) (h := h) (r := r) (y := y) hA hM hB (v := b) (by omega)
  have b1 := r_beatLength (d := d + 2) (h := h) (r := r) (y := y) hA hM hB (v := b) (by omega)
  have l0 := bl_pos B (lu P b n)
  have l1 := bl_le B (lu P b n)
  have f0 : ¬ (bl B (lu P b n) : Int) = 0 := by omega
  have e1 : (t : Int) - (sm (mbl n P Q B) b : Nat) = ((t - sm (mbl n P Q B) b : Nat) : Int) := by omega
  rw [(bAt_is hM z1 z2).2]
  simp (disch := omega) only [e234, r234_0, r234_1, r234_2, r234_3, r234_4, r234_7, r234_10, r234_11, r234_12, r234_13, r234_14, r234_17, r234_20, r234_21, md_0, z3, t1, iI_sub, e1, b1, iI_eq, f0, iI_div, cdiv, kl_n, kl_i, kl_r, kl_z, kl_l, kl_d, catS_0, catS_c, cat_i, cat_l, cat_d, cat_r, cat_n, kC_r, kC_x, Option.bind_some, Option.toList_some, Option.toList_none, List.cons_append, List.nil_append, gB0, gB1, gB2, gB3, gB4, rvB, nI_iI, i0, i1, l0_, wr_s, aup_s, and_true, true_and, and_self, eq_self, if_true, if_false, Nat.zero_le, Nat.reduceAdd, Nat.reduceLeDiff, gN_I, gN_L, gN_P, bI_0, bI_ok, z0, z1, Bool.true_eq, Bool.false_eq_true, not_true_eq_false, not_false_eq_true]
end
