/-! ===== the reference keeps what was: pushed, a change, taken back ===== -/
/-- two rows of all numbers are the same -/
abbrev eqA (R T : Nat → Int32) : Prop := alR (fun i => R i == T i) 0 385 = true
theorem eqA_iff {R T : Nat → Int32} : eqA R T ↔ ∀ i, i < 385 → R i = T i := by
  unfold eqA
  rw [alR_0]
  exact ⟨fun h i hi => beq_iff_eq.mp (h i hi), fun h i hi => beq_iff_eq.mpr (h i hi)⟩
theorem s_eqA {d n w : Nat} {g : Nat × Nat} {h : aHf} {p q : Nat} {f f' : Nat → Int32} (hpq : p ≠ q) (hp : h p = some (aI .int 385 f)) (hq : h q = some (aI .int 385 f')) : aE (d + 5) 265 [.ref p, .ref q] (h, n, w, g) = some (.inl (some (.int (bI (eqA f f')))), (h, n, w, g)) := by
  have e := @s_equals d n w g h p q f f' hpq hp hq (Classical.propDecidable _)
  rw [e]
  refine congrArg (fun z => (some ((.inl (some (.int z)) : aO), (h, n, w, g)) : aR)) ?_
  unfold bI
  by_cases q : ∀ i, i < 385 → f i = f' i
  · rw [if_pos q, if_pos (eqA_iff.mpr q)]
  · rw [if_neg q, if_neg (fun z => q (eqA_iff.mp z))]
/-- which row lies where, if one more is pushed behind u -/
def rot (u : Nat) (U : Nat → Nat) : Nat → Nat := if u = 20 then fun i => if i < 19 then U (i + 1) else if i = 19 then U 0 else U i else U
theorem rot_lt {u : Nat} {U : Nat → Nat} (hU : ∀ i, i < 21 → U i < 21) : ∀ i, i < 21 → rot u U i < 21 := fun i hi => by
  unfold rot
  split
  · show (if i < 19 then U (i + 1) else if i = 19 then U 0 else U i) < 21
    split
    · exact hU _ (by omega)
    · split
      · exact hU _ (by omega)
      · exact hU _ hi
  · exact hU _ hi
section
variable {d n w : Nat} {g : Nat × Nat} {h : aHf}
theorem s_pcopy {A base : Nat} {F : Nat → Option Nat} (hA : h A = some (aP (.array .int) 21 F)) (hF : ∀ i, i < 21 → ∃ q X, F i = some q ∧ h q = some (aI .int 385 X)) : aPrim 1001 [.ref A, .int (iI 1), .ref A, .int (iI 0), .int (iI 19)] (h, n, w, g) = some (.inl none, (aup h A (aP (.array .int) 21 (va_cpy F F 1 0 19)), n, w, g)) := by
  have c0 : ¬ (iI 1 < 0) := by decide
  have c1 : ¬ (iI 0 < 0) := by decide
  have c2 : ¬ (iI 19 < 0) := by decide
  have t1 : (iI 1).toNatClampNeg = 1 := by decide
  have t0 : (iI 0).toNatClampNeg = 0 := by decide
  have t2 : (iI 19).toNatClampNeg = 19 := by decide
  have al : ((List.range 19).all fun i => match F (1 + i) with | some y => isIA (h y) | none => true) = true := by
    rw [List.all_eq_true]
    intro i hi
    have hi2 := List.mem_range.mp hi
    obtain ⟨q, X, e1, e2⟩ := hF (1 + i) (by omega)
    rw [e1]
    show isIA (h q) = true
    rw [e2]
    rfl
  show (wr h A (cpC h (h A) (h A) (iI 1) (iI 0) (iI 19))).bind _ = _
  rw [hA]
  show (wr h A (if iI 1 < 0 ∨ iI 0 < 0 ∨ iI 19 < 0 ∨ 21 < (iI 1).toNatClampNeg + (iI 19).toNatClampNeg ∨ 21 < (iI 0).toNatClampNeg + (iI 19).toNatClampNeg ∨ ((List.range (iI 19).toNatClampNeg).all fun i => match F ((iI 1).toNatClampNeg + i) with | some y => isIA (h y) | none => true) = false then none
      else some (aP (.array .int) 21 (va_cpy F F (iI 1).toNatClampNeg (iI 0).toNatClampNeg (iI 19).toNatClampNeg)))).bind _ = _
  rw [t1, t0, t2, al, if_neg (fun z => by
    rcases z with z | z | z | z | z | z
    · exact c0 z
    · exact c1 z
    · exact c2 z
    · omega
    · omega
    · cases z)]
  rfl
theorem s_push {A base u ro : Nat} {U : Nat → Nat} {X : Nat → Nat → Int32} {R : Nat → Int32} (hA : h A = some (aP (.array .int) 21 (fun i => if i < 21 then some (base + U i) else none))) (hX : ∀ j, j < 21 → h (base + j) = some (aI .int 385 (X j))) (hU : ∀ i, i < 21 → U i < 21) (hr : h ro = some (aI .int 385 R)) (hn : A < base ∧ ro ≠ A) (hu : u ≤ 20) :
    aE (d + 2) 188 [.ref A, .int (iI u), .ref ro] (h, n, w, g) = some (.inl (some (.int (iI (min u 19 + 1 : Nat)))), (aup (aup h A (aP (.array .int) 21 (fun i => if i < 21 then some (base + rot u U i) else none))) (base + rot u U (min u 19)) (aI .int 385 (va_cpy R (X (rot u U (min u 19))) 0 0 385)), n, w, g)) := by
  have mn : min (u : Int) 19 = ((min u 19 : Nat) : Int) := by omega
  have ad : ((min u 19 : Nat) : Int) + 1 = ((min u 19 + 1 : Nat) : Int) := by omega
  -- behind the turning round
  have tail : ∀ (h1 : aHf) (V : Nat → Nat) (l3 : Option Value), h1 A = some (aP (.array .int) 21 (fun i => if i < 21 then some (base + V i) else none)) → (∀ j, j < 21 → h1 (base + j) = some (aI .int 385 (X j))) → (∀ i, i < 21 → V i < 21) → h1 ro = some (aI .int 385 R) →
      L (d + 1) 188 24 [some (.ref A), some (.int (iI u)), some (.ref ro), l3] [] (h1, n, w, g) = some (.inl (some (.int (iI (min u 19 + 1 : Nat)))), (aup h1 (base + V (min u 19)) (aI .int 385 (va_cpy R (X (V (min u 19))) 0 0 385)), n, w, g)) := by
    intro h1 V l3 k1 k2 k3 k4
    have v1 := k3 (min u 19) (by omega)
    have gp : gP (h1 A) (iI ((min u 19 : Nat) : Int)) = some (.ref (base + V (min u 19))) := by
      rw [k1, gP_P (by omega) (by omega) (by omega), Int.toNat_natCast, if_pos (by omega)]
      rfl
    have cc := s_acopy (h := h1) (n := n) (r := (w, g)) (sp := 0) (dp := 0) (m := 385) k4 (k2 _ v1) (by omega) (by omega) (by omega) (by omega)
    rw [show ((0 : Nat) : Int) = 0 from rfl, show ((385 : Nat) : Int) = 385 from rfl] at cc
    simp (disch := omega) only [r188_24, r188_25, r188_27, r188_30, r188_31, r188_32, r188_33, r188_34, r188_35, r188_36, r188_37, r188_40, r188_43, r188_44, r188_45, r188_46, s_min, mn, gp, cc, iI_add, ad, kl_n, kl_i, kl_r, kl_z, kl_l, kl_d, catS_0, catS_c, cat_i, cat_l, cat_d, cat_r, cat_n, kC_r, kC_x, Option.bind_some, Option.toList_some, Option.toList_none, List.cons_append, List.nil_append, gB0, gB1, gB2, gB3, gB4, rvB, nI_iI, i0, i1, l0_, wr_s, aup_s, and_true, true_and, and_self, eq_self, if_true, if_false, Nat.zero_le, Nat.reduceAdd, Nat.reduceLeDiff, gN_I, gN_L, gN_P, bI_0, bI_ok, z0, z1, Bool.true_eq, Bool.false_eq_true, not_true_eq_false, not_false_eq_true]
  by_cases q : u = 20
  · subst q
    have g0 : gP (h A) (iI 0) = some (.ref (base + U 0)) := by
      rw [hA]
      have e := gP_P (ty := .array .int) (N := 21) (f := fun i => if i < 21 then some (base + U i) else none) (j := 0) (by omega) (by omega) (by omega)
      exact e
    have pc := s_pcopy (n := n) (w := w) (g := g) (h := h) (base := base) hA (fun i hi => ⟨base + U i, X (U i), if_pos hi, hX _ (hU i hi)⟩)
    have sp : sP (some (aP (.array .int) 21 (va_cpy (fun i => if i < 21 then some (base + U i) else none) (fun i => if i < 21 then some (base + U i) else none) 1 0 19))) (aup h A (aP (.array .int) 21 (va_cpy (fun i => if i < 21 then some (base + U i) else none) (fun i => if i < 21 then some (base + U i) else none) 1 0 19)) (base + U 0)) (iI 19) (base + U 0) =
        some (aP (.array .int) 21 (fun i => if i < 21 then some (base + rot 20 U i) else none)) := by
      have ib : inB (iI 19) 21 = true := by decide
      have t2 : (iI 19).toNatClampNeg = 19 := by decide
      rw [aup_o (by omega), hX _ (hU 0 (by omega))]
      show (if inB (iI 19) 21 then some (aP (.array .int) 21 (updO (va_cpy (fun i => if i < 21 then some (base + U i) else none) (fun i => if i < 21 then some (base + U i) else none) 1 0 19) (iI 19).toNatClampNeg (some (base + U 0)))) else none) = _
      rw [ib, if_pos rfl, t2]
      refine congrArg some (congrArg (aP (.array .int) 21) ?_)
      funext i
      unfold updO va_cpy rot
      rw [if_pos rfl]
      show (if i = 19 then some (base + U 0) else if 0 ≤ i ∧ i < 0 + 19 then (if 1 + (i - 0) < 21 then some (base + U (1 + (i - 0))) else none) else if i < 21 then some (base + U i) else none) = if i < 21 then some (base + (if i < 19 then U (i + 1) else if i = 19 then U 0 else U i)) else none
      by_cases e1 : i = 19
      · rw [if_pos e1, if_pos (by omega), if_neg (by omega), if_pos e1]
      · rw [if_neg e1]
        by_cases e2 : i < 19
        · rw [if_pos (by omega), if_pos (by omega), if_pos (by omega), if_pos e2, show 1 + (i - 0) = i + 1 by omega]
        · rw [if_neg (by omega), if_neg e2, if_neg e1]
    have tl := tail (aup h A (aP (.array .int) 21 (fun i => if i < 21 then some (base + rot 20 U i) else none))) (rot 20 U) (some (.ref (base + U 0))) aup_s (fun j hj => by rw [aup_o (by omega)]; exact hX j hj) (rot_lt hU) (by rw [aup_o hn.2]; exact hr)
    rw [show ((20 : Nat) : Int) = 20 from rfl] at tl ⊢
    rw [e188]
    simp (disch := omega) only [r188_0, r188_1, r188_3, r188_6, r188_7, r188_8, r188_9, r188_10, r188_11, r188_12, r188_13, r188_14, r188_16, r188_19, r188_20, r188_22, r188_23, g0, pc, sp, aup_2, tl, kl_n, kl_i, kl_r, kl_z, kl_l, kl_d, catS_0, catS_c, cat_i, cat_l, cat_d, cat_r, cat_n, kC_r, kC_x, Option.bind_some, Option.toList_some, Option.toList_none, List.cons_append, List.nil_append, gB0, gB1, gB2, gB3, gB4, rvB, nI_iI, i0, i1, l0_, wr_s, aup_s, and_true, true_and, and_self, eq_self, if_true, if_false, Nat.zero_le, Nat.reduceAdd, Nat.reduceLeDiff, gN_I, gN_L, gN_P, bI_0, bI_ok, z0, z1, Bool.true_eq, Bool.false_eq_true, not_true_eq_false, not_false_eq_true]
  · have c1 : ¬ (u : Int) = 20 := by omega
    have er : rot u U = U := if_neg q
    have tl := tail h U none hA hX hU hr
    rw [er, aup_id hA, e188]
    simp (disch := omega) only [r188_0, r188_1, r188_3, r188_6, r188_7, r188_8, r188_9, r188_10, r188_11, r188_12, r188_13, r188_14, r188_16, r188_19, r188_20, r188_22, r188_23, iI_eq, c1, tl, kl_n, kl_i, kl_r, kl_z, kl_l, kl_d, catS_0, catS_c, cat_i, cat_l, cat_d, cat_r, cat_n, kC_r, kC_x, Option.bind_some, Option.toList_some, Option.toList_none, List.cons_append, List.nil_append, gB0, gB1, gB2, gB3, gB4, rvB, nI_iI, i0, i1, l0_, wr_s, aup_s, and_true, true_and, and_self, eq_self, if_true, if_false, Nat.zero_le, Nat.reduceAdd, Nat.reduceLeDiff, gN_I, gN_L, gN_P, bI_0, bI_ok, z0, z1, Bool.true_eq, Bool.false_eq_true, not_true_eq_false, not_false_eq_true]
end
section
variable {d n w : Nat} {g : Nat × Nat} {h : aHf} {y : Nat} {M : Md}
theorem md_uo {U : Nat → Nat} : aup (mdW h y M) (y + 3) (aP (.array .int) 21 (fun i => if i < 21 then some (y + 4 + U i) else none)) = mdW h y (M.1, M.2.1, M.2.2.1, (U, M.2.2.2.1.2), M.2.2.2.2) :=
  md_up (by decide) rfl (fun j hj e => by
    unfold mdC
    simp only [e, if_false])
theorem md_ro {U : Nat → Nat} : aup (mdW h y M) (y + 25) (aP (.array .int) 21 (fun i => if i < 21 then some (y + 26 + U i) else none)) = mdW h y (M.1, M.2.1, M.2.2.1, M.2.2.2.1, (U, M.2.2.2.2.1.2), M.2.2.2.2.2) :=
  md_up (by decide) rfl (fun j hj e => by
    unfold mdC
    simp only [e, if_false])
theorem md_u1 {j : Nat} {R : Nat → Int32} (hj : j < 21) : aup (mdW h y M) (y + 4 + j) (aI .int 385 R) = mdW h y (M.1, M.2.1, M.2.2.1, (M.2.2.2.1.1, fun i => if i = j then R else M.2.2.2.1.2 i), M.2.2.2.2) := by
  rw [Nat.add_assoc]
  refine md_up (by omega) ?_ (fun k hk e => ?_)
  · unfold mdC
    rw [if_neg (by omega), if_neg (by omega), if_neg (by omega), if_neg (by omega), if_pos (by omega), Nat.add_sub_cancel_left]
    show aI .int 385 R = aI .int 385 (if j = j then R else M.2.2.2.1.2 j)
    rw [if_pos rfl]
  · unfold mdC
    by_cases e0 : k = 0
    · rw [if_pos e0, if_pos e0]
    · rw [if_neg e0, if_neg e0]
      by_cases e1 : k = 1
      · rw [if_pos e1, if_pos e1]
      · rw [if_neg e1, if_neg e1]
        by_cases e2 : k = 2
        · rw [if_pos e2, if_pos e2]
        · rw [if_neg e2, if_neg e2]
          by_cases e3 : k = 3
          · rw [if_pos e3, if_pos e3]
          · rw [if_neg e3, if_neg e3]
            by_cases e4 : k < 25
            · rw [if_pos e4, if_pos e4]
              show aI .int 385 (M.2.2.2.1.2 (k - 4)) = aI .int 385 (if k - 4 = j then R else M.2.2.2.1.2 (k - 4))
              rw [if_neg (by omega)]
            · rw [if_neg e4, if_neg e4]
theorem md_r1 {j : Nat} {R : Nat → Int32} (hj : j < 21) : aup (mdW h y M) (y + 26 + j) (aI .int 385 R) = mdW h y (M.1, M.2.1, M.2.2.1, M.2.2.2.1, (M.2.2.2.2.1.1, fun i => if i = j then R else M.2.2.2.2.1.2 i), M.2.2.2.2.2) := by
  rw [Nat.add_assoc]
  refine md_up (by omega) ?_ (fun k hk e => ?_)
  · unfold mdC
    rw [if_neg (by omega), if_neg (by omega), if_neg (by omega), if_neg (by omega), if_neg (by omega), if_neg (by omega), if_pos (by omega), Nat.add_sub_cancel_left]
    show aI .int 385 R = aI .int 385 (if j = j then R else M.2.2.2.2.1.2 j)
    rw [if_pos rfl]
  · unfold mdC
    by_cases e0 : k = 0
    · rw [if_pos e0, if_pos e0]
    · rw [if_neg e0, if_neg e0]
      by_cases e1 : k = 1
      · rw [if_pos e1, if_pos e1]
      · rw [if_neg e1, if_neg e1]
        by_cases e2 : k = 2
        · rw [if_pos e2, if_pos e2]
        · rw [if_neg e2, if_neg e2]
          by_cases e3 : k = 3
          · rw [if_pos e3, if_pos e3]
          · rw [if_neg e3, if_neg e3]
            by_cases e4 : k < 25
            · rw [if_pos e4, if_pos e4]
            · rw [if_neg e4, if_neg e4]
              by_cases e5 : k = 25
              · rw [if_pos e5, if_pos e5]
              · rw [if_neg e5, if_neg e5]
                by_cases e6 : k < 47
                · rw [if_pos e6, if_pos e6]
                  show aI .int 385 (M.2.2.2.2.1.2 (k - 26)) = aI .int 385 (if k - 26 = j then R else M.2.2.2.2.1.2 (k - 26))
                  rw [if_neg (by omega)]
                · rw [if_neg e6, if_neg e6]
/-- a row pushed to what can be taken back, or done again -/
def puU (M : Md) (u : Nat) (R : Nat → Int32) : Md := (M.1, M.2.1, M.2.2.1, (rot u M.2.2.2.1.1, fun i => if i = rot u M.2.2.2.1.1 (min u 19) then va_cpy R (M.2.2.2.1.2 (rot u M.2.2.2.1.1 (min u 19))) 0 0 385 else M.2.2.2.1.2 i), M.2.2.2.2)
def puR (M : Md) (u : Nat) (R : Nat → Int32) : Md := (M.1, M.2.1, M.2.2.1, M.2.2.2.1, (rot u M.2.2.2.2.1.1, fun i => if i = rot u M.2.2.2.2.1.1 (min u 19) then va_cpy R (M.2.2.2.2.1.2 (rot u M.2.2.2.2.1.1 (min u 19))) 0 0 385 else M.2.2.2.2.1.2 i), M.2.2.2.2.2)
theorem r_pushU {u ro : Nat} {R : Nat → Int32} (hU : ∀ i, i < 21 → M.2.2.2.1.1 i < 21) (hr : mdW h y M ro = some (aI .int 385 R)) (hn : ro ≠ y + 3) (hu : u ≤ 20) :
    aE (d + 2) 188 [.ref (y + 3), .int (iI u), .ref ro] (mdW h y M, n, w, g) = some (.inl (some (.int (iI (min u 19 + 1 : Nat)))), (mdW h y (puU M u R), n, w, g)) := by
  have e := s_push (d := d) (n := n) (w := w) (g := g) (h := mdW h y M) (A := y + 3) (base := y + 4) (u := u) (ro := ro) (U := M.2.2.2.1.1) (X := M.2.2.2.1.2) (R := R) md_3 (fun j hj => md_u hj) hU hr ⟨by omega, hn⟩ hu
  rw [md_uo, md_u1 (rot_lt hU _ (by omega))] at e
  exact e
theorem r_pushR {u ro : Nat} {R : Nat → Int32} (hU : ∀ i, i < 21 → M.2.2.2.2.1.1 i < 21) (hr : mdW h y M ro = some (aI .int 385 R)) (hn : ro ≠ y + 25) (hu : u ≤ 20) :
    aE (d + 2) 188 [.ref (y + 25), .int (iI u), .ref ro] (mdW h y M, n, w, g) = some (.inl (some (.int (iI (min u 19 + 1 : Nat)))), (mdW h y (puR M u R), n, w, g)) := by
  have e := s_push (d := d) (n := n) (w := w) (g := g) (h := mdW h y M) (A := y + 25) (base := y + 26) (u := u) (ro := ro) (U := M.2.2.2.2.1.1) (X := M.2.2.2.2.1.2) (R := R) md_25 (fun j hj => md_r hj) hU hr ⟨by omega, hn⟩ hu
  rw [md_ro, md_r1 (rot_lt hU _ (by omega))] at e
  exact e
theorem md_un {u : Int32} : aup (mdW h y M) y (aB 10 [.int M.1.1, .ref (y + 1), .ref (y + 2), .ref (y + 3), .ref (y + 25), .int u, .int M.1.2.2.1, .int (bI (M.1.2.2.2.1 = true)), .ref (y + 47), .int M.1.2.2.2.2.1, .ref (y + 48), .ref (y + 49), .int M.1.2.2.2.2.2.1, .ref (y + 530), .long M.1.2.2.2.2.2.2]) = mdW h y ((M.1.1, u, M.1.2.2.1, M.1.2.2.2.1, M.1.2.2.2.2.1, M.1.2.2.2.2.2.1, M.1.2.2.2.2.2.2), M.2) := md_ob
theorem md_rd {u : Int32} : aup (mdW h y M) y (aB 10 [.int M.1.1, .ref (y + 1), .ref (y + 2), .ref (y + 3), .ref (y + 25), .int M.1.2.1, .int u, .int (bI (M.1.2.2.2.1 = true)), .ref (y + 47), .int M.1.2.2.2.2.1, .ref (y + 48), .ref (y + 49), .int M.1.2.2.2.2.2.1, .ref (y + 530), .long M.1.2.2.2.2.2.2]) = mdW h y ((M.1.1, M.1.2.1, u, M.1.2.2.2.1, M.1.2.2.2.2.1, M.1.2.2.2.2.2.1, M.1.2.2.2.2.2.2), M.2) := md_ob
/-- a change kept -/
def chM (M : Md) (u : Nat) (R : Nat → Int32) : Md := ((M.1.1, iI (min u 19 + 1 : Nat), iI 0, M.1.2.2.2.1, M.1.2.2.2.2.1, M.1.2.2.2.2.2.1, M.1.2.2.2.2.2.2), (puU M u R).2)
theorem r_isChange {u ro : Nat} {R : Nat → Int32} (hu : M.1.2.1 = iI u) (hb : u ≤ 20) (hU : ∀ i, i < 21 → M.2.2.2.1.1 i < 21) (hr : mdW h y M ro = some (aI .int 385 R)) (hn : ro ≠ y + 1 ∧ ro ≠ y + 3) :
    aE (d + 6) 189 [.ref y, .ref ro] (mdW h y M, n, w, g) = some (.inl (some (.int (bI (¬ eqA R M.2.1)))), (mdW h y (if eqA R M.2.1 then M else chM M u R), n, w, g)) := by
  have eq := s_eqA (d := d) (n := n) (w := w) (g := g) hn.1 hr (md_1 (h := h) (y := y) (M := M))
  by_cases q : eqA R M.2.1
  · rw [if_pos q, show bI (¬ eqA R M.2.1) = iI 0 from if_neg (fun z => z q)]
    rw [show bI (eqA R M.2.1) = iI 1 from if_pos q] at eq
    have c1 : ¬ (1 : Int) = 0 := by omega
    rw [e189]
    simp (disch := omega) only [r189_0, r189_1, r189_2, r189_5, r189_8, r189_11, r189_12, r189_13, r189_14, r189_15, r189_18, r189_19, r189_22, r189_23, r189_26, r189_29, r189_30, r189_31, r189_34, r189_35, md_0, eq, iI_eq, c1, kl_n, kl_i, kl_r, kl_z, kl_l, kl_d, catS_0, catS_c, cat_i, cat_l, cat_d, cat_r, cat_n, kC_r, kC_x, Option.bind_some, Option.toList_some, Option.toList_none, List.cons_append, List.nil_append, gB0, gB1, gB2, gB3, gB4, rvB, nI_iI, i0, i1, l0_, wr_s, aup_s, and_true, true_and, and_self, eq_self, if_true, if_false, Nat.zero_le, Nat.reduceAdd, Nat.reduceLeDiff, gN_I, gN_L, gN_P, bI_0, bI_ok, z0, z1, Bool.true_eq, Bool.false_eq_true, not_true_eq_false, not_false_eq_true]
  · rw [if_neg q, show bI (¬ eqA R M.2.1) = iI 1 from if_pos q]
    rw [show bI (eqA R M.2.1) = iI 0 from if_neg q] at eq
    have pu := r_pushU (d := d + 3) (n := n) (w := w) (g := g) hU hr hn.2 hb
    have f2 := md_rd (h := h) (y := y) (M := ((M.1.1, iI (min u 19 + 1 : Nat), M.1.2.2.1, M.1.2.2.2.1, M.1.2.2.2.2.1, M.1.2.2.2.2.2.1, M.1.2.2.2.2.2.2), (puU M u R).2)) (u := iI 0)
    rw [e189]
    simp (disch := omega) only [r189_0, r189_1, r189_2, r189_5, r189_8, r189_11, r189_12, md_0, eq, kl_n, kl_i, kl_r, kl_z, kl_l, kl_d, catS_0, catS_c, cat_i, cat_l, cat_d, cat_r, cat_n, kC_r, kC_x, Option.bind_some, Option.toList_some, Option.toList_none, List.cons_append, List.nil_append, gB0, gB1, gB2, gB3, gB4, rvB, nI_iI, i0, i1, l0_, wr_s, aup_s, and_true, true_and, and_self, eq_self, if_true, if_false, Nat.zero_le, Nat.reduceAdd, Nat.reduceLeDiff, gN_I, gN_L, gN_P, bI_0, bI_ok, z0, z1, Bool.true_eq, Bool.false_eq_true, not_true_eq_false, not_false_eq_true]
    simp (disch := omega) only [r189_13, r189_14, r189_15, r189_18, r189_19, r189_22, r189_23, r189_26, r189_29, r189_30, r189_31, r189_34, r189_35, md_0, mg5, hu, pu, ms5, md_ob, kl_n, kl_i, kl_r, kl_z, kl_l, kl_d, catS_0, catS_c, cat_i, cat_l, cat_d, cat_r, cat_n, kC_r, kC_x, Option.bind_some, Option.toList_some, Option.toList_none, List.cons_append, List.nil_append, gB0, gB1, gB2, gB3, gB4, rvB, nI_iI, i0, i1, l0_, wr_s, aup_s, and_true, true_and, and_self, eq_self, if_true, if_false, Nat.zero_le, Nat.reduceAdd, Nat.reduceLeDiff, gN_I, gN_L, gN_P, bI_0, bI_ok, z0, z1, Bool.true_eq, Bool.false_eq_true, not_true_eq_false, not_false_eq_true]
    simp (disch := omega) only [r189_30, r189_31, r189_34, r189_35, md_0, ms6, f2, md_ob, kl_n, kl_i, kl_r, kl_z, kl_l, kl_d, catS_0, catS_c, cat_i, cat_l, cat_d, cat_r, cat_n, kC_r, kC_x, Option.bind_some, Option.toList_some, Option.toList_none, List.cons_append, List.nil_append, gB0, gB1, gB2, gB3, gB4, rvB, nI_iI, i0, i1, l0_, wr_s, aup_s, and_true, true_and, and_self, eq_self, if_true, if_false, Nat.zero_le, Nat.reduceAdd, Nat.reduceLeDiff, gN_I, gN_L, gN_P, bI_0, bI_ok, z0, z1, Bool.true_eq, Bool.false_eq_true, not_true_eq_false, not_false_eq_true]
    rfl
/-- behind a call that may have changed something -/
def dnM (M : Md) (u : Nat) : Md := if M.1.2.2.2.1 = true ∨ eqA M.2.2.1 M.2.1 then M else chM M u M.2.2.1
theorem r_done {u : Nat} {t : Int32} (hu : M.1.2.1 = iI u) (hb : u ≤ 20) (hU : ∀ i, i < 21 → M.2.2.2.1.1 i < 21) : aE (d + 7) 190 [.ref y, .int t] (mdW h y M, n, w, g) = some (.inl (some (.int t)), (mdW h y (dnM M u), n, w, g)) := by
  have ic := r_isChange (d := d) (n := n) (w := w) (g := g) hu hb hU (md_2 (h := h) (y := y) (M := M)) (by omega)
  unfold dnM
  by_cases q : M.1.2.2.2.1 = true
  · rw [if_pos (Or.inl q), e190]
    simp (disch := omega) only [r190_0, r190_1, r190_4, r190_7, r190_8, r190_9, r190_12, r190_15i, r190_15, r190_16, r190_17, md_0, mg7, q, kl_n, kl_i, kl_r, kl_z, kl_l, kl_d, catS_0, catS_c, cat_i, cat_l, cat_d, cat_r, cat_n, kC_r, kC_x, Option.bind_some, Option.toList_some, Option.toList_none, List.cons_append, List.nil_append, gB0, gB1, gB2, gB3, gB4, rvB, nI_iI, i0, i1, l0_, wr_s, aup_s, and_true, true_and, and_self, eq_self, if_true, if_false, Nat.zero_le, Nat.reduceAdd, Nat.reduceLeDiff, gN_I, gN_L, gN_P, bI_0, bI_ok, z0, z1, Bool.true_eq, Bool.false_eq_true, not_true_eq_false, not_false_eq_true]
  · by_cases q2 : eqA M.2.2.1 M.2.1
    · rw [if_pos (Or.inr q2), e190]
      rw [if_pos q2] at ic
      simp (disch := omega) only [r190_0, r190_1, r190_4, r190_7, r190_8, r190_9, r190_12, r190_15i, r190_15, r190_16, r190_17, md_0, mg7, q, mg8, gB2, ic, kl_n, kl_i, kl_r, kl_z, kl_l, kl_d, catS_0, catS_c, cat_i, cat_l, cat_d, cat_r, cat_n, kC_r, kC_x, Option.bind_some, Option.toList_some, Option.toList_none, List.cons_append, List.nil_append, gB0, gB1, gB2, gB3, gB4, rvB, nI_iI, i0, i1, l0_, wr_s, aup_s, and_true, true_and, and_self, eq_self, if_true, if_false, Nat.zero_le, Nat.reduceAdd, Nat.reduceLeDiff, gN_I, gN_L, gN_P, bI_0, bI_ok, z0, z1, Bool.true_eq, Bool.false_eq_true, not_true_eq_false, not_false_eq_true]
    · rw [if_neg (fun z => z.elim q q2), e190]
      rw [if_neg q2] at ic
      simp (disch := omega) only [r190_0, r190_1, r190_4, r190_7, r190_8, r190_9, r190_12, r190_15i, r190_15, r190_16, r190_17, md_0, mg7, q, mg8, gB2, ic, kl_n, kl_i, kl_r, kl_z, kl_l, kl_d, catS_0, catS_c, cat_i, cat_l, cat_d, cat_r, cat_n, kC_r, kC_x, Option.bind_some, Option.toList_some, Option.toList_none, List.cons_append, List.nil_append, gB0, gB1, gB2, gB3, gB4, rvB, nI_iI, i0, i1, l0_, wr_s, aup_s, and_true, true_and, and_self, eq_self, if_true, if_false, Nat.zero_le, Nat.reduceAdd, Nat.reduceLeDiff, gN_I, gN_L, gN_P, bI_0, bI_ok, z0, z1, Bool.true_eq, Bool.false_eq_true, not_true_eq_false, not_false_eq_true]
/-- the group closed -/
def cgM (M : Md) : Md := ((iI 0, M.1.2.1, M.1.2.2.1, false, M.1.2.2.2.2.1, M.1.2.2.2.2.2.1, M.1.2.2.2.2.2.2), M.2)
theorem r_closeGroup {u : Nat} (ho : M.1.2.2.2.1 = true) (hu : M.1.2.1 = iI u) (hb : u ≤ 20) (hU : ∀ i, i < 21 → M.2.2.2.1.1 i < 21) : aE (d + 7) 192 [.ref y] (mdW h y M, n, w, g) =
    some (.inl (some (.int (bI (¬ eqA M.2.2.2.2.2.1 M.2.1)))), (mdW h y (if eqA M.2.2.2.2.2.1 M.2.1 then cgM M else chM (cgM M) u M.2.2.2.2.2.1), n, w, g)) := by
  have ob := md_ob (h := h) (y := y) (M := ((iI 0, M.1.2), M.2)) (t := iI 0) (u := M.1.2.1) (r := M.1.2.2.1) (b := false) (c := M.1.2.2.2.2.1) (p := M.1.2.2.2.2.2.1) (s := M.1.2.2.2.2.2.2)
  rw [show bI (false = true) = iI 0 from rfl] at ob
  have ic := r_isChange (d := d) (n := n) (w := w) (g := g) (M := cgM M) (u := u) (ro := y + 47) hu hb hU (md_47 (h := h) (y := y) (M := cgM M)) (by omega)
  have ms70 : ∀ {a0 a1 a2 a3 a4 a5 a6 a7 a8 a9 a10 a11 a12 a13 a14 : Value}, sF (some (aB 10 [a0, a1, a2, a3, a4, a5, a6, a7, a8, a9, a10, a11, a12, a13, a14])) 10 7 1 (.int (iI 0)) = some (aB 10 [a0, a1, a2, a3, a4, a5, a6, .int (iI 0), a8, a9, a10, a11, a12, a13, a14]) := ms7 (p := False)
  rw [e192]
  simp (disch := omega) only [r192_0, r192_1, r192_2, r192_5, r192_8, r192_9, md_0, mg7, kl_n, kl_i, kl_r, kl_z, kl_l, kl_d, catS_0, catS_c, cat_i, cat_l, cat_d, cat_r, cat_n, kC_r, kC_x, Option.bind_some, Option.toList_some, Option.toList_none, List.cons_append, List.nil_append, gB0, gB1, gB2, gB3, gB4, rvB, nI_iI, i0, i1, l0_, wr_s, aup_s, and_true, true_and, and_self, eq_self, if_true, if_false, Nat.zero_le, Nat.reduceAdd, Nat.reduceLeDiff, gN_I, gN_L, gN_P, bI_0, bI_ok, z0, z1, Bool.true_eq, Bool.false_eq_true, not_true_eq_false, not_false_eq_true]
  rw [if_neg (fun z => z ho)]
  simp (disch := omega) only [r192_13, r192_16, r192_17, r192_20, md_0, mg7, sB0i, md_th, kl_n, kl_i, kl_r, kl_z, kl_l, kl_d, catS_0, catS_c, cat_i, cat_l, cat_d, cat_r, cat_n, kC_r, kC_x, Option.bind_some, Option.toList_some, Option.toList_none, List.cons_append, List.nil_append, gB0, gB1, gB2, gB3, gB4, rvB, nI_iI, i0, i1, l0_, wr_s, aup_s, and_true, true_and, and_self, eq_self, if_true, if_false, Nat.zero_le, Nat.reduceAdd, Nat.reduceLeDiff, gN_I, gN_L, gN_P, bI_0, bI_ok, z0, z1, Bool.true_eq, Bool.false_eq_true, not_true_eq_false, not_false_eq_true]
  rw [if_neg (fun z => z ho)]
  simp (disch := omega) only [r192_25, r192_26, r192_27, md_0, ms70, ob, kl_n, kl_i, kl_r, kl_z, kl_l, kl_d, catS_0, catS_c, cat_i, cat_l, cat_d, cat_r, cat_n, kC_r, kC_x, Option.bind_some, Option.toList_some, Option.toList_none, List.cons_append, List.nil_append, gB0, gB1, gB2, gB3, gB4, rvB, nI_iI, i0, i1, l0_, wr_s, aup_s, and_true, true_and, and_self, eq_self, if_true, if_false, Nat.zero_le, Nat.reduceAdd, Nat.reduceLeDiff, gN_I, gN_L, gN_P, bI_0, bI_ok, z0, z1, Bool.true_eq, Bool.false_eq_true, not_true_eq_false, not_false_eq_true]
  have md0 := md_0 (h := h) (y := y) (M := cgM M)
  show L (d + 6) 192 30 [some (.ref y)] [] (mdW h y (cgM M), n, w, g) = _
  by_cases q : eqA M.2.2.2.2.2.1 M.2.1
  · have q' : bI (¬ eqA (cgM M).2.2.2.2.2.1 (cgM M).2.1) = iI 0 := if_neg (fun z => z q)
    have q2 : bI (¬ eqA M.2.2.2.2.2.1 M.2.1) = iI 0 := if_neg (fun z => z q)
    rw [q', show (if eqA (cgM M).2.2.2.2.2.1 (cgM M).2.1 then cgM M else chM (cgM M) u (cgM M).2.2.2.2.2.1) = cgM M from if_pos q] at ic
    rw [if_pos q, q2]
    simp (disch := omega) only [r192_30, r192_31, r192_32, r192_35, r192_38, md0, mg8, ic, kl_n, kl_i, kl_r, kl_z, kl_l, kl_d, catS_0, catS_c, cat_i, cat_l, cat_d, cat_r, cat_n, kC_r, kC_x, Option.bind_some, Option.toList_some, Option.toList_none, List.cons_append, List.nil_append, gB0, gB1, gB2, gB3, gB4, rvB, nI_iI, i0, i1, l0_, wr_s, aup_s, and_true, true_and, and_self, eq_self, if_true, if_false, Nat.zero_le, Nat.reduceAdd, Nat.reduceLeDiff, gN_I, gN_L, gN_P, bI_0, bI_ok, z0, z1, Bool.true_eq, Bool.false_eq_true, not_true_eq_false, not_false_eq_true]
  · have q' : bI (¬ eqA (cgM M).2.2.2.2.2.1 (cgM M).2.1) = iI 1 := if_pos q
    have q2 : bI (¬ eqA M.2.2.2.2.2.1 M.2.1) = iI 1 := if_pos q
    rw [q', show (if eqA (cgM M).2.2.2.2.2.1 (cgM M).2.1 then cgM M else chM (cgM M) u (cgM M).2.2.2.2.2.1) = chM (cgM M) u M.2.2.2.2.2.1 from if_neg q] at ic
    rw [if_neg q, q2]
    simp (disch := omega) only [r192_30, r192_31, r192_32, r192_35, r192_38, md0, mg8, ic, kl_n, kl_i, kl_r, kl_z, kl_l, kl_d, catS_0, catS_c, cat_i, cat_l, cat_d, cat_r, cat_n, kC_r, kC_x, Option.bind_some, Option.toList_some, Option.toList_none, List.cons_append, List.nil_append, gB0, gB1, gB2, gB3, gB4, rvB, nI_iI, i0, i1, l0_, wr_s, aup_s, and_true, true_and, and_self, eq_self, if_true, if_false, Nat.zero_le, Nat.reduceAdd, Nat.reduceLeDiff, gN_I, gN_L, gN_P, bI_0, bI_ok, z0, z1, Bool.true_eq, Bool.false_eq_true, not_true_eq_false, not_false_eq_true]
theorem r_closeGroup_1 (ho : M.1.2.2.2.1 = false) : aE (d + 2) 192 [.ref y] (mdW h y M, n, w, g) = some (.inl (some (.int (iI 0))), (mdW h y ((iI 1, M.1.2), M.2), n, w, g)) := by
  have q : ¬ (M.1.2.2.2.1 = true) := by rw [ho]; exact fun z => by cases z
  rw [e192]
  simp (disch := omega) only [r192_0, r192_1, r192_2, r192_5, r192_8, r192_9, md_0, mg7, kl_n, kl_i, kl_r, kl_z, kl_l, kl_d, catS_0, catS_c, cat_i, cat_l, cat_d, cat_r, cat_n, kC_r, kC_x, Option.bind_some, Option.toList_some, Option.toList_none, List.cons_append, List.nil_append, gB0, gB1, gB2, gB3, gB4, rvB, nI_iI, i0, i1, l0_, wr_s, aup_s, and_true, true_and, and_self, eq_self, if_true, if_false, Nat.zero_le, Nat.reduceAdd, Nat.reduceLeDiff, gN_I, gN_L, gN_P, bI_0, bI_ok, z0, z1, Bool.true_eq, Bool.false_eq_true, not_true_eq_false, not_false_eq_true]
  rw [if_pos q]
  simp (disch := omega) only [r192_12, r192_13, r192_16, r192_17, r192_20, md_0, mg7, sB0i, md_th, kl_n, kl_i, kl_r, kl_z, kl_l, kl_d, catS_0, catS_c, cat_i, cat_l, cat_d, cat_r, cat_n, kC_r, kC_x, Option.bind_some, Option.toList_some, Option.toList_none, List.cons_append, List.nil_append, gB0, gB1, gB2, gB3, gB4, rvB, nI_iI, i0, i1, l0_, wr_s, aup_s, and_true, true_and, and_self, eq_self, if_true, if_false, Nat.zero_le, Nat.reduceAdd, Nat.reduceLeDiff, gN_I, gN_L, gN_P, bI_0, bI_ok, z0, z1, Bool.true_eq, Bool.false_eq_true, not_true_eq_false, not_false_eq_true]
  rw [if_pos q]
  simp (disch := omega) only [r192_23, r192_24, kl_n, kl_i, kl_r, kl_z, kl_l, kl_d, catS_0, catS_c, cat_i, cat_l, cat_d, cat_r, cat_n, kC_r, kC_x, Option.bind_some, Option.toList_some, Option.toList_none, List.cons_append, List.nil_append, gB0, gB1, gB2, gB3, gB4, rvB, nI_iI, i0, i1, l0_, wr_s, aup_s, and_true, true_and, and_self, eq_self, if_true, if_false, Nat.zero_le, Nat.reduceAdd, Nat.reduceLeDiff, gN_I, gN_L, gN_P, bI_0, bI_ok, z0, z1, Bool.true_eq, Bool.false_eq_true, not_true_eq_false, not_false_eq_true]
/-- taken back, done again -/
def unM (M : Md) (u v : Nat) : Md := ((iI 0, iI (u : Nat), iI (min v 19 + 1 : Nat), M.1.2.2.2.1, M.1.2.2.2.2.1, M.1.2.2.2.2.2.1, M.1.2.2.2.2.2.2), va_cpy (M.2.2.2.1.2 (M.2.2.2.1.1 u)) M.2.1 0 0 385, (puR M v M.2.1).2.2)
def reM (M : Md) (u v : Nat) : Md := ((iI 0, iI (min u 19 + 1 : Nat), iI (v : Nat), M.1.2.2.2.1, M.1.2.2.2.2.1, M.1.2.2.2.2.2.1, M.1.2.2.2.2.2.2), va_cpy (M.2.2.2.2.1.2 (M.2.2.2.2.1.1 v)) M.2.1 0 0 385, (puU M u M.2.1).2.2)
theorem r_undo {u v : Nat} (ho : M.1.2.2.2.1 = false) (hu : M.1.2.1 = iI (u + 1 : Nat)) (hv : M.1.2.2.1 = iI v) (hb : u + 1 ≤ 20 ∧ v ≤ 20) (hU : ∀ i, i < 21 → M.2.2.2.1.1 i < 21) (hR : ∀ i, i < 21 → M.2.2.2.2.1.1 i < 21) : aE (d + 4) 193 [.ref y] (mdW h y M, n, w, g) = some (.inl (some (.int (iI u))), (mdW h y (unM M u v), n, w, g)) := by
  have q : ¬ (M.1.2.2.2.1 = true) := by rw [ho]; exact fun z => by cases z
  have c1 : ¬ ((u + 1 : Nat) : Int) = 0 := by omega
  have e1 : M.1.2.1 - iI 1 = iI (u : Int) := by rw [hu, iI_sub, show ((u + 1 : Nat) : Int) - 1 = (u : Int) by omega]
  have pu := r_pushR (d := d + 1) (n := n) (w := w) (g := g) (M := ((iI 0, M.1.2), M.2)) (u := v) (ro := y + 1) hR (md_1 (h := h) (y := y) (M := ((iI 0, M.1.2), M.2))) (by omega) hb.2
  have f1 := md_rd (h := h) (y := y) (M := puR ((iI 0, M.1.2), M.2) v M.2.1) (u := iI (min v 19 + 1 : Nat))
  have f2 := md_un (h := h) (y := y) (M := ((iI 0, M.1.2.1, iI (min v 19 + 1 : Nat), M.1.2.2.2.1, M.1.2.2.2.2.1, M.1.2.2.2.2.2.1, M.1.2.2.2.2.2.2), (puR ((iI 0, M.1.2), M.2) v M.2.1).2)) (u := iI u)
  have g3 : gP (mdW h y ((iI 0, iI u, iI (min v 19 + 1 : Nat), M.1.2.2.2.1, M.1.2.2.2.2.1, M.1.2.2.2.2.2.1, M.1.2.2.2.2.2.2), (puR ((iI 0, M.1.2), M.2) v M.2.1).2) (y + 3)) (iI (u : Int)) = some (.ref (y + 4 + M.2.2.2.1.1 u)) := by
    rw [md_3, gP_P (by omega) (by omega) (by omega), Int.toNat_natCast, if_pos (by omega)]
    rfl
  have cc := s_acopy (h := mdW h y ((iI 0, iI u, iI (min v 19 + 1 : Nat), M.1.2.2.2.1, M.1.2.2.2.2.1, M.1.2.2.2.2.2.1, M.1.2.2.2.2.2.2), (puR ((iI 0, M.1.2), M.2) v M.2.1).2)) (n := n) (r := (w, g)) (s := y + 4 + M.2.2.2.1.1 u) (t := y + 1) (sp := 0) (dp := 0) (m := 385) (md_u (hU u (by omega))) md_1 (by omega) (by omega) (by omega) (by omega)
  rw [md_a, show ((0 : Nat) : Int) = 0 from rfl, show ((385 : Nat) : Int) = 385 from rfl] at cc
  rw [e193]
  simp (disch := omega) only [r193_0, r193_1, r193_2, r193_5, md_0, sB0i, md_th, kl_n, kl_i, kl_r, kl_z, kl_l, kl_d, catS_0, catS_c, cat_i, cat_l, cat_d, cat_r, cat_n, kC_r, kC_x, Option.bind_some, Option.toList_some, Option.toList_none, List.cons_append, List.nil_append, gB0, gB1, gB2, gB3, gB4, rvB, nI_iI, i0, i1, l0_, wr_s, aup_s, and_true, true_and, and_self, eq_self, if_true, if_false, Nat.zero_le, Nat.reduceAdd, Nat.reduceLeDiff, gN_I, gN_L, gN_P, bI_0, bI_ok, z0, z1, Bool.true_eq, Bool.false_eq_true, not_true_eq_false, not_false_eq_true]
  simp (disch := omega) only [r193_6, r193_9, r193_12, r193_13, r193_16, r193_19, r193_20, r193_21, r193_24, md_0, mg5, mg7, hu, iI_eq, c1, q, kl_n, kl_i, kl_r, kl_z, kl_l, kl_d, catS_0, catS_c, cat_i, cat_l, cat_d, cat_r, cat_n, kC_r, kC_x, Option.bind_some, Option.toList_some, Option.toList_none, List.cons_append, List.nil_append, gB0, gB1, gB2, gB3, gB4, rvB, nI_iI, i0, i1, l0_, wr_s, aup_s, and_true, true_and, and_self, eq_self, if_true, if_false, Nat.zero_le, Nat.reduceAdd, Nat.reduceLeDiff, gN_I, gN_L, gN_P, bI_0, bI_ok, z0, z1, Bool.true_eq, Bool.false_eq_true, not_true_eq_false, not_false_eq_true]
  simp (disch := omega) only [r193_25, r193_26, r193_27, r193_30, r193_31, r193_34, r193_35, r193_38, md_0, mg6, gB1, gB4, hv, pu, kl_n, kl_i, kl_r, kl_z, kl_l, kl_d, catS_0, catS_c, cat_i, cat_l, cat_d, cat_r, cat_n, kC_r, kC_x, Option.bind_some, Option.toList_some, Option.toList_none, List.cons_append, List.nil_append, gB0, gB1, gB2, gB3, gB4, rvB, nI_iI, i0, i1, l0_, wr_s, aup_s, and_true, true_and, and_self, eq_self, if_true, if_false, Nat.zero_le, Nat.reduceAdd, Nat.reduceLeDiff, gN_I, gN_L, gN_P, bI_0, bI_ok, z0, z1, Bool.true_eq, Bool.false_eq_true, not_true_eq_false, not_false_eq_true]
  rw [show L (d + 3) 193 41 [some (.ref y)] [.int (iI (min v 19 + 1 : Nat)), .ref y] (mdW h y (puR ((iI 0, M.1.2), M.2) v M.2.1), n, w, g) = L (d + 3) 193 44 [some (.ref y)] [] (mdW h y ((iI 0, M.1.2.1, iI (min v 19 + 1 : Nat), M.1.2.2.2.1, M.1.2.2.2.2.1, M.1.2.2.2.2.2.1, M.1.2.2.2.2.2.2), (puR ((iI 0, M.1.2), M.2) v M.2.1).2), n, w, g) by
    simp (disch := omega) only [r193_41, md_0, ms6, f1, kl_n, kl_i, kl_r, kl_z, kl_l, kl_d, catS_0, catS_c, cat_i, cat_l, cat_d, cat_r, cat_n, kC_r, kC_x, Option.bind_some, Option.toList_some, Option.toList_none, List.cons_append, List.nil_append, gB0, gB1, gB2, gB3, gB4, rvB, nI_iI, i0, i1, l0_, wr_s, aup_s, and_true, true_and, and_self, eq_self, if_true, if_false, Nat.zero_le, Nat.reduceAdd, Nat.reduceLeDiff, gN_I, gN_L, gN_P, bI_0, bI_ok, z0, z1, Bool.true_eq, Bool.false_eq_true, not_true_eq_false, not_false_eq_true]
    rfl]
  rw [show L (d + 3) 193 44 [some (.ref y)] [] (mdW h y ((iI 0, M.1.2.1, iI (min v 19 + 1 : Nat), M.1.2.2.2.1, M.1.2.2.2.2.1, M.1.2.2.2.2.2.1, M.1.2.2.2.2.2.2), (puR ((iI 0, M.1.2), M.2) v M.2.1).2), n, w, g) = L (d + 3) 193 54 [some (.ref y)] [] (mdW h y ((iI 0, iI u, iI (min v 19 + 1 : Nat), M.1.2.2.2.1, M.1.2.2.2.2.1, M.1.2.2.2.2.2.1, M.1.2.2.2.2.2.2), (puR ((iI 0, M.1.2), M.2) v M.2.1).2), n, w, g) by
    simp (disch := omega) only [r193_44, r193_45i, r193_45, r193_46, r193_49, r193_50, r193_51, md_0, mg5, e1, ms5, f2, kl_n, kl_i, kl_r, kl_z, kl_l, kl_d, catS_0, catS_c, cat_i, cat_l, cat_d, cat_r, cat_n, kC_r, kC_x, Option.bind_some, Option.toList_some, Option.toList_none, List.cons_append, List.nil_append, gB0, gB1, gB2, gB3, gB4, rvB, nI_iI, i0, i1, l0_, wr_s, aup_s, and_true, true_and, and_self, eq_self, if_true, if_false, Nat.zero_le, Nat.reduceAdd, Nat.reduceLeDiff, gN_I, gN_L, gN_P, bI_0, bI_ok, z0, z1, Bool.true_eq, Bool.false_eq_true, not_true_eq_false, not_false_eq_true]]
  simp (disch := omega) only [r193_54, r193_55, r193_58, r193_59, r193_62, r193_63, r193_64, r193_65, r193_68, r193_69, r193_72, r193_75, r193_76, r193_79, md_0, mg5, gB3, gB1, g3, cc, kl_n, kl_i, kl_r, kl_z, kl_l, kl_d, catS_0, catS_c, cat_i, cat_l, cat_d, cat_r, cat_n, kC_r, kC_x, Option.bind_some, Option.toList_some, Option.toList_none, List.cons_append, List.nil_append, gB0, gB1, gB2, gB3, gB4, rvB, nI_iI, i0, i1, l0_, wr_s, aup_s, and_true, true_and, and_self, eq_self, if_true, if_false, Nat.zero_le, Nat.reduceAdd, Nat.reduceLeDiff, gN_I, gN_L, gN_P, bI_0, bI_ok, z0, z1, Bool.true_eq, Bool.false_eq_true, not_true_eq_false, not_false_eq_true]
  rfl
theorem r_redo {u v : Nat} (ho : M.1.2.2.2.1 = false) (hu : M.1.2.1 = iI u) (hv : M.1.2.2.1 = iI (v + 1 : Nat)) (hb : u ≤ 20 ∧ v + 1 ≤ 20) (hU : ∀ i, i < 21 → M.2.2.2.1.1 i < 21) (hR : ∀ i, i < 21 → M.2.2.2.2.1.1 i < 21) : aE (d + 4) 194 [.ref y] (mdW h y M, n, w, g) = some (.inl (some (.int (iI v))), (mdW h y (reM M u v), n, w, g)) := by
  have q : ¬ (M.1.2.2.2.1 = true) := by rw [ho]; exact fun z => by cases z
  have c1 : ¬ ((v + 1 : Nat) : Int) = 0 := by omega
  have e1 : M.1.2.2.1 - iI 1 = iI (v : Int) := by rw [hv, iI_sub, show ((v + 1 : Nat) : Int) - 1 = (v : Int) by omega]
  have pu := r_pushU (d := d + 1) (n := n) (w := w) (g := g) (M := ((iI 0, M.1.2), M.2)) (u := u) (ro := y + 1) hU (md_1 (h := h) (y := y) (M := ((iI 0, M.1.2), M.2))) (by omega) hb.1
  have f1 := md_un (h := h) (y := y) (M := puU ((iI 0, M.1.2), M.2) u M.2.1) (u := iI (min u 19 + 1 : Nat))
  have f2 := md_rd (h := h) (y := y) (M := ((iI 0, iI (min u 19 + 1 : Nat), M.1.2.2.1, M.1.2.2.2.1, M.1.2.2.2.2.1, M.1.2.2.2.2.2.1, M.1.2.2.2.2.2.2), (puU ((iI 0, M.1.2), M.2) u M.2.1).2)) (u := iI v)
  have g3 : gP (mdW h y ((iI 0, iI (min u 19 + 1 : Nat), iI v, M.1.2.2.2.1, M.1.2.2.2.2.1, M.1.2.2.2.2.2.1, M.1.2.2.2.2.2.2), (puU ((iI 0, M.1.2), M.2) u M.2.1).2) (y + 25)) (iI (v : Int)) = some (.ref (y + 26 + M.2.2.2.2.1.1 v)) := by
    rw [md_25, gP_P (by omega) (by omega) (by omega), Int.toNat_natCast, if_pos (by omega)]
    rfl
  have cc := s_acopy (h := mdW h y ((iI 0, iI (min u 19 + 1 : Nat), iI v, M.1.2.2.2.1, M.1.2.2.2.2.1, M.1.2.2.2.2.2.1, M.1.2.2.2.2.2.2), (puU ((iI 0, M.1.2), M.2) u M.2.1).2)) (n := n) (r := (w, g)) (s := y + 26 + M.2.2.2.2.1.1 v) (t := y + 1) (sp := 0) (dp := 0) (m := 385) (md_r (hR v (by omega))) md_1 (by omega) (by omega) (by omega) (by omega)
  rw [md_a, show ((0 : Nat) : Int) = 0 from rfl, show ((385 : Nat) : Int) = 385 from rfl] at cc
  rw [e194]
  simp (disch := omega) only [r194_0, r194_1, r194_2, r194_5, md_0, sB0i, md_th, kl_n, kl_i, kl_r, kl_z, kl_l, kl_d, catS_0, catS_c, cat_i, cat_l, cat_d, cat_r, cat_n, kC_r, kC_x, Option.bind_some, Option.toList_some, Option.toList_none, List.cons_append, List.nil_append, gB0, gB1, gB2, gB3, gB4, rvB, nI_iI, i0, i1, l0_, wr_s, aup_s, and_true, true_and, and_self, eq_self, if_true, if_false, Nat.zero_le, Nat.reduceAdd, Nat.reduceLeDiff, gN_I, gN_L, gN_P, bI_0, bI_ok, z0, z1, Bool.true_eq, Bool.false_eq_true, not_true_eq_false, not_false_eq_true]
  simp (disch := omega) only [r194_6, r194_9, r194_12, r194_13, r194_16, r194_19, r194_20, r194_21, r194_24, md_0, mg6, mg7, hv, iI_eq, c1, q, kl_n, kl_i, kl_r, kl_z, kl_l, kl_d, catS_0, catS_c, cat_i, cat_l, cat_d, cat_r, cat_n, kC_r, kC_x, Option.bind_some, Option.toList_some, Option.toList_none, List.cons_append, List.nil_append, gB0, gB1, gB2, gB3, gB4, rvB, nI_iI, i0, i1, l0_, wr_s, aup_s, and_true, true_and, and_self, eq_self, if_true, if_false, Nat.zero_le, Nat.reduceAdd, Nat.reduceLeDiff, gN_I, gN_L, gN_P, bI_0, bI_ok, z0, z1, Bool.true_eq, Bool.false_eq_true, not_true_eq_false, not_false_eq_true]
  simp (disch := omega) only [r194_25, r194_26, r194_27, r194_30, r194_31, r194_34, r194_35, r194_38, md_0, mg5, gB1, gB3, hu, pu, kl_n, kl_i, kl_r, kl_z, kl_l, kl_d, catS_0, catS_c, cat_i, cat_l, cat_d, cat_r, cat_n, kC_r, kC_x, Option.bind_some, Option.toList_some, Option.toList_none, List.cons_append, List.nil_append, gB0, gB1, gB2, gB3, gB4, rvB, nI_iI, i0, i1, l0_, wr_s, aup_s, and_true, true_and, and_self, eq_self, if_true, if_false, Nat.zero_le, Nat.reduceAdd, Nat.reduceLeDiff, gN_I, gN_L, gN_P, bI_0, bI_ok, z0, z1, Bool.true_eq, Bool.false_eq_true, not_true_eq_false, not_false_eq_true]
  rw [show L (d + 3) 194 41 [some (.ref y)] [.int (iI (min u 19 + 1 : Nat)), .ref y] (mdW h y (puU ((iI 0, M.1.2), M.2) u M.2.1), n, w, g) = L (d + 3) 194 44 [some (.ref y)] [] (mdW h y ((iI 0, iI (min u 19 + 1 : Nat), M.1.2.2.1, M.1.2.2.2.1, M.1.2.2.2.2.1, M.1.2.2.2.2.2.1, M.1.2.2.2.2.2.2), (puU ((iI 0, M.1.2), M.2) u M.2.1).2), n, w, g) by
    simp (disch := omega) only [r194_41, md_0, ms5, f1, kl_n, kl_i, kl_r, kl_z, kl_l, kl_d, catS_0, catS_c, cat_i, cat_l, cat_d, cat_r, cat_n, kC_r, kC_x, Option.bind_some, Option.toList_some, Option.toList_none, List.cons_append, List.nil_append, gB0, gB1, gB2, gB3, gB4, rvB, nI_iI, i0, i1, l0_, wr_s, aup_s, and_true, true_and, and_self, eq_self, if_true, if_false, Nat.zero_le, Nat.reduceAdd, Nat.reduceLeDiff, gN_I, gN_L, gN_P, bI_0, bI_ok, z0, z1, Bool.true_eq, Bool.false_eq_true, not_true_eq_false, not_false_eq_true]
    rfl]
  rw [show L (d + 3) 194 44 [some (.ref y)] [] (mdW h y ((iI 0, iI (min u 19 + 1 : Nat), M.1.2.2.1, M.1.2.2.2.1, M.1.2.2.2.2.1, M.1.2.2.2.2.2.1, M.1.2.2.2.2.2.2), (puU ((iI 0, M.1.2), M.2) u M.2.1).2), n, w, g) = L (d + 3) 194 54 [some (.ref y)] [] (mdW h y ((iI 0, iI (min u 19 + 1 : Nat), iI v, M.1.2.2.2.1, M.1.2.2.2.2.1, M.1.2.2.2.2.2.1, M.1.2.2.2.2.2.2), (puU ((iI 0, M.1.2), M.2) u M.2.1).2), n, w, g) by
    simp (disch := omega) only [r194_44, r194_45i, r194_45, r194_46, r194_49, r194_50, r194_51, md_0, mg6, e1, ms6, f2, kl_n, kl_i, kl_r, kl_z, kl_l, kl_d, catS_0, catS_c, cat_i, cat_l, cat_d, cat_r, cat_n, kC_r, kC_x, Option.bind_some, Option.toList_some, Option.toList_none, List.cons_append, List.nil_append, gB0, gB1, gB2, gB3, gB4, rvB, nI_iI, i0, i1, l0_, wr_s, aup_s, and_true, true_and, and_self, eq_self, if_true, if_false, Nat.zero_le, Nat.reduceAdd, Nat.reduceLeDiff, gN_I, gN_L, gN_P, bI_0, bI_ok, z0, z1, Bool.true_eq, Bool.false_eq_true, not_true_eq_false, not_false_eq_true]]
  simp (disch := omega) only [r194_54, r194_55, r194_58, r194_59, r194_62, r194_63, r194_64, r194_65, r194_68, r194_69, r194_72, r194_75, r194_76, r194_79, md_0, mg6, gB4, gB1, g3, cc, kl_n, kl_i, kl_r, kl_z, kl_l, kl_d, catS_0, catS_c, cat_i, cat_l, cat_d, cat_r, cat_n, kC_r, kC_x, Option.bind_some, Option.toList_some, Option.toList_none, List.cons_append, List.nil_append, gB0, gB1, gB2, gB3, gB4, rvB, nI_iI, i0, i1, l0_, wr_s, aup_s, and_true, true_and, and_self, eq_self, if_true, if_false, Nat.zero_le, Nat.reduceAdd, Nat.reduceLeDiff, gN_I, gN_L, gN_P, bI_0, bI_ok, z0, z1, Bool.true_eq, Bool.false_eq_true, not_true_eq_false, not_false_eq_true]
  rfl
end
