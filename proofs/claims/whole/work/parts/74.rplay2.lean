/-! ===== the reference plays a note, once ===== -/
def plR (R : Nat → Int32) (a b c p f : Int) : Nat → Int32 := upd (upd (upd (upd (upd R 0 (iI a)) 1 (iI b)) 2 (iI c)) 3 (iI p)) 4 (iI f)
section
variable {d : Nat} {h : aHf} {r : Nat × Nat × Nat × Nat} {y : Nat} {M : Md} {m : Nat} {F : Nat → Nat} {X : Nat → Int32} {T : Nat → Nat} {S D : Nat → Int}
def plD (M : Md) (np : Nat) (R : Nat → Int32) : Md := ((M.1.1, M.1.2.1, M.1.2.2.1, M.1.2.2.2.1, M.1.2.2.2.2.1, iI (np + 1 : Nat), M.1.2.2.2.2.2.2), (plS M np R).2)
theorem r_play_0 {i : Nat} {l q : Int} (hA : M.2.1 = nB m F X) (hm : m ≤ 60) (hi : i < m) (hF : ∀ i, cOk (F i)) (hT : cT (F i) < 6) (hR : trA M.2.1 T S D) (hS : -24 ≤ S (cT (F i)) ∧ S (cT (F i)) ≤ 24) (hc : ¬ (0 ≤ (cP (F i) : Int) + S (cT (F i)) ∧ (cP (F i) : Int) + S (cT (F i)) ≤ 127)) :
    aE (d + 2) 238 [.ref y, .int (iI i), .int (iI l), .int (iI q)] (mdW h y M, r) = some (.inl none, (mdW h y M, r)) := by
  have a1 := cP_lt (F i)
  simp (disch := omega) only [e238, r238_0, r238_1, r238_2, r238_3, r238_6, r238_8, r238_9, r238_10, r238_11, r238_14, r238_15, r238_17, r238_18, r238_21, r238_22, r238_24, r238_26, r238_27, r238_29, r238_32, r238_35, md_0, r_0 hA hm hi, r_3 hA hm hi, r_tr2 hR hT, iI_add, s_mis, hc, kl_n, kl_i, kl_r, kl_z, kl_l, kl_d, catS_0, catS_c, cat_i, cat_l, cat_d, cat_r, cat_n, kC_r, kC_x, Option.bind_some, Option.toList_some, Option.toList_none, List.cons_append, List.nil_append, gB0, gB1, gB2, gB3, gB4, rvB, nI_iI, i0, i1, l0_, wr_s, aup_s, and_true, true_and, and_self, eq_self, if_true, if_false, Nat.zero_le, Nat.reduceAdd, Nat.reduceLeDiff, gN_I, gN_L, gN_P, bI_0, bI_ok, z0, z1, Bool.true_eq, Bool.false_eq_true, not_true_eq_false, not_false_eq_true]
theorem r_play {i np : Nat} {l q : Int} (hA : M.2.1 = nB m F X) (hm : m ≤ 60) (hi : i < m) (hF : ∀ i, cOk (F i)) (hT : cT (F i) < 6) (hR : trA M.2.1 T S D) (hS : -24 ≤ S (cT (F i)) ∧ S (cT (F i)) ≤ 24) (hD : -48 ≤ D (cT (F i)) ∧ D (cT (F i)) ≤ 48)
    (hp : M.1.2.2.2.2.2.1 = iI np) (hn : np < 480) (hl : 0 ≤ l ∧ l ≤ 100000) (hq : 0 ≤ q ∧ q ≤ 10000) (hc : 0 ≤ (cP (F i) : Int) + S (cT (F i)) ∧ (cP (F i) : Int) + S (cT (F i)) ≤ 127) :
    aE (d + 2) 238 [.ref y, .int (iI i), .int (iI l), .int (iI q)] (mdW h y M, r) = some (.inl none, (mdW h y (plD M np (plR (M.2.2.2.2.2.2.2.1 np) (max 0 ((cS (F i) : Int) + l + D (cT (F i)))) (min q (cL (F i))) (cT (F i)) ((cP (F i) : Int) + S (cT (F i))) (cF (F i)))), r)) := by
  have a1 := cP_lt (F i)
  have a2 := cS_lt (F i)
  have a3 := cL_lt (F i)
  have gp : gP (some (aP (.array .int) 480 (fun i => if i < 480 then some (y + 50 + i) else none))) (iI (np : Int)) = some (.ref (y + 50 + np)) := by
    rw [gP_P (by omega) (by omega) (by omega), Int.toNat_natCast, if_pos hn]
    rfl
  have hs : ∀ (f : Nat → Int32) (j : Nat) (v : Int32), j < 5 → sI (some (aI .int 5 f)) (iI (j : Int)) v = some (aI .int 5 (upd f j v)) := fun f j v hj => by
    rw [sI_I (by omega) (by omega) (by omega), Int.toNat_natCast]
  have hs0 := fun f v => hs f 0 v (by omega)
  have hs1 := fun f v => hs f 1 v (by omega)
  have hs2 := fun f v => hs f 2 v (by omega)
  have hs3 := fun f v => hs f 3 v (by omega)
  have hs4 := fun f v => hs f 4 v (by omega)
  rw [show ((0 : Nat) : Int) = 0 from rfl] at hs0
  rw [show ((1 : Nat) : Int) = 1 from rfl] at hs1
  rw [show ((2 : Nat) : Int) = 2 from rfl] at hs2
  rw [show ((3 : Nat) : Int) = 3 from rfl] at hs3
  rw [show ((4 : Nat) : Int) = 4 from rfl] at hs4
  have k2 : ∀ R, aE (d + 1) 197 [.ref y, .int (iI i), .int (iI 2)] (mdW h y (plS M np R), r) = _ := fun R => r_2 (M := plS M np R) (F := F) (X := X) hA hm hi
  have k4 : ∀ R, aE (d + 1) 197 [.ref y, .int (iI i), .int (iI 4)] (mdW h y (plS M np R), r) = _ := fun R => r_4 (M := plS M np R) (F := F) (X := X) hA hm hi
  have hp' : ∀ R, (plS M np R).1.2.2.2.2.2.1 = iI np := fun R => hp
  have e1 : (np : Int) + 1 = ((np + 1 : Nat) : Int) := by omega
  have mp := md_p (h := h) (y := y) (M := M) hn
  have mx := s_max (d := d) (h := mdW h y M) (r := r) (a := 0) (b := (cS (F i) : Int) + l + D (cT (F i))) (by omega) (by omega) (by omega) (by omega)
  have mn : ∀ R, aE (d + 1) 264 [.int (iI q), .int (iI (cL (F i)))] (mdW h y (plS M np R), r) = _ := fun R => s_min (d := d) (h := mdW h y (plS M np R)) (r := r) (a := q) (b := (cL (F i) : Int)) (by omega) (by omega) (by omega) (by omega)
  simp (disch := omega) only [e238, r238_0, r238_1, r238_2, r238_3, r238_6, r238_8, r238_9, r238_10, r238_11, r238_14, r238_15, r238_17, r238_18, r238_21, r238_22, r238_24, r238_26, r238_27, r238_29, r238_32, r238_35, r238_36, r238_37, r238_40, r238_41, r238_44, md_0, r_0 hA hm hi, r_3 hA hm hi, r_tr2 hR hT, iI_add, s_mis, hc, mg11, mg12, hp, md_49, gp, kl_n, kl_i, kl_r, kl_z, kl_l, kl_d, catS_0, catS_c, cat_i, cat_l, cat_d, cat_r, cat_n, kC_r, kC_x, Option.bind_some, Option.toList_some, Option.toList_none, List.cons_append, List.nil_append, gB0, gB1, gB2, gB3, gB4, rvB, nI_iI, i0, i1, l0_, wr_s, aup_s, and_true, true_and, and_self, eq_self, if_true, if_false, Nat.zero_le, Nat.reduceAdd, Nat.reduceLeDiff, gN_I, gN_L, gN_P, bI_0, bI_ok, z0, z1, Bool.true_eq, Bool.false_eq_true, not_true_eq_false, not_false_eq_true]
  simp (disch := omega) only [r238_45, r238_47, r238_49, r238_50, r238_51, r238_52, r238_53, r238_54, r238_57, r238_58, r238_59, r238_60, r238_62, r238_63, r238_66, r238_67, r238_70, r238_71, r238_73, r238_74, r238_75, r238_76, r238_77, r238_78, r238_81, r238_84, r238_85, r238_87, r238_88, r238_90, r238_91, r238_93, r238_94, r238_96, r238_97, r238_99, r238_100, r238_101, r238_102, r238_103, r238_106, md_0, mp, r_1 hA hm hi, r_tr3 hR hT, iI_add, mx, hs0, md_pl hn, md_pr hn, plS_2, k2, mn, hs1, hs2, hs3, k4, hs4, kl_n, kl_i, kl_r, kl_z, kl_l, kl_d, catS_0, catS_c, cat_i, cat_l, cat_d, cat_r, cat_n, kC_r, kC_x, Option.bind_some, Option.toList_some, Option.toList_none, List.cons_append, List.nil_append, gB0, gB1, gB2, gB3, gB4, rvB, nI_iI, i0, i1, l0_, wr_s, aup_s, and_true, true_and, and_self, eq_self, if_true, if_false, Nat.zero_le, Nat.reduceAdd, Nat.reduceLeDiff, gN_I, gN_L, gN_P, bI_0, bI_ok, z0, z1, Bool.true_eq, Bool.false_eq_true, not_true_eq_false, not_false_eq_true]
  simp (disch := omega) only [r238_107, r238_108i, r238_108, r238_109, r238_112, r238_113, r238_114, r238_117, md_0, mg12, hp', iI_add, e1, ms12, md_ob, kl_n, kl_i, kl_r, kl_z, kl_l, kl_d, catS_0, catS_c, cat_i, cat_l, cat_d, cat_r, cat_n, kC_r, kC_x, Option.bind_some, Option.toList_some, Option.toList_none, List.cons_append, List.nil_append, gB0, gB1, gB2, gB3, gB4, rvB, nI_iI, i0, i1, l0_, wr_s, aup_s, and_true, true_and, and_self, eq_self, if_true, if_false, Nat.zero_le, Nat.reduceAdd, Nat.reduceLeDiff, gN_I, gN_L, gN_P, bI_0, bI_ok, z0, z1, Bool.true_eq, Bool.false_eq_true, not_true_eq_false, not_false_eq_true]
  rfl
end
