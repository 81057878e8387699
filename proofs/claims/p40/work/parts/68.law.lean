/-! ===== the law ===== -/
section
variable {d n w : Nat} {g : Nat × Nat} {h : aHf} {x : Nat} {W : Dk}
theorem ac_c {X Y : aR} (e : X = Y) (h9 : acP x g h n w Y) : acP x g h n w X := e ▸ h9
theorem s_act {t : Int32} (hI : Inv W) : acP x g h n w (aE (d + 13) 1 [.ref x, .int t] (dkW h x W, n, w, g)) := by
  have m60 := hI.1.1.1
  obtain ⟨a, ha⟩ : ∃ z, z = bw (t >>> (iI 5 &&& 31)) 7 := ⟨_, rfl⟩
  have ba : ((a : Nat) : Int) < 7 := by rw [ha]; exact bw_lt (by omega)
  obtain ⟨k, hk⟩ : ∃ z, z = bw (t >>> (iI 4 &&& 31)) (max 1 (W.1.1.1 : Int)) := ⟨_, rfl⟩
  have bk : ((k : Nat) : Int) < max 1 (W.1.1.1 : Int) := by rw [hk]; exact bw_lt (by omega)
  obtain ⟨c, hc⟩ : ∃ z, z = bw t 16 := ⟨_, rfl⟩
  have bc : ((c : Nat) : Int) < 16 := by rw [hc]; exact bw_lt (by omega)
  have mx := s_max (d := d + 11) (h := dkW h x W) (r := (n, w, g)) (a := 1) (b := (W.1.1.1 : Int)) (by omega) (by omega) (by omega) (by omega)
  have start : aE (d + 13) 1 [.ref x, .int t] (dkW h x W, n, w, g) = L (d + 12) 1 41 (acL x W t ((a : Int) - 1) k) [.int (iI c)] (dkW h x W, n, w, g) := by
    simp (disch := omega) only [e1, r1_0, r1_1, r1_4, r1_5, r1_6, r1_9, r1_10, r1_11, r1_12, r1_13, r1_15, r1_18, r1_19, r1_20, r1_22, r1_23, r1_24, r1_25, r1_26, r1_27, r1_30, r1_33, r1_35, r1_36, r1_38, s_below, mx, ← ha, ← hk, ← hc, iI_sub, dk_0, s_notes, s_undos, kl_n, kl_i, kl_r, kl_z, kl_l, kl_d, catS_0, catS_c, cat_i, cat_l, cat_d, cat_r, cat_n, kC_r, kC_x, Option.bind_some, Option.toList_some, Option.toList_none, List.cons_append, List.nil_append, gB0, gB1, gB2, gB3, gB4, rvB, nI_iI, i0, i1, l0_, wr_s, aup_s, and_true, true_and, and_self, eq_self, if_true, if_false, Nat.zero_le, Nat.reduceAdd, Nat.reduceLeDiff, gN_I, gN_L, gN_P, bI_0, bI_ok, z0, z1, Bool.true_eq, Bool.false_eq_true, not_true_eq_false, not_false_eq_true]
  refine ac_c start ?_
  have ht : -1 ≤ (a : Int) - 1 ∧ (a : Int) - 1 ≤ 5 := by omega
  have hk2 : k < 2147483648 := by omega
  by_cases c0 : c = 0
  · subst c0; exact ac_c r1_41c0 (ca_write hI ht hk2)
  by_cases c1 : c = 1
  · subst c1; exact ac_c r1_41c1 (ca_write hI ht hk2)
  by_cases c2 : c = 2
  · subst c2; exact ac_c r1_41c2 (ca_write hI ht hk2)
  by_cases c3 : c = 3
  · subst c3; exact ac_c r1_41c3 (ca_remove hI ht hk2)
  by_cases c4 : c = 4
  · subst c4; exact ac_c r1_41c4 (ca_split hI ht hk2)
  by_cases c5 : c = 5
  · subst c5; exact ac_c r1_41c5 (ca_transpose hI ht hk2)
  by_cases c6 : c = 6
  · subst c6; exact ac_c r1_41c6 (ca_weigh hI ht hk2)
  by_cases c7 : c = 7
  · subst c7; exact ac_c r1_41c7 (ca_quantise hI ht hk2)
  by_cases c8 : c = 8
  · subst c8; exact ac_c r1_41c8 (ca_quantise hI ht hk2)
  by_cases c9 : c = 9
  · subst c9; exact ac_c r1_41c9 (ca_copy hI ht hk2)
  by_cases c10 : c = 10
  · subst c10; exact ac_c r1_41c10 (ca_paste hI ht hk2)
  by_cases c11 : c = 11
  · subst c11; exact ac_c r1_41c11 (ca_setTrack hI ht hk2)
  by_cases c12 : c = 12
  · subst c12; exact ac_c r1_41c12 (ca_setSpeed hI ht hk2)
  by_cases c13 : c = 13
  · subst c13; exact ac_c r1_41c13 (ca_setMeter hI ht hk2)
  by_cases c14 : c = 14
  · subst c14; exact ac_c r1_41c14 (ca_setLoop hI ht hk2)
  exact ac_c (r1_41d (Or.inr (by rw [iI_t (by omega) (by omega)]; omega))) (ca_group hI ht hk2)
end
