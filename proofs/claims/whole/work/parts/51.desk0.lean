/-! ===== made: a song, a history, a desk ===== -/
/-- a new song -/
def S0 : Sg := ((0, fun _ => 0), (fun _ => 0, fun _ => 0, fun _ => 0), (1, upN (fun _ => 0) 0 0, upN (fun _ => 0) 0 1200, upN (fun _ => 0) 0 0), (1, upN (fun _ => 0) 0 0, upN (fun _ => 0) 0 4, upN (fun _ => 0) 0 4), (0, 0, 0))
section
variable {d a b w : Nat} {g : Nat × Nat} {h : aHf}
theorem rg_cons {n : Nat} {c : Nat → aC} {v : aC} : aup (rgW h (a + 1) n c) a v = rgW h a (n + 1) (fun k => if k = 0 then v else c (k - 1)) := by
  funext q
  unfold aup rgW
  by_cases e : q = a
  · rw [if_pos e, if_pos (by omega)]
    dsimp only
    rw [if_pos (by omega)]
  · rw [if_neg e]
    by_cases e2 : a + 1 ≤ q ∧ q < a + 1 + n
    · rw [if_pos e2, if_pos (by omega)]
      dsimp only
      rw [if_neg (by omega), show q - (a + 1) = q - a - 1 by omega]
    · rw [if_neg e2, if_neg (by omega)]
theorem s_newSong : aE (d + 5) 166 [.ref b] (aup h b (aB 6 [.null, .null, .null, .null, .null]), b + 1, w, g) = some (.inl none, (rgW h b 18 (sgC b S0), b + 18, w + 162, g)) := by
  have nn : ∀ {a w : Nat} {h : aHf}, _ := fun {a w : Nat} {h : aHf} => s_newNotes (d := d + 3) (a := a) (w := w) (g := g) (h := h)
  have nt : ∀ {a w : Nat} {h : aHf}, _ := fun {a w : Nat} {h : aHf} => s_newTracks (d := d + 3) (a := a) (w := w) (g := g) (h := h)
  have ns : ∀ {a w : Nat} {h : aHf}, _ := fun {a w : Nat} {h : aHf} => s_newSpeeds (d := d) (a := a) (w := w) (g := g) (h := h)
  have nm : ∀ {a w : Nat} {h : aHf}, _ := fun {a w : Nat} {h : aHf} => s_newMeters (d := d) (a := a) (w := w) (g := g) (h := h)
  simp only [i0, rg_cons] at nn nt ns nm
  have hA : L (d + 4) 166 0 [some (.ref b)] [] (aup h b (aB 6 [.null, .null, .null, .null, .null]), b + 1, w, g) =
      L (d + 4) 166 48 [some (.ref b)] [] (rgW h b 17 (fun k => if k = 0 then aB 6 [.ref (b + 1), .ref (b + 3), .ref (b + 7), .ref (b + 12), .null] else sgC b S0 k), b + 17, w + 159, g) := by
    rw [up_rg]
    simp (disch := omega) only [r166_0, r166_1, r166_4, r166_5, r166_8i, r166_8, r166_9, r166_12, r166_15, r166_16, r166_19i, r166_19, r166_20, r166_23, r166_26, r166_27, r166_30i, r166_30, r166_31, r166_34, r166_37, r166_38, r166_41i, r166_41, r166_42, r166_45, ob_i, nn, nt, ns, nm, rg_snoc, rg_0, if_pos, if_neg, sB0r, sB1r, sB2r, sB3r, rg_set0, Nat.add_assoc, kl_n, kl_i, kl_r, kl_z, kl_l, kl_d, catS_0, catS_c, cat_i, cat_l, cat_d, cat_r, cat_n, kC_r, kC_x, Option.bind_some, Option.toList_some, Option.toList_none, List.cons_append, List.nil_append, gB0, gB1, gB2, gB3, gB4, rvB, nI_iI, i0, i1, l0_, wr_s, aup_s, and_true, true_and, and_self, eq_self, if_true, if_false, Nat.zero_le, Nat.reduceAdd, Nat.reduceLeDiff, gN_I, gN_L, gN_P, bI_0, bI_ok, z0, z1, Bool.true_eq, Bool.false_eq_true, not_true_eq_false, not_false_eq_true]
    refine congrArg (fun z => L (d + 4) 166 48 _ _ (z, b + 17, w + 159, g)) (rg_ext (fun k hk => ?_))
    obtain rfl | rfl | rfl | rfl | rfl | rfl | rfl | rfl | rfl | rfl | rfl | rfl | rfl | rfl | rfl | rfl | rfl : k = 0 ∨ k = 1 ∨ k = 2 ∨ k = 3 ∨ k = 4 ∨ k = 5 ∨ k = 6 ∨ k = 7 ∨ k = 8 ∨ k = 9 ∨ k = 10 ∨ k = 11 ∨ k = 12 ∨ k = 13 ∨ k = 14 ∨ k = 15 ∨ k = 16 := by omega
    all_goals rfl
  have e0 : aE (d + 4) 111 [.ref (b + 17)] = fun H => some (.inl none, H) := by
    funext H
    obtain ⟨h, r⟩ := H
    simp only [e111, r111_0, r111_1, r111_4, ob_i, kl_n, kl_i, kl_r, kl_z, kl_l, kl_d, catS_0, catS_c, cat_i, cat_l, cat_d, cat_r, cat_n, kC_r, kC_x, Option.bind_some, Option.toList_some, Option.toList_none, List.cons_append, List.nil_append, gB0, gB1, gB2, gB3, gB4, rvB, nI_iI, i0, i1, l0_, wr_s, aup_s, and_true, true_and, and_self, eq_self, if_true, if_false, Nat.zero_le, Nat.reduceAdd, Nat.reduceLeDiff, gN_I, gN_L, gN_P, bI_0, bI_ok, z0, z1, Bool.true_eq, Bool.false_eq_true, not_true_eq_false, not_false_eq_true]
  rw [e166, hA]
  simp (disch := omega) only [r166_48, r166_49, r166_52i, r166_52, r166_53, r166_56, r166_59, rg_new, e0, rg_0, if_pos, if_neg, sB4r, rg_set0, Nat.add_assoc, kl_n, kl_i, kl_r, kl_z, kl_l, kl_d, catS_0, catS_c, cat_i, cat_l, cat_d, cat_r, cat_n, kC_r, kC_x, Option.bind_some, Option.toList_some, Option.toList_none, List.cons_append, List.nil_append, gB0, gB1, gB2, gB3, gB4, rvB, nI_iI, i0, i1, l0_, wr_s, aup_s, and_true, true_and, and_self, eq_self, if_true, if_false, Nat.zero_le, Nat.reduceAdd, Nat.reduceLeDiff, gN_I, gN_L, gN_P, bI_0, bI_ok, z0, z1, Bool.true_eq, Bool.false_eq_true, not_true_eq_false, not_false_eq_true]
  refine congrArg some (congrArg (Prod.mk _) (congrArg (fun z => (z, b + 18, w + 162, g)) (rg_ext (fun k hk => ?_))))
  obtain rfl | rfl | rfl | rfl | rfl | rfl | rfl | rfl | rfl | rfl | rfl | rfl | rfl | rfl | rfl | rfl | rfl | rfl : k = 0 ∨ k = 1 ∨ k = 2 ∨ k = 3 ∨ k = 4 ∨ k = 5 ∨ k = 6 ∨ k = 7 ∨ k = 8 ∨ k = 9 ∨ k = 10 ∨ k = 11 ∨ k = 12 ∨ k = 13 ∨ k = 14 ∨ k = 15 ∨ k = 16 ∨ k = 17 := by omega
  all_goals rfl
end
