/-! ===== the law's act ===== -/
/-- it comes to true, and all holds of the desk -/
def acP (x : Nat) (g : Nat × Nat) (h : aHf) (n w : Nat) (X : aR) : Prop := ∃ (W' : Dk) (n' w' : Nat), X = some (.inl (some (.int (iI 1))), (dkW h x W', n', w', g)) ∧ Inv W' ∧ n ≤ n' ∧ n' ≤ n + 1 ∧ w' ≤ w + 6
section
variable {d n w : Nat} {g : Nat × Nat} {h : aHf} {H : aH} {x : Nat} {W : Dk} {t : Int32} {l0 l1 l2 l3 l4 l5 l6 l7 l8 : Option Value} {st : List Value}
theorem bk1_166_eIS : aK d 1 (aBack 1 166 [l0, l1, l2, l3, l4, l5, l6, l7, l8] st (some (.inr eIS, H))) = L d 1 761 [l0, l1, l2, l3, l4, klL l5, none, l7, l8] [] H := by
  have e1 : hnd (mOc 1) 166 eIS (mHH 1) = some (some 759) := by decide +kernel
  have e2 : mDec 1 759 = some (.astore 6, 2) := by decide +kernel
  unfold aBack
  dsimp only
  rw [e1]
  dsimp only
  rw [e2]
  rfl
theorem bk1_196_eIO : aK d 1 (aBack 1 196 [l0, l1, l2, l3, l4, l5, l6, l7, l8] st (some (.inr eIO, H))) = L d 1 713 [l0, l1, l2, l3, l4, klL l5, none, l7, l8] [] H := by
  have e1 : hnd (mOc 1) 196 eIO (mHH 1) = some (some 711) := by decide +kernel
  have e2 : mDec 1 711 = some (.astore 6, 2) := by decide +kernel
  unfold aBack
  dsimp only
  rw [e1]
  dsimp only
  rw [e2]
  rfl
theorem bk1_224_eIO : aK d 1 (aBack 1 224 [l0, l1, l2, l3, l4, l5, l6, l7, l8] st (some (.inr eIO, H))) = L d 1 713 [l0, l1, l2, l3, l4, klL l5, none, l7, l8] [] H := by
  have e1 : hnd (mOc 1) 224 eIO (mHH 1) = some (some 711) := by decide +kernel
  have e2 : mDec 1 711 = some (.astore 6, 2) := by decide +kernel
  unfold aBack
  dsimp only
  rw [e1]
  dsimp only
  rw [e2]
  rfl
theorem bk1_224_eIA : aK d 1 (aBack 1 224 [l0, l1, l2, l3, l4, l5, l6, l7, l8] st (some (.inr eIA, H))) = L d 1 737 [l0, l1, l2, l3, l4, klL l5, none, l7, l8] [] H := by
  have e1 : hnd (mOc 1) 224 eIA (mHH 1) = some (some 735) := by decide +kernel
  have e2 : mDec 1 735 = some (.astore 6, 2) := by decide +kernel
  unfold aBack
  dsimp only
  rw [e1]
  dsimp only
  rw [e2]
  rfl
theorem bk1_224_eIS : aK d 1 (aBack 1 224 [l0, l1, l2, l3, l4, l5, l6, l7, l8] st (some (.inr eIS, H))) = L d 1 761 [l0, l1, l2, l3, l4, klL l5, none, l7, l8] [] H := by
  have e1 : hnd (mOc 1) 224 eIS (mHH 1) = some (some 759) := by decide +kernel
  have e2 : mDec 1 759 = some (.astore 6, 2) := by decide +kernel
  unfold aBack
  dsimp only
  rw [e1]
  dsimp only
  rw [e2]
  rfl
theorem bk1_257_eIS : aK d 1 (aBack 1 257 [l0, l1, l2, l3, l4, l5, l6, l7, l8] st (some (.inr eIS, H))) = L d 1 761 [l0, l1, l2, l3, l4, klL l5, none, l7, l8] [] H := by
  have e1 : hnd (mOc 1) 257 eIS (mHH 1) = some (some 759) := by decide +kernel
  have e2 : mDec 1 759 = some (.astore 6, 2) := by decide +kernel
  unfold aBack
  dsimp only
  rw [e1]
  dsimp only
  rw [e2]
  rfl
theorem bk1_407_eIS : aK d 1 (aBack 1 407 [l0, l1, l2, l3, l4, l5, l6, l7, l8] st (some (.inr eIS, H))) = L d 1 761 [l0, l1, l2, l3, l4, klL l5, none, l7, l8] [] H := by
  have e1 : hnd (mOc 1) 407 eIS (mHH 1) = some (some 759) := by decide +kernel
  have e2 : mDec 1 759 = some (.astore 6, 2) := by decide +kernel
  unfold aBack
  dsimp only
  rw [e1]
  dsimp only
  rw [e2]
  rfl
theorem bk1_530_eIS : aK d 1 (aBack 1 530 [l0, l1, l2, l3, l4, l5, l6, l7, l8] st (some (.inr eIS, H))) = L d 1 761 [l0, l1, l2, l3, l4, klL l5, none, l7, l8] [] H := by
  have e1 : hnd (mOc 1) 530 eIS (mHH 1) = some (some 759) := by decide +kernel
  have e2 : mDec 1 759 = some (.astore 6, 2) := by decide +kernel
  unfold aBack
  dsimp only
  rw [e1]
  dsimp only
  rw [e2]
  rfl
theorem bk1_575_eIS : aK d 1 (aBack 1 575 [l0, l1, l2, l3, l4, l5, l6, l7, l8] st (some (.inr eIS, H))) = L d 1 761 [l0, l1, l2, l3, l4, klL l5, none, l7, l8] [] H := by
  have e1 : hnd (mOc 1) 575 eIS (mHH 1) = some (some 759) := by decide +kernel
  have e2 : mDec 1 759 = some (.astore 6, 2) := by decide +kernel
  unfold aBack
  dsimp only
  rw [e1]
  dsimp only
  rw [e2]
  rfl
theorem bk1_644_eIS : aK d 1 (aBack 1 644 [l0, l1, l2, l3, l4, l5, l6, l7, l8] st (some (.inr eIS, H))) = L d 1 761 [l0, l1, l2, l3, l4, klL l5, none, l7, l8] [] H := by
  have e1 : hnd (mOc 1) 644 eIS (mHH 1) = some (some 759) := by decide +kernel
  have e2 : mDec 1 759 = some (.astore 6, 2) := by decide +kernel
  unfold aBack
  dsimp only
  rw [e1]
  dsimp only
  rw [e2]
  rfl
theorem bk1_669_eIS : aK d 1 (aBack 1 669 [l0, l1, l2, l3, l4, l5, l6, l7, l8] st (some (.inr eIS, H))) = L d 1 761 [l0, l1, l2, l3, l4, klL l5, none, l7, l8] [] H := by
  have e1 : hnd (mOc 1) 669 eIS (mHH 1) = some (some 759) := by decide +kernel
  have e2 : mDec 1 759 = some (.astore 6, 2) := by decide +kernel
  unfold aBack
  dsimp only
  rw [e1]
  dsimp only
  rw [e2]
  rfl
theorem bk1_688_eIS : aK d 1 (aBack 1 688 [l0, l1, l2, l3, l4, l5, l6, l7, l8] st (some (.inr eIS, H))) = L d 1 761 [l0, l1, l2, l3, l4, klL l5, none, l7, l8] [] H := by
  have e1 : hnd (mOc 1) 688 eIS (mHH 1) = some (some 759) := by decide +kernel
  have e2 : mDec 1 759 = some (.astore 6, 2) := by decide +kernel
  unfold aBack
  dsimp only
  rw [e1]
  dsimp only
  rw [e2]
  rfl
theorem bk1_704_eIS : aK d 1 (aBack 1 704 [l0, l1, l2, l3, l4, l5, l6, l7, l8] st (some (.inr eIS, H))) = L d 1 761 [l0, l1, l2, l3, l4, klL l5, none, l7, l8] [] H := by
  have e1 : hnd (mOc 1) 704 eIS (mHH 1) = some (some 759) := by decide +kernel
  have e2 : mDec 1 759 = some (.astore 6, 2) := by decide +kernel
  unfold aBack
  dsimp only
  rw [e1]
  dsimp only
  rw [e2]
  rfl
theorem hd_eIO {n' w' : Nat} : L (d + 12) 1 713 [some (.ref x), l1, some (.int (iI W.1.1.1)), some (.int (iI W.2.1.2.1)), l4, l5, l6, l7, l8] [] (dkW h x W, n', w', g) = some (.inl (some (.int (iI 1))), (dkW h x W, n', w', g)) := by
  simp (disch := omega) only [r1_713, r1_714, r1_717, r1_718, r1_721, r1_722, r1_725, r1_726, r1_729, r1_730, r1_733, r1_734, dk_0, s_notes, s_undos, kl_n, kl_i, kl_r, kl_z, kl_l, kl_d, catS_0, catS_c, cat_i, cat_l, cat_d, cat_r, cat_n, kC_r, kC_x, Option.bind_some, Option.toList_some, Option.toList_none, List.cons_append, List.nil_append, gB0, gB1, gB2, gB3, gB4, rvB, nI_iI, i0, i1, l0_, wr_s, aup_s, and_true, true_and, and_self, eq_self, if_true, if_false, Nat.zero_le, Nat.reduceAdd, Nat.reduceLeDiff, gN_I, gN_L, gN_P, bI_0, bI_ok, z0, z1, Bool.true_eq, Bool.false_eq_true, not_true_eq_false, not_false_eq_true]
theorem hd_eIA {n' w' : Nat} : L (d + 12) 1 737 [some (.ref x), l1, some (.int (iI W.1.1.1)), some (.int (iI W.2.1.2.1)), l4, l5, l6, l7, l8] [] (dkW h x W, n', w', g) = some (.inl (some (.int (iI 1))), (dkW h x W, n', w', g)) := by
  simp (disch := omega) only [r1_737, r1_738, r1_741, r1_742, r1_745, r1_746, r1_749, r1_750, r1_753, r1_754, r1_757, r1_758, dk_0, s_notes, s_undos, kl_n, kl_i, kl_r, kl_z, kl_l, kl_d, catS_0, catS_c, cat_i, cat_l, cat_d, cat_r, cat_n, kC_r, kC_x, Option.bind_some, Option.toList_some, Option.toList_none, List.cons_append, List.nil_append, gB0, gB1, gB2, gB3, gB4, rvB, nI_iI, i0, i1, l0_, wr_s, aup_s, and_true, true_and, and_self, eq_self, if_true, if_false, Nat.zero_le, Nat.reduceAdd, Nat.reduceLeDiff, gN_I, gN_L, gN_P, bI_0, bI_ok, z0, z1, Bool.true_eq, Bool.false_eq_true, not_true_eq_false, not_false_eq_true]
theorem hd_eIS {n' w' : Nat} : L (d + 12) 1 761 [some (.ref x), l1, some (.int (iI W.1.1.1)), some (.int (iI W.2.1.2.1)), l4, l5, l6, l7, l8] [] (dkW h x W, n', w', g) = some (.inl (some (.int (iI 1))), (dkW h x W, n', w', g)) := by
  simp (disch := omega) only [r1_761, r1_762, r1_765, r1_766, r1_769, r1_770, r1_773, r1_774, r1_777, r1_778, r1_781, r1_782, dk_0, s_notes, s_undos, kl_n, kl_i, kl_r, kl_z, kl_l, kl_d, catS_0, catS_c, cat_i, cat_l, cat_d, cat_r, cat_n, kC_r, kC_x, Option.bind_some, Option.toList_some, Option.toList_none, List.cons_append, List.nil_append, gB0, gB1, gB2, gB3, gB4, rvB, nI_iI, i0, i1, l0_, wr_s, aup_s, and_true, true_and, and_self, eq_self, if_true, if_false, Nat.zero_le, Nat.reduceAdd, Nat.reduceLeDiff, gN_I, gN_L, gN_P, bI_0, bI_ok, z0, z1, Bool.true_eq, Bool.false_eq_true, not_true_eq_false, not_false_eq_true]
theorem ac_x {E : String} {X : aR} (hI : Inv W) (hX : X = some (.inl (some (.int (iI 1))), (dkW h x W, n + 1, w + 6, g))) : acP x g h n w X := ⟨W, n + 1, w + 6, hX, hI, by omega, by omega, by omega⟩
theorem ac_i {W' : Dk} {X : aR} (hI : Inv W') (hX : X = some (.inl (some (.int (iI 1))), (dkW h x W', n, w, g))) : acP x g h n w X := ⟨W', n, w, hX, hI, by omega, by omega, by omega⟩
abbrev acL (x : Nat) (W : Dk) (t : Int32) (tr : Int) (k : Nat) : aLs := [some (.ref x), some (.int t), some (.int (iI W.1.1.1)), some (.int (iI W.2.1.2.1)), some (.int (iI tr)), some (.int (iI k)), none, none, none]
theorem shl2 : ∀ b : Nat, b < 4 → ∃ z : Nat, (z = 2 ∨ z = 4 ∨ z = 8 ∨ z = 16) ∧ iI 2 <<< (iI b &&& 31) = iI z
  | 0, _ => ⟨2, by omega, by decide⟩
  | 1, _ => ⟨4, by omega, by decide⟩
  | 2, _ => ⟨8, by omega, by decide⟩
  | 3, _ => ⟨16, by omega, by decide⟩
  | b + 4, h => by omega

theorem ca_write {tr : Int} {k : Nat} (hI : Inv W) (ht : -1 ≤ tr ∧ tr ≤ 5) (hk : k < 2147483648) : acP x g h n w (L (d + 12) 1 116 (acL x W t tr k) [] (dkW h x W, n, w, g)) := by
  have hO := Inv_ok hI
  have m60 := hI.1.1.1
  have u20 := hI.2.1.1.2.1
  obtain ⟨a, ha⟩ : ∃ z, z = bw (t >>> (iI 4 &&& 31)) 6 := ⟨_, rfl⟩
  have ba : ((a : Nat) : Int) < 6 := by rw [ha]; exact bw_lt (by omega)
  obtain ⟨b, hb⟩ : ∃ z, z = bw (t >>> (iI 2 &&& 31)) 500 := ⟨_, rfl⟩
  have bb : ((b : Nat) : Int) < 500 := by rw [hb]; exact bw_lt (by omega)
  obtain ⟨c, hc⟩ : ∃ z, z = bw (t >>> (iI 5 &&& 31)) 200 := ⟨_, rfl⟩
  have bc : ((c : Nat) : Int) < 200 := by rw [hc]; exact bw_lt (by omega)
  obtain ⟨e, he⟩ : ∃ z, z = bw (t >>> (iI 7 &&& 31)) 128 := ⟨_, rfl⟩
  have be : ((e : Nat) : Int) < 128 := by rw [he]; exact bw_lt (by omega)
  obtain ⟨f, hf⟩ : ∃ z, z = bw (t >>> (iI 8 &&& 31)) 127 := ⟨_, rfl⟩
  have bf : ((f : Nat) : Int) < 127 := by rw [hf]; exact bw_lt (by omega)
  have eA : ((1 + c : Nat) : Int) = 1 + (c : Int) := rfl
  have eB : ((1 + f : Nat) : Int) = 1 + (f : Int) := rfl
  rcases v_write (d := d) (x := x) (g := g) (t := a) (k := b) (l := 1 + c) (p := e) (f := 1 + f) hI (by omega) (by omega) (by omega) (by omega) (by omega) with ⟨pl, W', k1, k2, k3, z⟩ | z
  · have z := z h n w
    have n0 := s_notes (d := d) (n := n) (w := w) (g := g) (h := h) (x := x) (W := W')
    rw [k2] at n0
    rw [eA, eB] at z
    have e1 : ((W.1.1.1 + 1 : Nat) : Int) = (W.1.1.1 : Int) + 1 := rfl
    rw [e1] at n0
    have q1 : ¬ (W.1.1.1 : Int) < pl := by omega
    refine ac_i k3 ?_
    simp (disch := omega) only [r1_116, r1_117, r1_118, r1_119, r1_120, r1_122, r1_125, r1_126, r1_127, r1_128, r1_131, r1_134, r1_135, r1_136, r1_137, r1_138, r1_141, r1_144, r1_145, r1_146, r1_148, r1_149, r1_152, r1_155, r1_156, r1_157, r1_159, r1_160, r1_162, r1_165, r1_166, r1_169, r1_171, r1_172, r1_175, r1_176, r1_177, r1_178, r1_181, r1_183, r1_184, r1_187, r1_188, r1_191, r1_192, s_below, iI_add, ← ha, ← hb, ← hc, ← he, ← hf, dk_0, z, n0, iI_eq, iI_lt, q1, kl_n, kl_i, kl_r, kl_z, kl_l, kl_d, catS_0, catS_c, cat_i, cat_l, cat_d, cat_r, cat_n, kC_r, kC_x, Option.bind_some, Option.toList_some, Option.toList_none, List.cons_append, List.nil_append, gB0, gB1, gB2, gB3, gB4, rvB, nI_iI, i0, i1, l0_, wr_s, aup_s, and_true, true_and, and_self, eq_self, if_true, if_false, Nat.zero_le, Nat.reduceAdd, Nat.reduceLeDiff, gN_I, gN_L, gN_P, bI_0, bI_ok, z0, z1, Bool.true_eq, Bool.false_eq_true, not_true_eq_false, not_false_eq_true]
  · have z := z h n w
    rw [eA, eB] at z
    refine ac_x (E := eIS) hI ?_
    simp (disch := omega) only [r1_116, r1_117, r1_118, r1_119, r1_120, r1_122, r1_125, r1_126, r1_127, r1_128, r1_131, r1_134, r1_135, r1_136, r1_137, r1_138, r1_141, r1_144, r1_145, r1_146, r1_148, r1_149, r1_152, r1_155, r1_156, r1_157, r1_159, r1_160, r1_162, r1_165, r1_166, r1_169, r1_171, r1_172, r1_175, r1_176, r1_177, r1_178, r1_181, r1_183, r1_184, r1_187, r1_188, r1_191, r1_192, s_below, iI_add, ← ha, ← hb, ← hc, ← he, ← hf, dk_0, z, bk1_166_eIS, hd_eIS, kl_n, kl_i, kl_r, kl_z, kl_l, kl_d, catS_0, catS_c, cat_i, cat_l, cat_d, cat_r, cat_n, kC_r, kC_x, Option.bind_some, Option.toList_some, Option.toList_none, List.cons_append, List.nil_append, gB0, gB1, gB2, gB3, gB4, rvB, nI_iI, i0, i1, l0_, wr_s, aup_s, and_true, true_and, and_self, eq_self, if_true, if_false, Nat.zero_le, Nat.reduceAdd, Nat.reduceLeDiff, gN_I, gN_L, gN_P, bI_0, bI_ok, z0, z1, Bool.true_eq, Bool.false_eq_true, not_true_eq_false, not_false_eq_true]
theorem ca_remove {tr : Int} {k : Nat} (hI : Inv W) (ht : -1 ≤ tr ∧ tr ≤ 5) (hk : k < 2147483648) : acP x g h n w (L (d + 12) 1 193 (acL x W t tr k) [] (dkW h x W, n, w, g)) := by
  have hO := Inv_ok hI
  have m60 := hI.1.1.1
  have u20 := hI.2.1.1.2.1
  rcases v_remove (d := d) (x := x) (g := g) (p := k) hI hk with ⟨W', k0, k3, z⟩ | z
  · have z := z h n w
    have e1 : ((W.1.1.1 - 1 : Nat) : Int) = (W.1.1.1 : Int) - 1 := by omega
    rw [e1] at z
    refine ac_i k3 ?_
    simp (disch := omega) only [r1_193, r1_194, r1_196, r1_199, r1_200, r1_201, r1_202, r1_205, r1_206, r1_209, r1_210, iI_sub, dk_0, z, kl_n, kl_i, kl_r, kl_z, kl_l, kl_d, catS_0, catS_c, cat_i, cat_l, cat_d, cat_r, cat_n, kC_r, kC_x, Option.bind_some, Option.toList_some, Option.toList_none, List.cons_append, List.nil_append, gB0, gB1, gB2, gB3, gB4, rvB, nI_iI, i0, i1, l0_, wr_s, aup_s, and_true, true_and, and_self, eq_self, if_true, if_false, Nat.zero_le, Nat.reduceAdd, Nat.reduceLeDiff, gN_I, gN_L, gN_P, bI_0, bI_ok, z0, z1, Bool.true_eq, Bool.false_eq_true, not_true_eq_false, not_false_eq_true]
  · have z := z h n w
    refine ac_x (E := eIO) hI ?_
    simp (disch := omega) only [r1_193, r1_194, r1_196, r1_199, r1_200, r1_201, r1_202, r1_205, r1_206, r1_209, r1_210, dk_0, z, bk1_196_eIO, hd_eIO, kl_n, kl_i, kl_r, kl_z, kl_l, kl_d, catS_0, catS_c, cat_i, cat_l, cat_d, cat_r, cat_n, kC_r, kC_x, Option.bind_some, Option.toList_some, Option.toList_none, List.cons_append, List.nil_append, gB0, gB1, gB2, gB3, gB4, rvB, nI_iI, i0, i1, l0_, wr_s, aup_s, and_true, true_and, and_self, eq_self, if_true, if_false, Nat.zero_le, Nat.reduceAdd, Nat.reduceLeDiff, gN_I, gN_L, gN_P, bI_0, bI_ok, z0, z1, Bool.true_eq, Bool.false_eq_true, not_true_eq_false, not_false_eq_true]
theorem ca_split {tr : Int} {k : Nat} (hI : Inv W) (ht : -1 ≤ tr ∧ tr ≤ 5) (hk : k < 2147483648) : acP x g h n w (L (d + 12) 1 211 (acL x W t tr k) [] (dkW h x W, n, w, g)) := by
  have hO := Inv_ok hI
  have m60 := hI.1.1.1
  have u20 := hI.2.1.1.2.1
  obtain ⟨a, ha⟩ : ∃ z, z = bw (t >>> (iI 6 &&& 31)) 600 := ⟨_, rfl⟩
  have ba : ((a : Nat) : Int) < 600 := by rw [ha]; exact bw_lt (by omega)
  rcases v_split (d := d) (x := x) (g := g) (p := k) (k := a) hI hk (by omega) with ⟨W', k3, z⟩ | ⟨E, hE, z⟩
  · have z := z h n w
    have e1 : ((W.1.1.1 + 1 : Nat) : Int) = (W.1.1.1 : Int) + 1 := rfl
    rw [e1] at z
    refine ac_i k3 ?_
    simp (disch := omega) only [r1_211, r1_212, r1_214, r1_215, r1_217, r1_218, r1_221, r1_224, r1_227, r1_228, r1_229, r1_230, r1_233, r1_234, r1_237, r1_238, s_below, ← ha, iI_add, dk_0, z, kl_n, kl_i, kl_r, kl_z, kl_l, kl_d, catS_0, catS_c, cat_i, cat_l, cat_d, cat_r, cat_n, kC_r, kC_x, Option.bind_some, Option.toList_some, Option.toList_none, List.cons_append, List.nil_append, gB0, gB1, gB2, gB3, gB4, rvB, nI_iI, i0, i1, l0_, wr_s, aup_s, and_true, true_and, and_self, eq_self, if_true, if_false, Nat.zero_le, Nat.reduceAdd, Nat.reduceLeDiff, gN_I, gN_L, gN_P, bI_0, bI_ok, z0, z1, Bool.true_eq, Bool.false_eq_true, not_true_eq_false, not_false_eq_true]
  · have z := z h n w
    refine ac_x (E := E) hI ?_
    rcases hE with rfl | rfl | rfl
    · simp (disch := omega) only [r1_211, r1_212, r1_214, r1_215, r1_217, r1_218, r1_221, r1_224, r1_227, r1_228, r1_229, r1_230, r1_233, r1_234, r1_237, r1_238, s_below, ← ha, dk_0, z, bk1_224_eIO, hd_eIO, kl_n, kl_i, kl_r, kl_z, kl_l, kl_d, catS_0, catS_c, cat_i, cat_l, cat_d, cat_r, cat_n, kC_r, kC_x, Option.bind_some, Option.toList_some, Option.toList_none, List.cons_append, List.nil_append, gB0, gB1, gB2, gB3, gB4, rvB, nI_iI, i0, i1, l0_, wr_s, aup_s, and_true, true_and, and_self, eq_self, if_true, if_false, Nat.zero_le, Nat.reduceAdd, Nat.reduceLeDiff, gN_I, gN_L, gN_P, bI_0, bI_ok, z0, z1, Bool.true_eq, Bool.false_eq_true, not_true_eq_false, not_false_eq_true]
    · simp (disch := omega) only [r1_211, r1_212, r1_214, r1_215, r1_217, r1_218, r1_221, r1_224, r1_227, r1_228, r1_229, r1_230, r1_233, r1_234, r1_237, r1_238, s_below, ← ha, dk_0, z, bk1_224_eIA, hd_eIA, kl_n, kl_i, kl_r, kl_z, kl_l, kl_d, catS_0, catS_c, cat_i, cat_l, cat_d, cat_r, cat_n, kC_r, kC_x, Option.bind_some, Option.toList_some, Option.toList_none, List.cons_append, List.nil_append, gB0, gB1, gB2, gB3, gB4, rvB, nI_iI, i0, i1, l0_, wr_s, aup_s, and_true, true_and, and_self, eq_self, if_true, if_false, Nat.zero_le, Nat.reduceAdd, Nat.reduceLeDiff, gN_I, gN_L, gN_P, bI_0, bI_ok, z0, z1, Bool.true_eq, Bool.false_eq_true, not_true_eq_false, not_false_eq_true]
    · simp (disch := omega) only [r1_211, r1_212, r1_214, r1_215, r1_217, r1_218, r1_221, r1_224, r1_227, r1_228, r1_229, r1_230, r1_233, r1_234, r1_237, r1_238, s_below, ← ha, dk_0, z, bk1_224_eIS, hd_eIS, kl_n, kl_i, kl_r, kl_z, kl_l, kl_d, catS_0, catS_c, cat_i, cat_l, cat_d, cat_r, cat_n, kC_r, kC_x, Option.bind_some, Option.toList_some, Option.toList_none, List.cons_append, List.nil_append, gB0, gB1, gB2, gB3, gB4, rvB, nI_iI, i0, i1, l0_, wr_s, aup_s, and_true, true_and, and_self, eq_self, if_true, if_false, Nat.zero_le, Nat.reduceAdd, Nat.reduceLeDiff, gN_I, gN_L, gN_P, bI_0, bI_ok, z0, z1, Bool.true_eq, Bool.false_eq_true, not_true_eq_false, not_false_eq_true]
theorem ca_transpose {tr : Int} {k : Nat} (hI : Inv W) (ht : -1 ≤ tr ∧ tr ≤ 5) (hk : k < 2147483648) : acP x g h n w (L (d + 12) 1 239 (acL x W t tr k) [] (dkW h x W, n, w, g)) := by
  have hO := Inv_ok hI
  have m60 := hI.1.1.1
  have u20 := hI.2.1.1.2.1
  obtain ⟨a, ha⟩ : ∃ z, z = bw (t >>> (iI 6 &&& 31)) 9 := ⟨_, rfl⟩
  have ba : ((a : Nat) : Int) < 9 := by rw [ha]; exact bw_lt (by omega)
  rcases v_transpose (d := d) (x := x) (g := g) (t := tr) (b := (a : Int) - 4) hI ht (by omega) with ⟨r, W', k1, k3, z⟩ | z
  · have z := z h n w
    have q1 : ¬ (W.1.1.1 : Int) < r := by omega
    refine ac_i k3 ?_
    simp (disch := omega) only [r1_239, r1_240, r1_242, r1_243, r1_246, r1_247, r1_249, r1_250, r1_252, r1_255, r1_256, r1_257, r1_260, r1_261, r1_264, r1_265, r1_268, r1_269, s_below, ← ha, iI_sub, iI_lt, dk_0, z, q1, kl_n, kl_i, kl_r, kl_z, kl_l, kl_d, catS_0, catS_c, cat_i, cat_l, cat_d, cat_r, cat_n, kC_r, kC_x, Option.bind_some, Option.toList_some, Option.toList_none, List.cons_append, List.nil_append, gB0, gB1, gB2, gB3, gB4, rvB, nI_iI, i0, i1, l0_, wr_s, aup_s, and_true, true_and, and_self, eq_self, if_true, if_false, Nat.zero_le, Nat.reduceAdd, Nat.reduceLeDiff, gN_I, gN_L, gN_P, bI_0, bI_ok, z0, z1, Bool.true_eq, Bool.false_eq_true, not_true_eq_false, not_false_eq_true]
  · have z := z h n w
    refine ac_x (E := eIS) hI ?_
    simp (disch := omega) only [r1_239, r1_240, r1_242, r1_243, r1_246, r1_247, r1_249, r1_250, r1_252, r1_255, r1_256, r1_257, r1_260, r1_261, r1_264, r1_265, r1_268, r1_269, s_below, ← ha, iI_sub, dk_0, z, bk1_257_eIS, hd_eIS, kl_n, kl_i, kl_r, kl_z, kl_l, kl_d, catS_0, catS_c, cat_i, cat_l, cat_d, cat_r, cat_n, kC_r, kC_x, Option.bind_some, Option.toList_some, Option.toList_none, List.cons_append, List.nil_append, gB0, gB1, gB2, gB3, gB4, rvB, nI_iI, i0, i1, l0_, wr_s, aup_s, and_true, true_and, and_self, eq_self, if_true, if_false, Nat.zero_le, Nat.reduceAdd, Nat.reduceLeDiff, gN_I, gN_L, gN_P, bI_0, bI_ok, z0, z1, Bool.true_eq, Bool.false_eq_true, not_true_eq_false, not_false_eq_true]
theorem ca_weigh {tr : Int} {k : Nat} (hI : Inv W) (ht : -1 ≤ tr ∧ tr ≤ 5) (hk : k < 2147483648) : acP x g h n w (L (d + 12) 1 270 (acL x W t tr k) [] (dkW h x W, n, w, g)) := by
  have hO := Inv_ok hI
  have m60 := hI.1.1.1
  have u20 := hI.2.1.1.2.1
  obtain ⟨a, ha⟩ : ∃ z, z = bw (t >>> (iI 6 &&& 31)) 200 := ⟨_, rfl⟩
  have ba : ((a : Nat) : Int) < 200 := by rw [ha]; exact bw_lt (by omega)
  obtain ⟨r, W', k1, k3, z⟩ := v_weigh (d := d) (x := x) (g := g) (t := tr) (u := 300) (p := a) hI (by unfold rgOk; omega) (by omega)
  have z := z h n w
  have q1 : ¬ (W.1.1.1 : Int) < r := by omega
  refine ac_i k3 ?_
  simp (disch := omega) only [r1_270, r1_271, r1_273, r1_274, r1_277, r1_278, r1_280, r1_281, r1_284, r1_287, r1_290, r1_291, r1_294, r1_295, r1_298, r1_299, s_below, ← ha, iI_lt, dk_0, z, q1, kl_n, kl_i, kl_r, kl_z, kl_l, kl_d, catS_0, catS_c, cat_i, cat_l, cat_d, cat_r, cat_n, kC_r, kC_x, Option.bind_some, Option.toList_some, Option.toList_none, List.cons_append, List.nil_append, gB0, gB1, gB2, gB3, gB4, rvB, nI_iI, i0, i1, l0_, wr_s, aup_s, and_true, true_and, and_self, eq_self, if_true, if_false, Nat.zero_le, Nat.reduceAdd, Nat.reduceLeDiff, gN_I, gN_L, gN_P, bI_0, bI_ok, z0, z1, Bool.true_eq, Bool.false_eq_true, not_true_eq_false, not_false_eq_true]
theorem ca_quantise {tr : Int} {k : Nat} (hI : Inv W) (ht : -1 ≤ tr ∧ tr ≤ 5) (hk : k < 2147483648) : acP x g h n w (L (d + 12) 1 300 (acL x W t tr k) [] (dkW h x W, n, w, g)) := by
  have hO := Inv_ok hI
  have m60 := hI.1.1.1
  have u20 := hI.2.1.1.2.1
  obtain ⟨a, ha⟩ : ∃ z, z = bw (t >>> (iI 6 &&& 31)) 100 := ⟨_, rfl⟩
  have ba : ((a : Nat) : Int) < 100 := by rw [ha]; exact bw_lt (by omega)
  have eA : ((1 + a : Nat) : Int) = 1 + (a : Int) := rfl
  have hr : rgOk tr 0 9600 := by unfold rgOk; omega
  have z0 := v_would (d := d) (x := x) (g := g) (t := tr) (s := 1 + a) hI hr (by omega) h n w
  obtain ⟨W', k1, k3, z⟩ := v_quantise (d := d) (x := x) (g := g) (t := tr) (s := 1 + a) hI hr (by omega)
  have z := z h n w
  have z1 := v_would (d := d) (x := x) (g := g) (t := tr) (s := 1 + a) k3 hr (by omega) h n w
  rw [k1] at z1
  have o6 : ofN tr 0 9600 W.1.1.2 W.1.1.1 (1 + a) ≤ 60 := Nat.le_trans (cntP_le _ _ _) m60
  generalize ofN tr 0 9600 W.1.1.2 W.1.1.1 (1 + a) = O at *
  rw [eA] at z0 z z1
  have c0 : ((0 : Nat) : Int) = 0 := rfl
  rw [c0] at z1
  refine ac_i k3 ?_
  simp (disch := omega) only [r1_300, r1_301, r1_302, r1_304, r1_305, r1_307, r1_310, r1_311, r1_313, r1_314, r1_316, r1_317, r1_320, r1_322, r1_325, r1_327, r1_328, r1_330, r1_331, r1_334, r1_336, r1_337, r1_339, r1_342, r1_344, r1_347, r1_348, r1_350, r1_351, r1_354, r1_356, r1_359, r1_362, r1_363, r1_366, r1_367, s_below, ← ha, iI_add, iI_eq, dk_0, z0, z, z1, kl_n, kl_i, kl_r, kl_z, kl_l, kl_d, catS_0, catS_c, cat_i, cat_l, cat_d, cat_r, cat_n, kC_r, kC_x, Option.bind_some, Option.toList_some, Option.toList_none, List.cons_append, List.nil_append, gB0, gB1, gB2, gB3, gB4, rvB, nI_iI, i0, i1, l0_, wr_s, aup_s, and_true, true_and, and_self, eq_self, if_true, if_false, Nat.zero_le, Nat.reduceAdd, Nat.reduceLeDiff, gN_I, gN_L, gN_P, bI_0, bI_ok, z0, z1, Bool.true_eq, Bool.false_eq_true, not_true_eq_false, not_false_eq_true]
  rfl
theorem ca_copy {tr : Int} {k : Nat} (hI : Inv W) (ht : -1 ≤ tr ∧ tr ≤ 5) (hk : k < 2147483648) : acP x g h n w (L (d + 12) 1 368 (acL x W t tr k) [] (dkW h x W, n, w, g)) := by
  have hO := Inv_ok hI
  have m60 := hI.1.1.1
  have u20 := hI.2.1.1.2.1
  obtain ⟨a, ha⟩ : ∃ z, z = bw (t >>> (iI 6 &&& 31)) 300 := ⟨_, rfl⟩
  have ba : ((a : Nat) : Int) < 300 := by rw [ha]; exact bw_lt (by omega)
  obtain ⟨r, W', k1, k3, z⟩ := v_copy (d := d) (x := x) (g := g) (t := tr) (v := a) hI (by unfold rgOk; omega)
  have z := z h n w
  have q1 : ¬ (W.1.1.1 : Int) < r := by omega
  refine ac_i k3 ?_
  simp (disch := omega) only [r1_368, r1_369, r1_371, r1_372, r1_374, r1_375, r1_378, r1_381, r1_384, r1_387, r1_388, r1_391, r1_392, r1_395, r1_396, s_below, ← ha, iI_lt, dk_0, z, q1, kl_n, kl_i, kl_r, kl_z, kl_l, kl_d, catS_0, catS_c, cat_i, cat_l, cat_d, cat_r, cat_n, kC_r, kC_x, Option.bind_some, Option.toList_some, Option.toList_none, List.cons_append, List.nil_append, gB0, gB1, gB2, gB3, gB4, rvB, nI_iI, i0, i1, l0_, wr_s, aup_s, and_true, true_and, and_self, eq_self, if_true, if_false, Nat.zero_le, Nat.reduceAdd, Nat.reduceLeDiff, gN_I, gN_L, gN_P, bI_0, bI_ok, z0, z1, Bool.true_eq, Bool.false_eq_true, not_true_eq_false, not_false_eq_true]
theorem ca_paste {tr : Int} {k : Nat} (hI : Inv W) (ht : -1 ≤ tr ∧ tr ≤ 5) (hk : k < 2147483648) : acP x g h n w (L (d + 12) 1 397 (acL x W t tr k) [] (dkW h x W, n, w, g)) := by
  have hO := Inv_ok hI
  have m60 := hI.1.1.1
  have u20 := hI.2.1.1.2.1
  obtain ⟨a, ha⟩ : ∃ z, z = bw (t >>> (iI 4 &&& 31)) 700 := ⟨_, rfl⟩
  have ba : ((a : Nat) : Int) < 700 := by rw [ha]; exact bw_lt (by omega)
  rcases v_paste (d := d) (x := x) (g := g) (k := a) hI (by omega) with ⟨r, W', k1, k3, z⟩ | z
  · have z := z h n w
    have n0 := s_notes (d := d) (n := n) (w := w) (g := g) (h := h) (x := x) (W := W')
    have m61 := k3.1.1.1
    have q1 : (W'.1.1.1 : Int) - (W.1.1.1 : Int) = r := by omega
    refine ac_i k3 ?_
    simp (disch := omega) only [r1_397, r1_398, r1_399, r1_400, r1_401, r1_404, r1_407, r1_410, r1_411, r1_414, r1_415, r1_416, r1_419, r1_420, r1_423, r1_424, s_below, ← ha, iI_sub, iI_eq, dk_0, z, n0, q1, kl_n, kl_i, kl_r, kl_z, kl_l, kl_d, catS_0, catS_c, cat_i, cat_l, cat_d, cat_r, cat_n, kC_r, kC_x, Option.bind_some, Option.toList_some, Option.toList_none, List.cons_append, List.nil_append, gB0, gB1, gB2, gB3, gB4, rvB, nI_iI, i0, i1, l0_, wr_s, aup_s, and_true, true_and, and_self, eq_self, if_true, if_false, Nat.zero_le, Nat.reduceAdd, Nat.reduceLeDiff, gN_I, gN_L, gN_P, bI_0, bI_ok, z0, z1, Bool.true_eq, Bool.false_eq_true, not_true_eq_false, not_false_eq_true]
  · have z := z h n w
    refine ac_x (E := eIS) hI ?_
    simp (disch := omega) only [r1_397, r1_398, r1_399, r1_400, r1_401, r1_404, r1_407, r1_410, r1_411, r1_414, r1_415, r1_416, r1_419, r1_420, r1_423, r1_424, s_below, ← ha, dk_0, z, bk1_407_eIS, hd_eIS, kl_n, kl_i, kl_r, kl_z, kl_l, kl_d, catS_0, catS_c, cat_i, cat_l, cat_d, cat_r, cat_n, kC_r, kC_x, Option.bind_some, Option.toList_some, Option.toList_none, List.cons_append, List.nil_append, gB0, gB1, gB2, gB3, gB4, rvB, nI_iI, i0, i1, l0_, wr_s, aup_s, and_true, true_and, and_self, eq_self, if_true, if_false, Nat.zero_le, Nat.reduceAdd, Nat.reduceLeDiff, gN_I, gN_L, gN_P, bI_0, bI_ok, z0, z1, Bool.true_eq, Bool.false_eq_true, not_true_eq_false, not_false_eq_true]
theorem ca_setTrack {tr : Int} {k : Nat} (hI : Inv W) (ht : -1 ≤ tr ∧ tr ≤ 5) (hk : k < 2147483648) : acP x g h n w (L (d + 12) 1 425 (acL x W t tr k) [] (dkW h x W, n, w, g)) := by
  have hO := Inv_ok hI
  have m60 := hI.1.1.1
  have u20 := hI.2.1.1.2.1
  obtain ⟨a, ha⟩ : ∃ z, z = bw (t >>> (iI 4 &&& 31)) 6 := ⟨_, rfl⟩
  have ba : ((a : Nat) : Int) < 6 := by rw [ha]; exact bw_lt (by omega)
  obtain ⟨b, hb⟩ : ∃ z, z = bw (t >>> (iI 6 &&& 31)) 4 := ⟨_, rfl⟩
  have bb : ((b : Nat) : Int) < 4 := by rw [hb]; exact bw_lt (by omega)
  obtain ⟨c, hc⟩ : ∃ z, z = bw (t >>> (iI 8 &&& 31)) 5 := ⟨_, rfl⟩
  have bc : ((c : Nat) : Int) < 5 := by rw [hc]; exact bw_lt (by omega)
  obtain ⟨e, he⟩ : ∃ z, z = bw (t >>> (iI 5 &&& 31)) 49 := ⟨_, rfl⟩
  have be : ((e : Nat) : Int) < 49 := by rw [he]; exact bw_lt (by omega)
  obtain ⟨f, hf⟩ : ∃ z, z = bw (t >>> (iI 7 &&& 31)) 97 := ⟨_, rfl⟩
  have bf : ((f : Nat) : Int) < 97 := by rw [hf]; exact bw_lt (by omega)
  by_cases qb : (b : Int) = 0
  · by_cases qc : (c : Int) = 0
    · obtain ⟨r, W', k3, z⟩ := v_setTrack (d := d) (x := x) (g := g) (t := a) (p := True) (q := True) (u := (e : Int) - 24) (v := (f : Int) - 48) hI (by omega) (by omega) (by omega)
      have z := z h n w
      change aE (d + 12) 53 [.ref x, .int (iI a), .int (iI 1), .int (iI 1), .int (iI ((e : Int) - 24)), .int (iI ((f : Int) - 48))] (dkW h x W, n, w, g) = _ at z
      refine ac_i k3 ?_
      simp (disch := omega) only [r1_425, r1_426, r1_427, r1_428, r1_429, r1_431, r1_434, r1_435, r1_437, r1_438, r1_439, r1_442, r1_445, r1_446, r1_449, r1_450, r1_451, r1_453, r1_454, r1_455, r1_458, r1_461, r1_462, r1_465, r1_466, r1_467, r1_468, r1_469, r1_471, r1_474, r1_476, r1_477, r1_478, r1_480, r1_481, r1_483, r1_486, r1_488, r1_489, r1_492i, r1_492, r1_493, r1_708, r1_783, r1_784, s_below, ← ha, ← hb, ← hc, ← he, ← hf, iI_sub, iI_eq, qb, qc, dk_0, z, kl_n, kl_i, kl_r, kl_z, kl_l, kl_d, catS_0, catS_c, cat_i, cat_l, cat_d, cat_r, cat_n, kC_r, kC_x, Option.bind_some, Option.toList_some, Option.toList_none, List.cons_append, List.nil_append, gB0, gB1, gB2, gB3, gB4, rvB, nI_iI, i0, i1, l0_, wr_s, aup_s, and_true, true_and, and_self, eq_self, if_true, if_false, Nat.zero_le, Nat.reduceAdd, Nat.reduceLeDiff, gN_I, gN_L, gN_P, bI_0, bI_ok, z0, z1, Bool.true_eq, Bool.false_eq_true, not_true_eq_false, not_false_eq_true]
    · obtain ⟨r, W', k3, z⟩ := v_setTrack (d := d) (x := x) (g := g) (t := a) (p := True) (q := False) (u := (e : Int) - 24) (v := (f : Int) - 48) hI (by omega) (by omega) (by omega)
      have z := z h n w
      change aE (d + 12) 53 [.ref x, .int (iI a), .int (iI 1), .int (iI 0), .int (iI ((e : Int) - 24)), .int (iI ((f : Int) - 48))] (dkW h x W, n, w, g) = _ at z
      refine ac_i k3 ?_
      simp (disch := omega) only [r1_425, r1_426, r1_427, r1_428, r1_429, r1_431, r1_434, r1_435, r1_437, r1_438, r1_439, r1_442, r1_445, r1_446, r1_449, r1_450, r1_451, r1_453, r1_454, r1_455, r1_458, r1_461, r1_462, r1_465, r1_466, r1_467, r1_468, r1_469, r1_471, r1_474, r1_476, r1_477, r1_478, r1_480, r1_481, r1_483, r1_486, r1_488, r1_489, r1_492i, r1_492, r1_493, r1_708, r1_783, r1_784, s_below, ← ha, ← hb, ← hc, ← he, ← hf, iI_sub, iI_eq, qb, qc, dk_0, z, kl_n, kl_i, kl_r, kl_z, kl_l, kl_d, catS_0, catS_c, cat_i, cat_l, cat_d, cat_r, cat_n, kC_r, kC_x, Option.bind_some, Option.toList_some, Option.toList_none, List.cons_append, List.nil_append, gB0, gB1, gB2, gB3, gB4, rvB, nI_iI, i0, i1, l0_, wr_s, aup_s, and_true, true_and, and_self, eq_self, if_true, if_false, Nat.zero_le, Nat.reduceAdd, Nat.reduceLeDiff, gN_I, gN_L, gN_P, bI_0, bI_ok, z0, z1, Bool.true_eq, Bool.false_eq_true, not_true_eq_false, not_false_eq_true]
  · by_cases qc : (c : Int) = 0
    · obtain ⟨r, W', k3, z⟩ := v_setTrack (d := d) (x := x) (g := g) (t := a) (p := False) (q := True) (u := (e : Int) - 24) (v := (f : Int) - 48) hI (by omega) (by omega) (by omega)
      have z := z h n w
      change aE (d + 12) 53 [.ref x, .int (iI a), .int (iI 0), .int (iI 1), .int (iI ((e : Int) - 24)), .int (iI ((f : Int) - 48))] (dkW h x W, n, w, g) = _ at z
      refine ac_i k3 ?_
      simp (disch := omega) only [r1_425, r1_426, r1_427, r1_428, r1_429, r1_431, r1_434, r1_435, r1_437, r1_438, r1_439, r1_442, r1_445, r1_446, r1_449, r1_450, r1_451, r1_453, r1_454, r1_455, r1_458, r1_461, r1_462, r1_465, r1_466, r1_467, r1_468, r1_469, r1_471, r1_474, r1_476, r1_477, r1_478, r1_480, r1_481, r1_483, r1_486, r1_488, r1_489, r1_492i, r1_492, r1_493, r1_708, r1_783, r1_784, s_below, ← ha, ← hb, ← hc, ← he, ← hf, iI_sub, iI_eq, qb, qc, dk_0, z, kl_n, kl_i, kl_r, kl_z, kl_l, kl_d, catS_0, catS_c, cat_i, cat_l, cat_d, cat_r, cat_n, kC_r, kC_x, Option.bind_some, Option.toList_some, Option.toList_none, List.cons_append, List.nil_append, gB0, gB1, gB2, gB3, gB4, rvB, nI_iI, i0, i1, l0_, wr_s, aup_s, and_true, true_and, and_self, eq_self, if_true, if_false, Nat.zero_le, Nat.reduceAdd, Nat.reduceLeDiff, gN_I, gN_L, gN_P, bI_0, bI_ok, z0, z1, Bool.true_eq, Bool.false_eq_true, not_true_eq_false, not_false_eq_true]
    · obtain ⟨r, W', k3, z⟩ := v_setTrack (d := d) (x := x) (g := g) (t := a) (p := False) (q := False) (u := (e : Int) - 24) (v := (f : Int) - 48) hI (by omega) (by omega) (by omega)
      have z := z h n w
      change aE (d + 12) 53 [.ref x, .int (iI a), .int (iI 0), .int (iI 0), .int (iI ((e : Int) - 24)), .int (iI ((f : Int) - 48))] (dkW h x W, n, w, g) = _ at z
      refine ac_i k3 ?_
      simp (disch := omega) only [r1_425, r1_426, r1_427, r1_428, r1_429, r1_431, r1_434, r1_435, r1_437, r1_438, r1_439, r1_442, r1_445, r1_446, r1_449, r1_450, r1_451, r1_453, r1_454, r1_455, r1_458, r1_461, r1_462, r1_465, r1_466, r1_467, r1_468, r1_469, r1_471, r1_474, r1_476, r1_477, r1_478, r1_480, r1_481, r1_483, r1_486, r1_488, r1_489, r1_492i, r1_492, r1_493, r1_708, r1_783, r1_784, s_below, ← ha, ← hb, ← hc, ← he, ← hf, iI_sub, iI_eq, qb, qc, dk_0, z, kl_n, kl_i, kl_r, kl_z, kl_l, kl_d, catS_0, catS_c, cat_i, cat_l, cat_d, cat_r, cat_n, kC_r, kC_x, Option.bind_some, Option.toList_some, Option.toList_none, List.cons_append, List.nil_append, gB0, gB1, gB2, gB3, gB4, rvB, nI_iI, i0, i1, l0_, wr_s, aup_s, and_true, true_and, and_self, eq_self, if_true, if_false, Nat.zero_le, Nat.reduceAdd, Nat.reduceLeDiff, gN_I, gN_L, gN_P, bI_0, bI_ok, z0, z1, Bool.true_eq, Bool.false_eq_true, not_true_eq_false, not_false_eq_true]
theorem ca_setSpeed {tr : Int} {k : Nat} (hI : Inv W) (ht : -1 ≤ tr ∧ tr ≤ 5) (hk : k < 2147483648) : acP x g h n w (L (d + 12) 1 496 (acL x W t tr k) [] (dkW h x W, n, w, g)) := by
  have hO := Inv_ok hI
  have m60 := hI.1.1.1
  have u20 := hI.2.1.1.2.1
  obtain ⟨a, ha⟩ : ∃ z, z = bw (t >>> (iI 5 &&& 31)) 20 := ⟨_, rfl⟩
  have ba : ((a : Nat) : Int) < 20 := by rw [ha]; exact bw_lt (by omega)
  obtain ⟨b, hb⟩ : ∃ z, z = bw (t >>> (iI 7 &&& 31)) 2 := ⟨_, rfl⟩
  have bb : ((b : Nat) : Int) < 2 := by rw [hb]; exact bw_lt (by omega)
  obtain ⟨c, hc⟩ : ∃ z, z = bw (t >>> (iI 4 &&& 31)) 2801 := ⟨_, rfl⟩
  have bc : ((c : Nat) : Int) < 2801 := by rw [hc]; exact bw_lt (by omega)
  have eA : ((a * 50 : Nat) : Int) = (a : Int) * 50 := rfl
  have eB : ((b * (200 + c) : Nat) : Int) = (b : Int) * (200 + (c : Int)) := rfl
  have hb2 : b = 0 ∨ b = 1 := by omega
  rcases v_setSpeed (d := d) (x := x) (g := g) (k := a * 50) (v := b * (200 + c)) hI (by omega) (by rcases hb2 with q | q <;> rw [q] <;> omega) with ⟨r, W', k3, z⟩ | z
  · have z := z h n w
    have t0 : aE (d + 12) 64 [.ref x, .int (iI 0)] (dkW h x W', n, w, g) = some (.inl (some (.int (iI (tmS W'.1 0 : Nat)))), (dkW h x W', n, w, g)) := s_timeOf (t := 0) (Inv_ok k3) (by omega)
    rw [tmS_0] at t0
    have c0 : ((0 : Nat) : Int) = 0 := rfl
    rw [c0] at t0
    rw [eA, eB] at z
    refine ac_i k3 ?_
    simp (disch := omega) only [r1_496, r1_497, r1_498, r1_499, r1_500, r1_502, r1_505, r1_507, r1_508, r1_509, r1_511, r1_512, r1_513, r1_516, r1_519, r1_520, r1_521, r1_522, r1_525, r1_528, r1_529, r1_530, r1_533i, r1_533, r1_534, r1_535, r1_536, r1_539, r1_542, r1_543, r1_546, r1_547, s_below, ← ha, ← hb, ← hc, iI_mul, iI_add, dk_0, z, t0, kl_n, kl_i, kl_r, kl_z, kl_l, kl_d, catS_0, catS_c, cat_i, cat_l, cat_d, cat_r, cat_n, kC_r, kC_x, Option.bind_some, Option.toList_some, Option.toList_none, List.cons_append, List.nil_append, gB0, gB1, gB2, gB3, gB4, rvB, nI_iI, i0, i1, l0_, wr_s, aup_s, and_true, true_and, and_self, eq_self, if_true, if_false, Nat.zero_le, Nat.reduceAdd, Nat.reduceLeDiff, gN_I, gN_L, gN_P, bI_0, bI_ok, z0, z1, Bool.true_eq, Bool.false_eq_true, not_true_eq_false, not_false_eq_true]
  · have z := z h n w
    rw [eA, eB] at z
    refine ac_x (E := eIS) hI ?_
    simp (disch := omega) only [r1_496, r1_497, r1_498, r1_499, r1_500, r1_502, r1_505, r1_507, r1_508, r1_509, r1_511, r1_512, r1_513, r1_516, r1_519, r1_520, r1_521, r1_522, r1_525, r1_528, r1_529, r1_530, r1_533i, r1_533, r1_534, r1_535, r1_536, r1_539, r1_542, r1_543, r1_546, r1_547, s_below, ← ha, ← hb, ← hc, iI_mul, iI_add, dk_0, z, bk1_530_eIS, hd_eIS, kl_n, kl_i, kl_r, kl_z, kl_l, kl_d, catS_0, catS_c, cat_i, cat_l, cat_d, cat_r, cat_n, kC_r, kC_x, Option.bind_some, Option.toList_some, Option.toList_none, List.cons_append, List.nil_append, gB0, gB1, gB2, gB3, gB4, rvB, nI_iI, i0, i1, l0_, wr_s, aup_s, and_true, true_and, and_self, eq_self, if_true, if_false, Nat.zero_le, Nat.reduceAdd, Nat.reduceLeDiff, gN_I, gN_L, gN_P, bI_0, bI_ok, z0, z1, Bool.true_eq, Bool.false_eq_true, not_true_eq_false, not_false_eq_true]
theorem ca_setMeter {tr : Int} {k : Nat} (hI : Inv W) (ht : -1 ≤ tr ∧ tr ≤ 5) (hk : k < 2147483648) : acP x g h n w (L (d + 12) 1 548 (acL x W t tr k) [] (dkW h x W, n, w, g)) := by
  have hO := Inv_ok hI
  have m60 := hI.1.1.1
  have u20 := hI.2.1.1.2.1
  obtain ⟨a, ha⟩ : ∃ z, z = bw (t >>> (iI 5 &&& 31)) 8 := ⟨_, rfl⟩
  have ba : ((a : Nat) : Int) < 8 := by rw [ha]; exact bw_lt (by omega)
  obtain ⟨b, hb⟩ : ∃ z, z = bw (t >>> (iI 4 &&& 31)) 17 := ⟨_, rfl⟩
  have bb : ((b : Nat) : Int) < 17 := by rw [hb]; exact bw_lt (by omega)
  obtain ⟨c, hc⟩ : ∃ z, z = bw (t >>> (iI 8 &&& 31)) 4 := ⟨_, rfl⟩
  have bc : ((c : Nat) : Int) < 4 := by rw [hc]; exact bw_lt (by omega)
  obtain ⟨y, hy, ey⟩ := shl2 c (by omega)
  rcases v_setMeter (d := d) (x := x) (g := g) (k := a) (y := b) (z := y) hI (by omega) (by omega) hy with ⟨r, W', k3, z⟩ | z
  · have z := z h n w
    have t0 : aE (d + 12) 68 [.ref x, .int (iI 0)] (dkW h x W', n, w, g) = some (.inl (some (.int (iI (bSt W'.1.2.2.2.1.1 W'.1.2.2.2.1.2.1 W'.1.2.2.2.1.2.2.1 W'.1.2.2.2.1.2.2.2 0 : Nat)))), (dkW h x W', n, w, g)) := s_tickOfBar (t := 0) (Inv_ok k3) (by omega)
    rw [bSt_0 k3.1.1.2.2.2.2.2.2.1] at t0
    have c0 : ((0 : Nat) : Int) = 0 := rfl
    rw [c0] at t0
    refine ac_i k3 ?_
    simp (disch := omega) only [r1_548, r1_549, r1_550, r1_551, r1_552, r1_554, r1_557, r1_558, r1_559, r1_560, r1_562, r1_565, r1_566, r1_567, r1_569, r1_570, r1_571, r1_574, r1_575, r1_578i, r1_578, r1_579, r1_580, r1_581, r1_584, r1_587, r1_588, r1_591, r1_592, s_below, ← ha, ← hb, ← hc, ey, dk_0, z, t0, kl_n, kl_i, kl_r, kl_z, kl_l, kl_d, catS_0, catS_c, cat_i, cat_l, cat_d, cat_r, cat_n, kC_r, kC_x, Option.bind_some, Option.toList_some, Option.toList_none, List.cons_append, List.nil_append, gB0, gB1, gB2, gB3, gB4, rvB, nI_iI, i0, i1, l0_, wr_s, aup_s, and_true, true_and, and_self, eq_self, if_true, if_false, Nat.zero_le, Nat.reduceAdd, Nat.reduceLeDiff, gN_I, gN_L, gN_P, bI_0, bI_ok, z0, z1, Bool.true_eq, Bool.false_eq_true, not_true_eq_false, not_false_eq_true]
  · have z := z h n w
    refine ac_x (E := eIS) hI ?_
    simp (disch := omega) only [r1_548, r1_549, r1_550, r1_551, r1_552, r1_554, r1_557, r1_558, r1_559, r1_560, r1_562, r1_565, r1_566, r1_567, r1_569, r1_570, r1_571, r1_574, r1_575, r1_578i, r1_578, r1_579, r1_580, r1_581, r1_584, r1_587, r1_588, r1_591, r1_592, s_below, ← ha, ← hb, ← hc, ey, dk_0, z, bk1_575_eIS, hd_eIS, kl_n, kl_i, kl_r, kl_z, kl_l, kl_d, catS_0, catS_c, cat_i, cat_l, cat_d, cat_r, cat_n, kC_r, kC_x, Option.bind_some, Option.toList_some, Option.toList_none, List.cons_append, List.nil_append, gB0, gB1, gB2, gB3, gB4, rvB, nI_iI, i0, i1, l0_, wr_s, aup_s, and_true, true_and, and_self, eq_self, if_true, if_false, Nat.zero_le, Nat.reduceAdd, Nat.reduceLeDiff, gN_I, gN_L, gN_P, bI_0, bI_ok, z0, z1, Bool.true_eq, Bool.false_eq_true, not_true_eq_false, not_false_eq_true]
theorem ca_setLoop {tr : Int} {k : Nat} (hI : Inv W) (ht : -1 ≤ tr ∧ tr ≤ 5) (hk : k < 2147483648) : acP x g h n w (L (d + 12) 1 593 (acL x W t tr k) [] (dkW h x W, n, w, g)) := by
  have hO := Inv_ok hI
  have m60 := hI.1.1.1
  have u20 := hI.2.1.1.2.1
  obtain ⟨a, ha⟩ : ∃ z, z = bw (t >>> (iI 4 &&& 31)) 300 := ⟨_, rfl⟩
  have ba : ((a : Nat) : Int) < 300 := by rw [ha]; exact bw_lt (by omega)
  obtain ⟨b, hb⟩ : ∃ z, z = bw (t >>> (iI 6 &&& 31)) 300 := ⟨_, rfl⟩
  have bb : ((b : Nat) : Int) < 300 := by rw [hb]; exact bw_lt (by omega)
  obtain ⟨c, hc⟩ : ∃ z, z = bw (t >>> (iI 8 &&& 31)) 9 := ⟨_, rfl⟩
  have bc : ((c : Nat) : Int) < 9 := by rw [hc]; exact bw_lt (by omega)
  have eA : ((301 + b : Nat) : Int) = 301 + (b : Int) := rfl
  obtain ⟨r, W', k3, z⟩ := v_setLoop (d := d) (x := x) (g := g) (f := a) (t := 301 + b) (y := c) hI (by omega) (by omega) (by omega)
  have z := z h n w
  rw [eA] at z
  refine ac_i k3 ?_
  simp (disch := omega) only [r1_593, r1_594, r1_595, r1_596, r1_597, r1_600, r1_603, r1_606, r1_607, r1_609, r1_610, r1_613, r1_616, r1_617, r1_618, r1_620, r1_621, r1_623, r1_626, r1_629i, r1_629, r1_630, r1_708, r1_783, r1_784, s_below, ← ha, ← hb, ← hc, iI_add, dk_0, z, kl_n, kl_i, kl_r, kl_z, kl_l, kl_d, catS_0, catS_c, cat_i, cat_l, cat_d, cat_r, cat_n, kC_r, kC_x, Option.bind_some, Option.toList_some, Option.toList_none, List.cons_append, List.nil_append, gB0, gB1, gB2, gB3, gB4, rvB, nI_iI, i0, i1, l0_, wr_s, aup_s, and_true, true_and, and_self, eq_self, if_true, if_false, Nat.zero_le, Nat.reduceAdd, Nat.reduceLeDiff, gN_I, gN_L, gN_P, bI_0, bI_ok, z0, z1, Bool.true_eq, Bool.false_eq_true, not_true_eq_false, not_false_eq_true]
theorem ca_group {tr : Int} {k : Nat} (hI : Inv W) (ht : -1 ≤ tr ∧ tr ≤ 5) (hk : k < 2147483648) : acP x g h n w (L (d + 12) 1 633 (acL x W t tr k) [] (dkW h x W, n, w, g)) := by
  have hO := Inv_ok hI
  have m60 := hI.1.1.1
  have u20 := hI.2.1.1.2.1
  obtain ⟨a, ha⟩ : ∃ z, z = bw (t >>> (iI 4 &&& 31)) 4 := ⟨_, rfl⟩
  have ba : ((a : Nat) : Int) < 4 := by rw [ha]; exact bw_lt (by omega)
  by_cases q0 : (a : Int) = 0
  · rcases v_openGroup (d := d) (x := x) (g := g) hI with ⟨-, z⟩ | ⟨-, z⟩
    · have z := z h n w
      refine ac_i (Inv_open hI) ?_
      simp (disch := omega) only [r1_633, r1_634, r1_635, r1_636, r1_637, r1_640, r1_643, r1_644, r1_647, r1_648, r1_651, r1_652, r1_655, r1_656, s_below, ← ha, iI_eq, q0, dk_0, z, kl_n, kl_i, kl_r, kl_z, kl_l, kl_d, catS_0, catS_c, cat_i, cat_l, cat_d, cat_r, cat_n, kC_r, kC_x, Option.bind_some, Option.toList_some, Option.toList_none, List.cons_append, List.nil_append, gB0, gB1, gB2, gB3, gB4, rvB, nI_iI, i0, i1, l0_, wr_s, aup_s, and_true, true_and, and_self, eq_self, if_true, if_false, Nat.zero_le, Nat.reduceAdd, Nat.reduceLeDiff, gN_I, gN_L, gN_P, bI_0, bI_ok, z0, z1, Bool.true_eq, Bool.false_eq_true, not_true_eq_false, not_false_eq_true]
    · have z := z h n w
      refine ac_x (E := eIS) hI ?_
      simp (disch := omega) only [r1_633, r1_634, r1_635, r1_636, r1_637, r1_640, r1_643, r1_644, r1_647, r1_648, r1_651, r1_652, r1_655, r1_656, s_below, ← ha, iI_eq, q0, dk_0, z, bk1_644_eIS, hd_eIS, kl_n, kl_i, kl_r, kl_z, kl_l, kl_d, catS_0, catS_c, cat_i, cat_l, cat_d, cat_r, cat_n, kC_r, kC_x, Option.bind_some, Option.toList_some, Option.toList_none, List.cons_append, List.nil_append, gB0, gB1, gB2, gB3, gB4, rvB, nI_iI, i0, i1, l0_, wr_s, aup_s, and_true, true_and, and_self, eq_self, if_true, if_false, Nat.zero_le, Nat.reduceAdd, Nat.reduceLeDiff, gN_I, gN_L, gN_P, bI_0, bI_ok, z0, z1, Bool.true_eq, Bool.false_eq_true, not_true_eq_false, not_false_eq_true]
  · by_cases q1 : (a : Int) = 1
    · have q10 : ¬ (1 : Int) = 0 := by omega
      rcases v_closeGroup (d := d) (x := x) (g := g) hI with ⟨W', k3, -, z⟩ | z
      · have z := z h n w
        refine ac_i k3 ?_
        simp (disch := omega) only [r1_633, r1_634, r1_635, r1_636, r1_637, r1_640, r1_643, r1_644, r1_647, r1_648, r1_651, r1_652, r1_655, r1_656, r1_657, r1_658, r1_659, r1_660, r1_661, r1_664, r1_665, r1_668, r1_669, r1_672i, r1_672, r1_673, r1_708, r1_783, r1_784, s_below, ← ha, iI_eq, q1, q10, dk_0, z, kl_n, kl_i, kl_r, kl_z, kl_l, kl_d, catS_0, catS_c, cat_i, cat_l, cat_d, cat_r, cat_n, kC_r, kC_x, Option.bind_some, Option.toList_some, Option.toList_none, List.cons_append, List.nil_append, gB0, gB1, gB2, gB3, gB4, rvB, nI_iI, i0, i1, l0_, wr_s, aup_s, and_true, true_and, and_self, eq_self, if_true, if_false, Nat.zero_le, Nat.reduceAdd, Nat.reduceLeDiff, gN_I, gN_L, gN_P, bI_0, bI_ok, z0, z1, Bool.true_eq, Bool.false_eq_true, not_true_eq_false, not_false_eq_true]
      · have z := z h n w
        refine ac_x (E := eIS) hI ?_
        simp (disch := omega) only [r1_633, r1_634, r1_635, r1_636, r1_637, r1_640, r1_643, r1_644, r1_647, r1_648, r1_651, r1_652, r1_655, r1_656, r1_657, r1_658, r1_659, r1_660, r1_661, r1_664, r1_665, r1_668, r1_669, r1_672i, r1_672, r1_673, s_below, ← ha, iI_eq, q1, q10, dk_0, z, bk1_669_eIS, hd_eIS, kl_n, kl_i, kl_r, kl_z, kl_l, kl_d, catS_0, catS_c, cat_i, cat_l, cat_d, cat_r, cat_n, kC_r, kC_x, Option.bind_some, Option.toList_some, Option.toList_none, List.cons_append, List.nil_append, gB0, gB1, gB2, gB3, gB4, rvB, nI_iI, i0, i1, l0_, wr_s, aup_s, and_true, true_and, and_self, eq_self, if_true, if_false, Nat.zero_le, Nat.reduceAdd, Nat.reduceLeDiff, gN_I, gN_L, gN_P, bI_0, bI_ok, z0, z1, Bool.true_eq, Bool.false_eq_true, not_true_eq_false, not_false_eq_true]
    · by_cases q2 : (a : Int) = 2
      · have q20 : ¬ (2 : Int) = 0 := by omega
        have q21 : ¬ (2 : Int) = 1 := by omega
        rcases v_undo (d := d) (x := x) (g := g) hI with ⟨k0, z⟩ | z
        · have z := z h n w
          have e1 : ((W.2.1.2.1 - 1 : Nat) : Int) = (W.2.1.2.1 : Int) - 1 := by omega
          rw [e1] at z
          refine ac_i (Inv_bk hI k0) ?_
          simp (disch := omega) only [r1_633, r1_634, r1_635, r1_636, r1_637, r1_640, r1_643, r1_644, r1_647, r1_648, r1_651, r1_652, r1_655, r1_656, r1_657, r1_658, r1_659, r1_660, r1_661, r1_664, r1_665, r1_668, r1_669, r1_672i, r1_672, r1_673, r1_676, r1_677, r1_678, r1_679, r1_680, r1_683, r1_684, r1_687, r1_688, r1_691, r1_692, r1_693, r1_694, r1_697, r1_698, r1_701, r1_702, s_below, ← ha, iI_eq, iI_sub, q2, q20, q21, dk_0, z, kl_n, kl_i, kl_r, kl_z, kl_l, kl_d, catS_0, catS_c, cat_i, cat_l, cat_d, cat_r, cat_n, kC_r, kC_x, Option.bind_some, Option.toList_some, Option.toList_none, List.cons_append, List.nil_append, gB0, gB1, gB2, gB3, gB4, rvB, nI_iI, i0, i1, l0_, wr_s, aup_s, and_true, true_and, and_self, eq_self, if_true, if_false, Nat.zero_le, Nat.reduceAdd, Nat.reduceLeDiff, gN_I, gN_L, gN_P, bI_0, bI_ok, z0, z1, Bool.true_eq, Bool.false_eq_true, not_true_eq_false, not_false_eq_true]
        · have z := z h n w
          refine ac_x (E := eIS) hI ?_
          simp (disch := omega) only [r1_633, r1_634, r1_635, r1_636, r1_637, r1_640, r1_643, r1_644, r1_647, r1_648, r1_651, r1_652, r1_655, r1_656, r1_657, r1_658, r1_659, r1_660, r1_661, r1_664, r1_665, r1_668, r1_669, r1_672i, r1_672, r1_673, r1_676, r1_677, r1_678, r1_679, r1_680, r1_683, r1_684, r1_687, r1_688, r1_691, r1_692, r1_693, r1_694, r1_697, r1_698, r1_701, r1_702, s_below, ← ha, iI_eq, q2, q20, q21, dk_0, z, bk1_688_eIS, hd_eIS, kl_n, kl_i, kl_r, kl_z, kl_l, kl_d, catS_0, catS_c, cat_i, cat_l, cat_d, cat_r, cat_n, kC_r, kC_x, Option.bind_some, Option.toList_some, Option.toList_none, List.cons_append, List.nil_append, gB0, gB1, gB2, gB3, gB4, rvB, nI_iI, i0, i1, l0_, wr_s, aup_s, and_true, true_and, and_self, eq_self, if_true, if_false, Nat.zero_le, Nat.reduceAdd, Nat.reduceLeDiff, gN_I, gN_L, gN_P, bI_0, bI_ok, z0, z1, Bool.true_eq, Bool.false_eq_true, not_true_eq_false, not_false_eq_true]
      · rcases v_redo (d := d) (x := x) (g := g) hI with ⟨k0, z⟩ | z
        · have z := z h n w
          refine ac_i (Inv_fw hI k0) ?_
          simp (disch := omega) only [r1_633, r1_634, r1_635, r1_636, r1_637, r1_640, r1_643, r1_644, r1_647, r1_648, r1_651, r1_652, r1_655, r1_656, r1_657, r1_658, r1_659, r1_660, r1_661, r1_664, r1_665, r1_668, r1_669, r1_672i, r1_672, r1_673, r1_676, r1_677, r1_678, r1_679, r1_680, r1_683, r1_684, r1_687, r1_688, r1_691, r1_692, r1_693, r1_694, r1_697, r1_698, r1_701, r1_702, r1_703, r1_704, r1_707i, r1_707, r1_708, r1_783, r1_784, s_below, ← ha, iI_eq, q0, q1, q2, dk_0, z, kl_n, kl_i, kl_r, kl_z, kl_l, kl_d, catS_0, catS_c, cat_i, cat_l, cat_d, cat_r, cat_n, kC_r, kC_x, Option.bind_some, Option.toList_some, Option.toList_none, List.cons_append, List.nil_append, gB0, gB1, gB2, gB3, gB4, rvB, nI_iI, i0, i1, l0_, wr_s, aup_s, and_true, true_and, and_self, eq_self, if_true, if_false, Nat.zero_le, Nat.reduceAdd, Nat.reduceLeDiff, gN_I, gN_L, gN_P, bI_0, bI_ok, z0, z1, Bool.true_eq, Bool.false_eq_true, not_true_eq_false, not_false_eq_true]
        · have z := z h n w
          refine ac_x (E := eIS) hI ?_
          simp (disch := omega) only [r1_633, r1_634, r1_635, r1_636, r1_637, r1_640, r1_643, r1_644, r1_647, r1_648, r1_651, r1_652, r1_655, r1_656, r1_657, r1_658, r1_659, r1_660, r1_661, r1_664, r1_665, r1_668, r1_669, r1_672i, r1_672, r1_673, r1_676, r1_677, r1_678, r1_679, r1_680, r1_683, r1_684, r1_687, r1_688, r1_691, r1_692, r1_693, r1_694, r1_697, r1_698, r1_701, r1_702, r1_703, r1_704, r1_707i, r1_707, r1_708, s_below, ← ha, iI_eq, q0, q1, q2, dk_0, z, bk1_704_eIS, hd_eIS, kl_n, kl_i, kl_r, kl_z, kl_l, kl_d, catS_0, catS_c, cat_i, cat_l, cat_d, cat_r, cat_n, kC_r, kC_x, Option.bind_some, Option.toList_some, Option.toList_none, List.cons_append, List.nil_append, gB0, gB1, gB2, gB3, gB4, rvB, nI_iI, i0, i1, l0_, wr_s, aup_s, and_true, true_and, and_self, eq_self, if_true, if_false, Nat.zero_le, Nat.reduceAdd, Nat.reduceLeDiff, gN_I, gN_L, gN_P, bI_0, bI_ok, z0, z1, Bool.true_eq, Bool.false_eq_true, not_true_eq_false, not_false_eq_true]
end
