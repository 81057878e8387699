/-! ===== the library sorts a row of long numbers: its main method ===== -/
theorem sor_p5 {C : Nat → Nat} {lo l u hi x y : Nat} (h : l < u ∧ u < hi) (hxy : x ≤ y) (h1 : ∀ i, lo ≤ i → i < l → C i ≤ x) (h2 : C l = x) (h3 : ∀ i, l < i → i < u → x ≤ C i ∧ C i ≤ y) (h4 : C u = y) (h5 : ∀ i, u < i → i < hi → y ≤ C i) (s1 : sor C lo l) (s2 : sor C (l + 1) u) (s3 : sor C (u + 1) hi) : sor C lo hi := by
  intro i j k1 k2 k3
  by_cases a1 : j < l
  · exact s1 i j k1 k2 a1
  · have b1 : l ≤ j → x ≤ C j := fun z => by
      by_cases e1 : j = l
      · rw [e1, h2]
        exact Nat.le_refl _
      · by_cases e2 : j < u
        · exact (h3 j (by omega) e2).1
        · by_cases e3 : j = u
          · rw [e3, h4]
            exact hxy
          · have := h5 j (by omega) k3
            omega
    have b2 := b1 (by omega)
    by_cases a2 : i ≤ l
    · by_cases e1 : i = l
      · rw [e1, h2]
        exact b2
      · have := h1 i k1 (by omega)
        omega
    · by_cases a3 : j < u
      · exact s2 i j (by omega) k2 a3
      · have b3 : y ≤ C j := by
          by_cases e3 : j = u
          · rw [e3, h4]
            exact Nat.le_refl _
          · exact h5 j (by omega) k3
        by_cases a4 : i ≤ u
        · by_cases e4 : i = u
          · rw [e4, h4]
            exact b3
          · have := (h3 i (by omega) (by omega)).2
            omega
        · exact s3 i j (by omega) k2 k3
theorem odd_1 (b : Nat) : odd b % 2 = 1 ∧ b ≤ odd b ∧ odd b ≤ b + 1 := by
  unfold odd
  split <;> omega
/-- a part of a row is sorted, if it is no longer than m -/
def SR (N p m : Nat) : Prop := ∀ (d b lo hi : Nat) (C : Nat → Nat) (h : aHf) (r : Nat × Nat × Nat × Nat), hi - lo ≤ m → (lo ≤ hi ∧ hi ≤ N) → (0 < b ∧ b ≤ 391 ∧ 420 ≤ 6 * d + b) → (b % 2 = 1 → ∃ slo, lo = slo + 1 ∧ snt slo hi C) → (∀ j, bd (C j)) → ∀ l5 l6 l7 l8 l9 l10 l11 l12 l13 l14 l15 l16 l17 l18 l19 l20 l21 l22 l23 l24 : Option Value, ∃ C', prm lo hi C C' ∧ sor C' lo hi ∧
  L d 279 0 [some .null, some (.ref p), some (.int (iI b)), some (.int (iI lo)), some (.int (iI hi)), l5, l6, l7, l8, l9, l10, l11, l12, l13, l14, l15, l16, l17, l18, l19, l20, l21, l22, l23, l24] [] (lw h p N C, r) = some (.inl none, (lw h p N C', r))
section
variable {h : aHf} {r : Nat × Nat × Nat × Nat} {p N : Nat}
theorem sr_call {m d b lo hi : Nat} {C : Nat → Nat} (ih : SR N p m) (hm : hi - lo ≤ m) (hh : lo ≤ hi ∧ hi ≤ N) (hb : 0 < b ∧ b ≤ 391 ∧ 420 ≤ 6 * d + b) (hs : ∃ slo, lo = slo + 1 ∧ snt slo hi C) (hC : ∀ j, bd (C j)) : ∃ C', prm lo hi C C' ∧ sor C' lo hi ∧ aE (d + 1) 279 [.null, .ref p, .int (iI b), .int (iI lo), .int (iI hi)] (lw h p N C, r) = some (.inl none, (lw h p N C', r)) := by
  obtain ⟨C', p1, s1, hl⟩ := ih d b lo hi C h r hm hh hb (fun _ => hs) hC none none none none none none none none none none none none none none none none none none none none
  exact ⟨C', p1, s1, by rw [e279, hl]⟩
theorem sr_91 {m d b lo e sz : Nat} {C : Nat → Nat} (ih : SR N p m) (hN : N ≤ 2000) (hm : e + 1 - lo ≤ m + 1) (hz : sz + lo = e + 1 ∧ 44 ≤ sz) (hh : e + 1 ≤ N) (hb : b ≤ 391 ∧ 420 ≤ 6 * d + b) (hs : b % 2 = 1 → ∃ slo, lo = slo + 1 ∧ snt slo (e + 1) C) (hC : ∀ j, bd (C j)) :
    ∀ l7 l8 l9 l10 l11 l12 l13 l14 l15 l16 l17 l18 l19 l20 l21 l22 l23 l24 : Option Value, ∃ C', prm lo (e + 1) C C' ∧ sor C' lo (e + 1) ∧ L d 279 91 [some .null, some (.ref p), some (.int (iI b)), some (.int (iI lo)), some (.int (iI (e + 1 : Nat))), some (.int (iI e)), some (.int (iI sz)), l7, l8, l9, l10, l11, l12, l13, l14, l15, l16, l17, l18, l19, l20, l21, l22, l23, l24] [] (lw h p N C, r) = some (.inl none, (lw h p N C', r)) := by
  intro l7 l8 l9 l10 l11 l12 l13 l14 l15 l16 l17 l18 l19 l20 l21 l22 l23 l24
  have f0 : (b : Int) + 6 = ((b + 6 : Nat) : Int) := by omega
  by_cases q0 : b + 6 ≤ 384
  · obtain ⟨d, rfl⟩ : ∃ d', d = d' + 1 := ⟨d - 1, by omega⟩
    have c0 : ((b + 6 : Nat) : Int) ≤ 384 := by omega
    obtain ⟨st, hst⟩ : ∃ st, st = sz / 8 * 3 + 3 := ⟨_, rfl⟩
    obtain ⟨e1, he1⟩ : ∃ e1, e1 = lo + st := ⟨_, rfl⟩
    obtain ⟨e5, he5⟩ : ∃ e5, e5 = e - st := ⟨_, rfl⟩
    obtain ⟨e3, he3⟩ : ∃ e3, e3 = (e1 + e5) / 2 := ⟨_, rfl⟩
    obtain ⟨e2, he2⟩ : ∃ e2, e2 = (e1 + e3) / 2 := ⟨_, rfl⟩
    obtain ⟨e4, he4⟩ : ∃ e4, e4 = (e3 + e5) / 2 := ⟨_, rfl⟩
    have gp : e1 + 5 ≤ e5 := by omega
    have gg : lo < e1 ∧ e1 < e2 ∧ e2 < e3 ∧ e3 < e4 ∧ e4 < e5 ∧ e5 < e := by omega
    have f1 : ((sz / 8 : Nat) : Int) * 3 + 3 = (st : Int) := by omega
    have f2 : (lo : Int) + st = (e1 : Int) := by omega
    have f3 : (e : Int) - st = (e5 : Int) := by omega
    have f4 : (e1 : Int) + e5 = ((e1 + e5 : Nat) : Int) := by omega
    have f5 : (e1 : Int) + e3 = ((e1 + e3 : Nat) : Int) := by omega
    have f6 : (e3 : Int) + e5 = ((e3 + e5 : Nat) : Int) := by omega
    have k0 : L (d + 1) 279 91 [some .null, some (.ref p), some (.int (iI b)), some (.int (iI lo)), some (.int (iI (e + 1 : Nat))), some (.int (iI e)), some (.int (iI sz)), l7, l8, l9, l10, l11, l12, l13, l14, l15, l16, l17, l18, l19, l20, l21, l22, l23, l24] [] (lw h p N C, r) = L (d + 1) 279 165 [some .null, some (.ref p), some (.int (iI (b + 6 : Nat))), some (.int (iI lo)), some (.int (iI (e + 1 : Nat))), some (.int (iI e)), some (.int (iI sz)), some (.int (iI st)), some (.int (iI e1)), some (.int (iI e5)), some (.int (iI e3)), some (.int (iI e2)), some (.int (iI e4)), some (.long (lI (C e3))), none, l15, l16, l17, l18, l19, l20, l21, l22, l23, l24] [] (lw h p N C, r) := by
      simp (disch := omega) only [r279_91, r279_94, r279_95, r279_98, r279_101, r279_101n, r279_102, r279_103, r279_105, r279_108, r279_109, r279_111, r279_112, r279_113, r279_114, r279_115, r279_116, r279_117, r279_119, r279_120, r279_122, r279_123, r279_125, r279_127, r279_129, r279_130, r279_132, r279_134, r279_136, r279_137, r279_138, r279_139, r279_141, r279_143, r279_145, r279_146, r279_147, r279_148, r279_150, r279_152, r279_154, r279_155, r279_156, r279_157, r279_159, r279_159n, r279_160, r279_162, r279_163, iI_add, f0, iI_le, c0, shr3, iI_mul, f1, f2, iI_sub, f3, f4, ushr1, ← he3, f5, ← he2, f6, ← he4, lw_g, kl_n, kl_i, kl_r, kl_z, kl_l, kl_d, catS_0, catS_c, cat_i, cat_l, cat_d, cat_r, cat_n, kC_r, kC_x, Option.bind_some, Option.toList_some, Option.toList_none, List.cons_append, List.nil_append, gB0, gB1, gB2, gB3, gB4, rvB, nI_iI, i0, i1, l0_, wr_s, aup_s, and_true, true_and, and_self, eq_self, if_true, if_false, Nat.zero_le, Nat.reduceAdd, Nat.reduceLeDiff, gN_I, gN_L, gN_P, bI_0, bI_ok, z0, z1, Bool.true_eq, Bool.false_eq_true, not_true_eq_false, not_false_eq_true]
    obtain ⟨C1, v15, v16, p1, k1⟩ := nw_all (d := d + 1) (h := h) (r := r) (p := p) (b := b + 6) (lo := lo) (hi := e + 1) (e := e) (sz := sz) (l15 := l15) (l16 := l16) (e1 := e1) (e2 := e2) (e3 := e3) (e4 := e4) (e5 := e5) (C := C) hN hh (by omega) hC
    have hC1 := prm_bd p1 hC
    have ob := odd_1 (b + 6)
    have or1' := or1 (b := b + 6) (by omega)
    rcases ts_446 (d := d + 1) (h := h) (r := r) (p := p) (b := b + 6) (lo := lo) (hi := e + 1) (e := e) (sz := sz) (e1 := e1) (e2 := e2) (e3 := e3) (e4 := e4) (e5 := e5) (C := C1) hN hh (by omega) hC1 with ⟨hq, k2⟩ | k2
    · obtain ⟨E, l, u, z21, z22, v23, v24, gl, p2, g1, g2, g3, g4, g5, k3⟩ := du_501 (d := d + 1) (h := h) (r := r) (p := p) (b := b + 6) (lo := lo) (hi := e + 1) (e := e) (sz := sz) (l7 := some (.int (iI st))) (l13 := some (.long (lI (C e3)))) (l17 := l17) (l18 := l18) (l19 := l19) (l20 := l20) (l21 := l21) (l22 := l22) (l23 := l23) (l24 := l24) (e1 := e1) (e2 := e2) (e3 := e3) (e4 := e4) (e5 := e5) (C := C1) hN ⟨rfl, hh⟩ (by omega) gg hC1 hq
      have hxy : C1 e1 ≤ C1 e5 := by omega
      have hE := prm_bd p2 hC1
      obtain ⟨E2, p3, s3, k4⟩ := sr_call (h := h) (r := r) (d := d) (b := odd (b + 6)) (lo := l + 1) (hi := u) (C := E) ih (by omega) (by omega) (by omega) ⟨l, rfl, fun j h1 h2 => by
        by_cases z : j = l
        · rw [z]
          exact Nat.le_refl _
        · rw [g2]
          exact (g3 j (by omega) h2).1⟩ hE
      have hE2 := prm_bd p3 hE
      obtain ⟨E3, p4, s4, k5⟩ := sr_call (h := h) (r := r) (d := d) (b := odd (b + 6)) (lo := u + 1) (hi := e + 1) (C := E2) ih (by omega) (by omega) (by omega) ⟨u, rfl, fun j h1 h2 => by
        rw [p3.1 u (by omega), p3.1 j (by omega), g4]
        by_cases z : j = u
        · rw [z, g4]
          exact Nat.le_refl _
        · exact g5 j (by omega) h2⟩ hE2
      have hE3 := prm_bd p4 hE2
      have pA : prm lo (e + 1) C E3 := prm_t p1 (prm_t p2 (prm_t (prm_m p3 (by omega) (by omega)) (prm_m p4 (by omega) (Nat.le_refl _))))
      obtain ⟨E4, p5, s5, k6⟩ := ih (d + 1) (b + 6) lo l E3 h r (by omega) (by omega) (by omega) (fun z => by
        obtain ⟨slo, z1, z2⟩ := hs (by omega)
        refine ⟨slo, z1, ?_⟩
        rw [z1] at pA
        have z3 := snt_p z2 pA
        exact fun j h1 h2 => z3 j h1 (by omega)) hE3 (some (.int (iI e))) (some (.int (iI sz))) (some (.int (iI st))) (some (.int (iI e1))) (some (.int (iI e5))) (some (.int (iI e3))) (some (.int (iI e2))) (some (.int (iI e4))) (some (.long (lI (C e3)))) none (some (.int (iI l))) (some (.int (iI u))) (some (.long (lI (C1 e1)))) none (some (.long (lI (C1 e5)))) none (some (.int z21)) (some (.int z22)) v23 v24
      have o3 : ∀ i, i < l + 1 ∨ u ≤ i → E2 i = E i := p3.1
      have o4 : ∀ i, i < u + 1 ∨ e + 1 ≤ i → E3 i = E2 i := p4.1
      have o5 : ∀ i, i < lo ∨ l ≤ i → E4 i = E3 i := p5.1
      refine ⟨E4, prm_t pA (prm_m p5 (Nat.le_refl _) (by omega)), sor_p5 (l := l) (u := u) (x := C1 e1) (y := C1 e5) (by omega) hxy ?_ ?_ ?_ ?_ ?_ s5 ?_ ?_, ?_⟩
      · exact prm_all p5 (P := fun z => z ≤ C1 e1) (fun i h1 h2 => by
          show E3 i ≤ C1 e1
          rw [o4 i (by omega), o3 i (by omega)]
          exact g1 i h1 h2)
      · rw [o5 l (by omega), o4 l (by omega), o3 l (by omega), g2]
      · intro i h1 h2
        rw [o5 i (by omega), o4 i (by omega)]
        exact prm_all p3 (P := fun z => C1 e1 ≤ z ∧ z ≤ C1 e5) (fun i h1 h2 => g3 i (by omega) h2) i (by omega) h2
      · rw [o5 u (by omega), o4 u (by omega), o3 u (by omega), g4]
      · intro i h1 h2
        rw [o5 i (by omega)]
        exact prm_all p4 (P := fun z => C1 e5 ≤ z) (fun i h1 h2 => by
          show C1 e5 ≤ E2 i
          rw [o3 i (by omega)]
          exact g5 i (by omega) h2) i (by omega) h2
      · exact sor_e s3 (fun i h1 h2 => by rw [o5 i (by omega), o4 i (by omega)])
      · exact sor_e s4 (fun i h1 h2 => by rw [o5 i (by omega)])
      · rw [k0, k1, k2, k3]
        have n1 : (l : Int) + 1 = ((l + 1 : Nat) : Int) := by omega
        have n2 : (u : Int) + 1 = ((u + 1 : Nat) : Int) := by omega
        simp (disch := omega) only [r279_764, r279_764n, r279_765, r279_765n, r279_766, r279_767, r279_768, r279_769, r279_771, r279_772, r279_773, r279_775, r279_778, r279_778n, r279_779, r279_779n, r279_780, r279_781, r279_782, r279_783, r279_785, r279_786, r279_787, r279_789, r279_792, or1', iI_add, n1, n2, k4, k5, kl_n, kl_i, kl_r, kl_z, kl_l, kl_d, catS_0, catS_c, cat_i, cat_l, cat_d, cat_r, cat_n, kC_r, kC_x, Option.bind_some, Option.toList_some, Option.toList_none, List.cons_append, List.nil_append, gB0, gB1, gB2, gB3, gB4, rvB, nI_iI, i0, i1, l0_, wr_s, aup_s, and_true, true_and, and_self, eq_self, if_true, if_false, Nat.zero_le, Nat.reduceAdd, Nat.reduceLeDiff, gN_I, gN_L, gN_P, bI_0, bI_ok, z0, z1, Bool.true_eq, Bool.false_eq_true, not_true_eq_false, not_false_eq_true]
        simp (disch := omega) only [r279_963, r279_965, r279_967, k6, kl_n, kl_i, kl_r, kl_z, kl_l, kl_d, catS_0, catS_c, cat_i, cat_l, cat_d, cat_r, cat_n, kC_r, kC_x, Option.bind_some, Option.toList_some, Option.toList_none, List.cons_append, List.nil_append, gB0, gB1, gB2, gB3, gB4, rvB, nI_iI, i0, i1, l0_, wr_s, aup_s, and_true, true_and, and_self, eq_self, if_true, if_false, Nat.zero_le, Nat.reduceAdd, Nat.reduceLeDiff, gN_I, gN_L, gN_P, bI_0, bI_ok, z0, z1, Bool.true_eq, Bool.false_eq_true, not_true_eq_false, not_false_eq_true]
    · obtain ⟨E, l, u, z19, v20, v21, gl, p2, g1, g2, g5, k3⟩ := sg_795 (d := d + 1) (h := h) (r := r) (p := p) (b := b + 6) (lo := lo) (hi := e + 1) (e := e) (sz := sz) (l7 := some (.int (iI st))) (l13 := some (.long (lI (C e3)))) (l17 := l17) (l18 := l18) (l19 := l19) (l20 := l20) (l21 := l21) (l22 := l22) (l23 := l23) (l24 := l24) (e1 := e1) (e2 := e2) (e3 := e3) (e4 := e4) (e5 := e5) (C := C1) hN ⟨rfl, hh⟩ (by omega) (by omega) hC1
      have hE := prm_bd p2 hC1
      obtain ⟨w, rfl⟩ : ∃ w, u = w + 1 := ⟨u - 1, by omega⟩
      obtain ⟨E3, p4, s4, k5⟩ := sr_call (h := h) (r := r) (d := d) (b := odd (b + 6)) (lo := w + 1) (hi := e + 1) (C := E) ih (by omega) (by omega) (by omega) ⟨w, rfl, fun j h1 h2 => by
        rw [g2 w (by omega) (by omega)]
        by_cases z : j = w
        · rw [z, g2 w (by omega) (by omega)]
          exact Nat.le_refl _
        · exact g5 j (by omega) h2⟩ hE
      have hE3 := prm_bd p4 hE
      have pA : prm lo (e + 1) C E3 := prm_t p1 (prm_t p2 (prm_m p4 (by omega) (Nat.le_refl _)))
      obtain ⟨E4, p5, s5, k6⟩ := ih (d + 1) (b + 6) lo l E3 h r (by omega) (by omega) (by omega) (fun z => by
        obtain ⟨slo, z1, z2⟩ := hs (by omega)
        refine ⟨slo, z1, ?_⟩
        rw [z1] at pA
        have z3 := snt_p z2 pA
        exact fun j h1 h2 => z3 j h1 (by omega)) hE3 (some (.int (iI e))) (some (.int (iI sz))) (some (.int (iI st))) (some (.int (iI e1))) (some (.int (iI e5))) (some (.int (iI e3))) (some (.int (iI e2))) (some (.int (iI e4))) (some (.long (lI (C e3)))) none (some (.int (iI l))) (some (.int (iI (w + 1 : Nat)))) (some (.long (lI (C1 e3)))) none (some (.int z19)) v20 v21 l22 l23 l24
      have o4 : ∀ i, i < w + 1 ∨ e + 1 ≤ i → E3 i = E i := p4.1
      have o5 : ∀ i, i < lo ∨ l ≤ i → E4 i = E3 i := p5.1
      have t1 : ∀ i, lo ≤ i → i < l → E4 i ≤ C1 e3 := prm_all p5 (P := fun z => z ≤ C1 e3) (fun i h1 h2 => by
          show E3 i ≤ C1 e3
          rw [o4 i (by omega)]
          exact g1 i h1 h2)
      have t2 : ∀ i, l ≤ i → i < w + 1 → E4 i = C1 e3 := fun i h1 h2 => by rw [o5 i (by omega), o4 i (by omega), g2 i h1 h2]
      have t3 : ∀ i, w + 1 ≤ i → i < e + 1 → C1 e3 ≤ E4 i := fun i h1 h2 => by
        rw [o5 i (by omega)]
        exact prm_all p4 (P := fun z => C1 e3 ≤ z) (fun i h1 h2 => g5 i (by omega) h2) i (by omega) h2
      refine ⟨E4, prm_t pA (prm_m p5 (Nat.le_refl _) (by omega)), sor_2 s5 (sor_2 (b := w + 1) (fun i j h1 h2 h3 => by rw [t2 i h1 (by omega), t2 j (by omega) h3]; exact Nat.le_refl _) (sor_e s4 (fun i h1 h2 => by rw [o5 i (by omega)])) (fun i j h1 h2 h3 h4 => by rw [t2 i h1 h2]; exact t3 j h3 h4)) (fun i j h1 h2 h3 h4 => ?_), ?_⟩
      · by_cases z : j < w + 1
        · rw [t2 j h3 z]
          exact t1 i h1 h2
        · exact Nat.le_trans (t1 i h1 h2) (t3 j (by omega) h4)
      · rw [k0, k1, k2, k3]
        simp (disch := omega) only [r279_951, r279_951n, r279_952, r279_952n, r279_953, r279_954, r279_955, r279_956, r279_958, r279_960, r279_963, r279_965, r279_967, or1', k5, k6, kl_n, kl_i, kl_r, kl_z, kl_l, kl_d, catS_0, catS_c, cat_i, cat_l, cat_d, cat_r, cat_n, kC_r, kC_x, Option.bind_some, Option.toList_some, Option.toList_none, List.cons_append, List.nil_append, gB0, gB1, gB2, gB3, gB4, rvB, nI_iI, i0, i1, l0_, wr_s, aup_s, and_true, true_and, and_self, eq_self, if_true, if_false, Nat.zero_le, Nat.reduceAdd, Nat.reduceLeDiff, gN_I, gN_L, gN_P, bI_0, bI_ok, z0, z1, Bool.true_eq, Bool.false_eq_true, not_true_eq_false, not_false_eq_true]
  · obtain ⟨d, rfl⟩ : ∃ d', d = d' + 2 := ⟨d - 2, by omega⟩
    have c0 : ¬ ((b + 6 : Nat) : Int) ≤ 384 := by omega
    obtain ⟨C', p1, s1, hl⟩ := s_heapSort (d := d) (h := h) (r := r) (p := p) (lo := lo) (hi := e + 1) (C := C) hN (by omega) hC
    refine ⟨C', p1, s1, ?_⟩
    simp (disch := omega) only [r279_91, r279_94, r279_95, r279_98, r279_101, r279_101n, r279_102, r279_103, r279_105, r279_108, iI_add, f0, iI_le, c0, hl, kl_n, kl_i, kl_r, kl_z, kl_l, kl_d, catS_0, catS_c, cat_i, cat_l, cat_d, cat_r, cat_n, kC_r, kC_x, Option.bind_some, Option.toList_some, Option.toList_none, List.cons_append, List.nil_append, gB0, gB1, gB2, gB3, gB4, rvB, nI_iI, i0, i1, l0_, wr_s, aup_s, and_true, true_and, and_self, eq_self, if_true, if_false, Nat.zero_le, Nat.reduceAdd, Nat.reduceLeDiff, gN_I, gN_L, gN_P, bI_0, bI_ok, z0, z1, Bool.true_eq, Bool.false_eq_true, not_true_eq_false, not_false_eq_true]
theorem sr_all (hN : N ≤ 2000) : ∀ m, SR N p m := by
  have small : ∀ (d b lo hi : Nat) (C : Nat → Nat) (h : aHf) (r : Nat × Nat × Nat × Nat), (lo ≤ hi ∧ hi ≤ N) → (0 < b ∧ b ≤ 391 ∧ 420 ≤ 6 * d + b) → (b % 2 = 1 → ∃ slo, lo = slo + 1 ∧ snt slo hi C) → (∀ j, bd (C j)) → ∀ l5 l6 l7 l8 l9 l10 l11 l12 l13 l14 l15 l16 l17 l18 l19 l20 l21 l22 l23 l24 : Option Value,
      (∃ C', prm lo hi C C' ∧ sor C' lo hi ∧ L d 279 0 [some .null, some (.ref p), some (.int (iI b)), some (.int (iI lo)), some (.int (iI hi)), l5, l6, l7, l8, l9, l10, l11, l12, l13, l14, l15, l16, l17, l18, l19, l20, l21, l22, l23, l24] [] (lw h p N C, r) = some (.inl none, (lw h p N C', r))) ∨
      (44 ≤ hi - lo ∧ L d 279 0 [some .null, some (.ref p), some (.int (iI b)), some (.int (iI lo)), some (.int (iI hi)), l5, l6, l7, l8, l9, l10, l11, l12, l13, l14, l15, l16, l17, l18, l19, l20, l21, l22, l23, l24] [] (lw h p N C, r) = L d 279 91 [some .null, some (.ref p), some (.int (iI b)), some (.int (iI lo)), some (.int (iI hi)), some (.int (iI (hi - 1 : Nat))), some (.int (iI (hi - lo : Nat))), l7, l8, l9, l10, l11, l12, l13, l14, l15, l16, l17, l18, l19, l20, l21, l22, l23, l24] [] (lw h p N C, r)) := by
    intro d b lo hi C h r hh hb hs hC l5 l6 l7 l8 l9 l10 l11 l12 l13 l14 l15 l16 l17 l18 l19 l20 l21 l22 l23 l24
    obtain ⟨d, rfl⟩ : ∃ d', d = d' + 1 := ⟨d - 1, by omega⟩
    have f1 : (hi : Int) - lo = ((hi - lo : Nat) : Int) := by omega
    have f2 : 65 + (b : Int) = ((65 + b : Nat) : Int) := by omega
    have f4 : ((b % 2 : Nat) : Int) = (b : Int) % 2 := by omega
    by_cases q1 : hi - lo < 65 + b ∧ b % 2 = 1
    · obtain ⟨slo, z1, z2⟩ := hs q1.2
      subst z1
      have c1 : ¬ ((65 + b : Nat) : Int) ≤ ((hi - (slo + 1) : Nat) : Int) := by omega
      have c2 : ¬ (b : Int) % 2 ≤ 0 := by omega
      obtain ⟨C', p1, s1, hl⟩ := s_mixed (d := d) (h := h) (r := r) (p := p) (slo := slo) (e := hi - 24 * ((hi - (slo + 1)) / 32)) (hi := hi) (C := C) hN (by omega) (by omega) hC z2
      have f3 : (hi : Int) - 3 * (((hi - (slo + 1)) / 32 : Nat) * 8 : Int) = ((hi - 24 * ((hi - (slo + 1)) / 32) : Nat) : Int) := by omega
      refine Or.inl ⟨C', p1, sor_m s1 (Nat.le_succ _) (Nat.le_refl _), ?_⟩
      rw [r279_0]
      by_cases g1 : hi = 0
      · omega
      · simp (disch := omega) only [r279_2, r279_3, r279_4, r279_6, r279_8, r279_9, r279_10, r279_12, r279_14, r279_16, r279_17, r279_18, r279_21, r279_22, r279_23, r279_24, r279_27, r279_27n, r279_28, r279_29, r279_31, r279_32, r279_34, r279_35, r279_36, r279_37, r279_38, r279_39, r279_40, r279_42, r279_45, iI_sub, f1, iI_add, f2, iI_le, c1, and1, c2, shr5, ishl3, iI_mul, f3, hl, kl_n, kl_i, kl_r, kl_z, kl_l, kl_d, catS_0, catS_c, cat_i, cat_l, cat_d, cat_r, cat_n, kC_r, kC_x, Option.bind_some, Option.toList_some, Option.toList_none, List.cons_append, List.nil_append, gB0, gB1, gB2, gB3, gB4, rvB, nI_iI, i0, i1, l0_, wr_s, aup_s, and_true, true_and, and_self, eq_self, if_true, if_false, Nat.zero_le, Nat.reduceAdd, Nat.reduceLeDiff, gN_I, gN_L, gN_P, bI_0, bI_ok, z0, z1, Bool.true_eq, Bool.false_eq_true, not_true_eq_false, not_false_eq_true]
    · have k46 : L (d + 1) 279 0 [some .null, some (.ref p), some (.int (iI b)), some (.int (iI lo)), some (.int (iI hi)), l5, l6, l7, l8, l9, l10, l11, l12, l13, l14, l15, l16, l17, l18, l19, l20, l21, l22, l23, l24] [] (lw h p N C, r) = L (d + 1) 279 46 [some .null, some (.ref p), some (.int (iI b)), some (.int (iI lo)), some (.int (iI hi)), some (.int (iI ((hi : Int) - 1))), some (.int (iI (hi - lo : Nat))), l7, l8, l9, l10, l11, l12, l13, l14, l15, l16, l17, l18, l19, l20, l21, l22, l23, l24] [] (lw h p N C, r) := by
        rw [r279_0]
        by_cases g1 : 65 + b ≤ hi - lo
        · have c1 : ((65 + b : Nat) : Int) ≤ ((hi - lo : Nat) : Int) := by omega
          simp (disch := omega) only [r279_2, r279_3, r279_4, r279_6, r279_8, r279_9, r279_10, r279_12, r279_14, r279_16, r279_17, r279_18, r279_21, r279_22, r279_23, r279_24, r279_27, r279_27n, r279_28, r279_29, r279_31, r279_32, r279_34, r279_35, r279_36, r279_37, r279_38, r279_39, r279_40, r279_42, r279_45, iI_sub, f1, iI_add, f2, iI_le, c1, kl_n, kl_i, kl_r, kl_z, kl_l, kl_d, catS_0, catS_c, cat_i, cat_l, cat_d, cat_r, cat_n, kC_r, kC_x, Option.bind_some, Option.toList_some, Option.toList_none, List.cons_append, List.nil_append, gB0, gB1, gB2, gB3, gB4, rvB, nI_iI, i0, i1, l0_, wr_s, aup_s, and_true, true_and, and_self, eq_self, if_true, if_false, Nat.zero_le, Nat.reduceAdd, Nat.reduceLeDiff, gN_I, gN_L, gN_P, bI_0, bI_ok, z0, z1, Bool.true_eq, Bool.false_eq_true, not_true_eq_false, not_false_eq_true]
        · have c1 : ¬ ((65 + b : Nat) : Int) ≤ ((hi - lo : Nat) : Int) := by omega
          have c2 : (b : Int) % 2 ≤ 0 := by omega
          simp (disch := omega) only [r279_2, r279_3, r279_4, r279_6, r279_8, r279_9, r279_10, r279_12, r279_14, r279_16, r279_17, r279_18, r279_21, r279_22, r279_23, r279_24, r279_27, r279_27n, r279_28, r279_29, r279_31, r279_32, r279_34, r279_35, r279_36, r279_37, r279_38, r279_39, r279_40, r279_42, r279_45, iI_sub, f1, iI_add, f2, iI_le, c1, and1, c2, kl_n, kl_i, kl_r, kl_z, kl_l, kl_d, catS_0, catS_c, cat_i, cat_l, cat_d, cat_r, cat_n, kC_r, kC_x, Option.bind_some, Option.toList_some, Option.toList_none, List.cons_append, List.nil_append, gB0, gB1, gB2, gB3, gB4, rvB, nI_iI, i0, i1, l0_, wr_s, aup_s, and_true, true_and, and_self, eq_self, if_true, if_false, Nat.zero_le, Nat.reduceAdd, Nat.reduceLeDiff, gN_I, gN_L, gN_P, bI_0, bI_ok, z0, z1, Bool.true_eq, Bool.false_eq_true, not_true_eq_false, not_false_eq_true]
      by_cases q2 : hi - lo < 44
      · have c3 : ¬ (44 : Int) ≤ ((hi - lo : Nat) : Int) := by omega
        obtain ⟨C', p1, s1, hl⟩ := s_isort (d := d) (h := h) (r := r) (p := p) (lo := lo) (hi := hi) (C := C) hN hh hC
        refine Or.inl ⟨C', p1, s1, ?_⟩
        rw [k46]
        simp (disch := omega) only [r279_46, r279_48, r279_50, r279_53, r279_53n, r279_54, r279_55, r279_57, r279_60, iI_le, c3, hl, kl_n, kl_i, kl_r, kl_z, kl_l, kl_d, catS_0, catS_c, cat_i, cat_l, cat_d, cat_r, cat_n, kC_r, kC_x, Option.bind_some, Option.toList_some, Option.toList_none, List.cons_append, List.nil_append, gB0, gB1, gB2, gB3, gB4, rvB, nI_iI, i0, i1, l0_, wr_s, aup_s, and_true, true_and, and_self, eq_self, if_true, if_false, Nat.zero_le, Nat.reduceAdd, Nat.reduceLeDiff, gN_I, gN_L, gN_P, bI_0, bI_ok, z0, z1, Bool.true_eq, Bool.false_eq_true, not_true_eq_false, not_false_eq_true]
      · have c3 : (44 : Int) ≤ ((hi - lo : Nat) : Int) := by omega
        have c4 : ¬ (b : Int) = 0 := by omega
        have c5 : ((hi - lo : Nat) : Int) ≤ 4096 := by omega
        have f5 : (hi : Int) - 1 = ((hi - 1 : Nat) : Int) := by omega
        refine Or.inr ⟨by omega, ?_⟩
        rw [k46]
        simp (disch := omega) only [r279_46, r279_48, r279_50, r279_53, r279_53n, r279_54, r279_55, r279_57, r279_60, r279_61, r279_62, r279_65, r279_67, r279_70, r279_73, r279_74, r279_75, r279_76, r279_79, r279_79n, r279_80, r279_80n, r279_81, r279_82, r279_84, r279_87, r279_90, iI_le, c3, iI_eq, c4, c5, f5, kl_n, kl_i, kl_r, kl_z, kl_l, kl_d, catS_0, catS_c, cat_i, cat_l, cat_d, cat_r, cat_n, kC_r, kC_x, Option.bind_some, Option.toList_some, Option.toList_none, List.cons_append, List.nil_append, gB0, gB1, gB2, gB3, gB4, rvB, nI_iI, i0, i1, l0_, wr_s, aup_s, and_true, true_and, and_self, eq_self, if_true, if_false, Nat.zero_le, Nat.reduceAdd, Nat.reduceLeDiff, gN_I, gN_L, gN_P, bI_0, bI_ok, z0, z1, Bool.true_eq, Bool.false_eq_true, not_true_eq_false, not_false_eq_true]
  intro m
  induction m with
  | zero =>
    intro d b lo hi C h r hm hh hb hs hC l5 l6 l7 l8 l9 l10 l11 l12 l13 l14 l15 l16 l17 l18 l19 l20 l21 l22 l23 l24
    rcases small d b lo hi C h r hh hb hs hC l5 l6 l7 l8 l9 l10 l11 l12 l13 l14 l15 l16 l17 l18 l19 l20 l21 l22 l23 l24 with k | ⟨k, -⟩
    · exact k
    · omega
  | succ m ih =>
    intro d b lo hi C h r hm hh hb hs hC l5 l6 l7 l8 l9 l10 l11 l12 l13 l14 l15 l16 l17 l18 l19 l20 l21 l22 l23 l24
    rcases small d b lo hi C h r hh hb hs hC l5 l6 l7 l8 l9 l10 l11 l12 l13 l14 l15 l16 l17 l18 l19 l20 l21 l22 l23 l24 with k | ⟨k, k2⟩
    · exact k
    · have he : ∃ e, hi = e + 1 := ⟨hi - 1, by omega⟩
      obtain ⟨e, he⟩ := he
      subst he
      have z1 : e + 1 - lo + lo = e + 1 ∧ 44 ≤ e + 1 - lo := by
        clear hs
        omega
      have z2 : b ≤ 391 ∧ 420 ≤ 6 * d + b := hb.2
      obtain ⟨C', p1, s1, hl⟩ := sr_91 (h := h) (r := r) (d := d) (b := b) (lo := lo) (e := e) (sz := e + 1 - lo) (C := C) ih hN hm z1 hh.2 z2 hs hC l7 l8 l9 l10 l11 l12 l13 l14 l15 l16 l17 l18 l19 l20 l21 l22 l23 l24
      exact ⟨C', p1, s1, by rw [k2]; exact hl⟩
end
