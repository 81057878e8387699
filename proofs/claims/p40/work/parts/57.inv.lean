/-! ===== what holds of a desk between calls ===== -/
theorem lk_sym {S T : Sg} (h : lkS S T) : lkS T S := by
  have n1 := lk_n h
  have t1 := lk_t h
  have p1 := lk_p h
  have m1 := lk_m h
  obtain ⟨⟨c1, -⟩, -, ⟨c2, -⟩, ⟨c3, -⟩, l1, l2, l3⟩ := h
  refine ⟨⟨c1.symm, (alR_0 _ _).mpr fun i hi => beq_iff_eq.mpr (n1 i (by omega))⟩, (alR_0 _ _).mpr fun i hi => ?_, ⟨c2.symm, (alR_0 _ _).mpr fun i hi => ?_⟩, ⟨c3.symm, (alR_0 _ _).mpr fun i hi => ?_⟩, l1.symm, l2.symm, l3.symm⟩
  · unfold ts1
    rw [Bool.and_eq_true, Bool.and_eq_true, beq_iff_eq, beq_iff_eq, beq_iff_eq]
    exact t1 i hi
  · unfold mk1
    rw [Bool.and_eq_true, Bool.and_eq_true, beq_iff_eq, beq_iff_eq, beq_iff_eq]
    exact p1 i (by omega)
  · unfold mk1
    rw [Bool.and_eq_true, Bool.and_eq_true, beq_iff_eq, beq_iff_eq, beq_iff_eq]
    exact m1 i (by omega)
def hsG (V : Hs) : Prop := hsOk V ∧ (∀ i, i < 21 → sgG (V.2.2.2 i)) ∧ V.2.1 + V.2.2.1 ≤ 20
def cbG (e : NLv) : Prop := e.1 ≤ 60 ∧ (∀ i, cOk (e.2 i)) ∧ alN ntV e.2 e.1
def rnG (V : Rn) : Prop := V.1 ≤ 960 ∧ (∀ i, vOk (V.2.1 i)) ∧ ∀ i, vOk (V.2.2 i)
/-- between calls -/
def Inv (W : Dk) : Prop := sgG W.1 ∧ hsG W.2.1 ∧ (W.2.2.2.2 = false → lkS (W.2.1.2.2.2 W.2.1.1) W.1) ∧ cbG W.2.2.1 ∧ rnG W.2.2.2.1
theorem Inv_ok {W : Dk} (h : Inv W) : dkOk W := ⟨h.1.1, h.2.1.1, h.2.2.2.1.1, h.2.2.2.1.2.1, h.2.2.2.2.1⟩
theorem Inv_rn {W : Dk} (h : Inv W) : rn2 W := h.2.2.2.2.2
theorem Inv_V {W : Dk} {V : Rn} (h : Inv W) (hV : rnG V) : Inv (W.1, W.2.1, W.2.2.1, V, W.2.2.2.2) := ⟨h.1, h.2.1, h.2.2.1, h.2.2.2.1, hV⟩
theorem se_1 {V : Dk} : (seW V).1 = V.1 := by
  unfold seW
  split
  · rfl
  · rfl
theorem Inv_se {S : Sg} {H : Hs} {C : NLv} {R : Rn} {b : Bool} (gS : sgG S) (hH : hsG H) (hC : cbG C) (hR : rnG R) : Inv (seW (S, H, C, R, b)) := by
  unfold seW
  show Inv (if b = true ∨ lkS (H.2.2.2 H.1) S then (S, H, C, R, b) else kpW (S, H, C, R, b))
  by_cases q : b = true ∨ lkS (H.2.2.2 H.1) S
  · rw [if_pos q]
    refine ⟨gS, hH, fun z => ?_, hC, hR⟩
    rcases q with q | q
    · have z : b = false := z
      rw [q] at z
      exact Bool.noConfusion z
    · exact q
  · rw [if_neg q]
    obtain ⟨⟨h1, h2, h3, h4⟩, g1, hb⟩ := hH
    have gT := tkS_G (S := H.2.2.2 ((H.1 + 1) % 21)) (h4 _) gS
    refine ⟨gS, ⟨⟨by show (H.1 + 1) % 21 < 21; omega, by show min (H.2.1 + 1) 20 ≤ 20; omega, by show 0 ≤ 20; omega, fun i => ?_⟩, fun i hi => ?_, by show min (H.2.1 + 1) 20 + 0 ≤ 20; omega⟩, fun _ => ?_, hC, hR⟩
    · show sgOk (upS _ _ _ i)
      unfold upS
      split
      · exact gT.1
      · exact h4 i
    · show sgG (upS _ _ _ i)
      unfold upS
      split
      · exact gT
      · exact g1 i hi
    · show lkS (upS _ _ _ ((H.1 + 1) % 21)) S
      unfold upS
      rw [if_pos rfl]
      exact lk_sym (tkS_lk (sgG_c gS))
theorem Inv_ch {W : Dk} {S : Sg} (h : Inv W) (gS : sgG S) : Inv (seW (S, W.2)) := Inv_se (S := S) (H := W.2.1) (C := W.2.2.1) (R := W.2.2.2.1) (b := W.2.2.2.2) gS h.2.1 h.2.2.2.1 h.2.2.2.2
theorem Inv_st {W : Dk} {m b a : Nat} (h : Inv W) (hm : m < 21) (hab : b + a ≤ 20) : Inv (stW W m b a) := by
  have g := h.2.1.2.1 m hm
  exact ⟨tkS_G h.1.1 g, ⟨⟨hm, by show b ≤ 20; omega, by show a ≤ 20; omega, h.2.1.1.2.2.2⟩, h.2.1.2.1, hab⟩, fun _ => tkS_lk (sgG_c g), h.2.2.2.1, h.2.2.2.2⟩
theorem Inv_0 : Inv W0 := by
  refine ⟨S0_G, ⟨⟨by decide, by decide, by decide, fun i => S0_ok⟩, fun i hi => S0_G, by decide⟩, fun _ => ?_, ⟨by decide, fun i => ?_, fun i hi => absurd hi (Nat.not_lt_zero i)⟩, ⟨by decide, fun i => ?_, fun i => ?_⟩⟩
  · show lkS S0 S0
    exact ⟨⟨rfl, (alR_0 _ _).mpr fun i hi => beq_iff_eq.mpr rfl⟩, (alR_0 _ _).mpr fun i hi => (by unfold ts1; rw [Bool.and_eq_true, Bool.and_eq_true, beq_iff_eq, beq_iff_eq, beq_iff_eq]; exact ⟨rfl, rfl, rfl⟩), ⟨rfl, (alR_0 _ _).mpr fun i hi => (by unfold mk1; rw [Bool.and_eq_true, Bool.and_eq_true, beq_iff_eq, beq_iff_eq, beq_iff_eq]; exact ⟨rfl, rfl, rfl⟩)⟩, ⟨rfl, (alR_0 _ _).mpr fun i hi => (by unfold mk1; rw [Bool.and_eq_true, Bool.and_eq_true, beq_iff_eq, beq_iff_eq, beq_iff_eq]; exact ⟨rfl, rfl, rfl⟩)⟩, rfl, rfl, rfl⟩
  · show (0 : Nat) < 2199023255552
    omega
  · show (0 : Nat) < 1099511627776
    omega
  · show (0 : Nat) < 1099511627776
    omega
abbrev eIA : String := "java/lang/IllegalArgumentException"
abbrev eIS : String := "java/lang/IllegalStateException"
abbrev eIO : String := "java/lang/IndexOutOfBoundsException"
/-- a call answers; it throws and changes nothing -/
abbrev OkI (x : Nat) (g : Nat × Nat) (W W' : Dk) (v : Value) (C : aH → aR) : Prop := ∀ (h : aHf) (n w : Nat), C (dkW h x W, n, w, g) = some (.inl (some v), (dkW h x W', n, w, g))
abbrev OkX (x : Nat) (g : Nat × Nat) (W : Dk) (E : String) (C : aH → aR) : Prop := ∀ (h : aHf) (n w : Nat), C (dkW h x W, n, w, g) = some (.inr E, (dkW h x W, n + 1, w + 6, g))
/-! drawn to a grid -/
theorem ln_0 {s : Nat} {k : Int} : lnI s 0 k = k * s := by
  unfold lnI
  rw [Nat.mul_zero, Nat.zero_div]
  split <;> exact Int.add_zero _
def onL (a s : Nat) (e : Int × Int) : Prop := e.1 = a ∨ ∃ k : Nat, e.1 = ((k * s : Nat) : Int) ∧ k * s ≤ 9599
theorem nlS_on {a s : Nat} {k : Int} {e : Int × Int} (hs : 1 ≤ s) (h : onL a s e) : onL a s (nlS a s 0 k e) := by
  unfold nlS
  by_cases q : (0 ≤ lnI s 0 k ∧ lnI s 0 k ≤ 9599) ∧ ((lnI s 0 k - a).natAbs : Int) < e.2
  · rw [if_pos q]
    rw [ln_0] at q ⊢
    have hk : 0 ≤ k := by
      by_cases z : 0 ≤ k
      · exact z
      · have : k * (s : Int) < 0 := Int.mul_neg_of_neg_of_pos (by omega) (by omega)
        omega
    obtain ⟨j, rfl⟩ : ∃ j : Nat, k = j := ⟨k.toNat, by omega⟩
    refine Or.inr ⟨j, (Int.natCast_mul j s).symm, ?_⟩
    have := q.1.2
    rw [← Int.natCast_mul] at this
    omega
  · rw [if_neg q]
    exact h
theorem nlR_on {a s : Nat} (hs : 1 ≤ s) : ∀ (m : Nat) (k : Int) (e : Int × Int), onL a s e → onL a s (nlR a s 0 m k e)
  | 0, _, _, h => h
  | m + 1, k, e, h => nlR_on hs m (k + 1) _ (nlS_on hs h)
theorem nr_on {a s : Nat} (hs : 1 ≤ s) : nrI a s 0 = a ∨ ∃ k : Nat, nrI a s 0 = ((k * s : Nat) : Int) ∧ k * s ≤ 9599 := nlR_on hs 3 _ (a, 9600) (Or.inl rfl)
theorem nlS_2 {a s p : Nat} {k : Int} {e : Int × Int} (h : 0 < e.2) (hk : lnI s p k ≠ a) : 0 < (nlS a s p k e).2 := by
  unfold nlS
  split
  · show 0 < ((lnI s p k - a).natAbs : Int)
    omega
  · exact h
theorem nr_at {k s : Nat} (hs : 1 ≤ s) (hk : k * s ≤ 9599) : nrI (k * s) s 0 = ((k * s : Nat) : Int) := by
  unfold nrI
  rw [Nat.mul_div_cancel _ (show 0 < s by omega)]
  have e0 : lnI s 0 ((k : Int) - 1) ≠ ((k * s : Nat) : Int) := by
    rw [ln_0, Int.sub_mul, Int.one_mul, Int.natCast_mul]
    omega
  have e2 : lnI s 0 ((k : Int) - 1 + 1) = ((k * s : Nat) : Int) := by
    rw [ln_0, show (k : Int) - 1 + 1 = k by omega, Int.natCast_mul]
  have z1 := nlS_2 (a := k * s) (s := s) (p := 0) (k := (k : Int) - 1) (e := ((((k * s : Nat) : Int)), 9600)) (by show (0 : Int) < 9600; omega) e0
  show (nlS (k * s) s 0 ((k : Int) - 1 + 1 + 1) (nlS (k * s) s 0 ((k : Int) - 1 + 1) (nlS (k * s) s 0 ((k : Int) - 1) (((k * s : Nat) : Int), 9600)))).1 = _
  generalize nlS (k * s) s 0 ((k : Int) - 1) (((k * s : Nat) : Int), 9600) = E at *
  have y : nlS (k * s) s 0 ((k : Int) - 1 + 1) E = (((k * s : Nat) : Int), 0) := by
    unfold nlS
    rw [e2, if_pos ⟨⟨by omega, by omega⟩, by omega⟩]
    exact congrArg (Prod.mk _) (by omega)
  rw [y]
  unfold nlS
  rw [if_neg (fun z => by have := z.2; have q : ((k * s : Nat) : Int) = ((k * s : Nat) : Int) := rfl; dsimp only at this; omega)]
theorem dr_100 {a s : Nat} : drI a s 0 100 = nrI a s 0 := by
  unfold drI
  rw [show ((100 : Nat) : Int) = 100 from rfl, Int.mul_tdiv_cancel _ (by omega)]
  omega
/-- what is drawn lies where it would be drawn to -/
theorem dr_idem {a s : Nat} (hs : 1 ≤ s) (hm : drI a s 0 100 ≠ a) : drI (drI a s 0 100).toNat s 0 100 = ((drI a s 0 100).toNat : Int) := by
  rw [dr_100] at hm
  rw [dr_100, dr_100]
  rcases nr_on (a := a) hs with h | ⟨k, h, hk⟩
  · exact absurd h hm
  · rw [h, Int.toNat_natCast]
    exact nr_at hs hk
theorem qn_no {t v u : Int} {s c : Nat} (hs : 1 ≤ s) (hc : cOk c) (hv : ntV c) : qnM t v u s 0 100 (qnG t v u s 0 100 c) = false := by
  by_cases q : qnM t v u s 0 100 c = true
  · have q2 := of_decide_eq_true q
    have d1 := drI_t (s := s) (p := 0) hv.2.1 (show 100 ≤ 100 by omega)
    have e : qnG t v u s 0 100 c = cO (cT c) (drI (cS c) s 0 100).toNat (cP c) (cL c) (cF c) := if_pos q
    rw [e]
    refine decide_eq_false (fun z => z.2 ?_)
    have z2 := dr_idem (a := cS c) hs q2.2
    rw [cS_O (by omega) (cP_lt c) (cL_lt c) (cF_lt c)]
    exact z2
  · have e : qnG t v u s 0 100 c = c := if_neg q
    rw [e]
    exact eq_false_of_ne_true q
theorem qn_1 {t v u : Int} {c : Nat} (hv : ntV c) : qnM t v u 1 0 100 c = false := by
  refine decide_eq_false (fun z => z.2 ?_)
  have e := nr_at (k := cS c) (s := 1) (Nat.le_refl 1) (by rw [Nat.mul_one]; exact hv.2.1)
  rw [Nat.mul_one] at e
  rw [dr_100]
  exact e
theorem cntP_0 {p : Nat → Bool} {F : Nat → Nat} : ∀ {k : Nat}, (∀ i, i < k → p (F i) = false) → cntP p F k = 0
  | 0, _ => rfl
  | k + 1, h => by
    rw [cntP_f (by rw [h k (by omega)]; exact Bool.false_ne_true)]
    exact cntP_0 (fun i hi => h i (by omega))
theorem of_1 {S : Sg} (h : sgG S) {t v u : Int} : ofN t v u S.1.2 S.1.1 1 = 0 := cntP_0 (fun i hi => qn_1 (h.2.1 i hi))
theorem fs_min {C : Nat → Nat} (hC : ∀ s, C s ≤ 60) : ∀ k, 0 < k → (∃ j, j < k ∧ (fsR C k).1 = stN j) ∧ (fsR C k).2 = C (fsR C k).1 ∧ ∀ j, j < k → (fsR C k).2 ≤ C (stN j)
  | 0, h => absurd h (Nat.lt_irrefl 0)
  | k + 1, _ => by
    by_cases z : k = 0
    · subst z
      have e : fsR C 1 = (stN 0, C (stN 0)) := if_pos (by show C (stN 0) < 61; have := hC (stN 0); omega)
      rw [e]
      exact ⟨⟨0, by omega, rfl⟩, rfl, fun j hj => by obtain rfl : j = 0 := by omega
                                                     exact Nat.le_refl _⟩
    · obtain ⟨⟨j0, i1, i2⟩, i3, i4⟩ := fs_min hC k (by omega)
      by_cases q : C (stN k) < (fsR C k).2
      · have e : fsR C (k + 1) = (stN k, C (stN k)) := if_pos q
        rw [e]
        refine ⟨⟨k, by omega, rfl⟩, rfl, fun j hj => ?_⟩
        by_cases y : j = k
        · subst y
          exact Nat.le_refl _
        · have := i4 j (by omega)
          show C (stN k) ≤ _
          omega
      · have e : fsR C (k + 1) = fsR C k := if_neg q
        rw [e]
        refine ⟨⟨j0, by omega, i2⟩, i3, fun j hj => ?_⟩
        by_cases y : j = k
        · subst y
          omega
        · exact i4 j (by omega)
theorem best_ok {S : Sg} (h : sgG S) : (1 ≤ (fsR (ofN (-1) 0 9600 S.1.2 S.1.1) 8).1 ∧ (fsR (ofN (-1) 0 9600 S.1.2 S.1.1) 8).1 ≤ 384) ∧ ofN (-1) 0 9600 S.1.2 S.1.1 (fsR (ofN (-1) 0 9600 S.1.2 S.1.1) 8).1 ≤ ofN (-1) 0 9600 S.1.2 S.1.1 6 := by
  have hC : ∀ s, ofN (-1) 0 9600 S.1.2 S.1.1 s ≤ 60 := fun s => Nat.le_trans (cntP_le _ _ _) h.1.1
  obtain ⟨⟨j, j1, j2⟩, e, m⟩ := fs_min hC 8 (by omega)
  refine ⟨by rw [j2]; exact stN_b j, ?_⟩
  rw [← e]
  exact m 7 (by omega)
/-! the notes changed one by one, then sorted -/
theorem map_G {S : Sg} {gg : Nat → Nat} (h : sgG S) (hc : ∀ i, i < S.1.1 → cOk (gg (S.1.2 i)) ∧ ntV (gg (S.1.2 i))) : (∀ i, cOk (mapN S.1.2 gg S.1.1 i)) ∧ sgG ((S.1.1, srtN (mapN S.1.2 gg S.1.1) S.1.1), S.2) := by
  have ok : ∀ i, cOk (mapN S.1.2 gg S.1.1 i) := fun i => by
    unfold mapN
    split
    · rename_i z
      exact (hc i z).1
    · exact h.1.2.1 i
  exact ⟨ok, sg_notes h h.1.1 (srtN_ok (P := cOk) ok _) (srt_al (map_al (fun i hi => (hc i hi).2)) _ (Nat.le_refl _)) (srt_sor _ _)⟩
