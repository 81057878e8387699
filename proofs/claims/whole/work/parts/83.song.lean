/-! ===== the class's song and the reference's row ===== -/
/-- a song as the document has it -/
def sgG (S : Sg) : Prop := sgOk S ∧ (∀ i, i < S.1.1 → cT (S.1.2 i) ≤ 5 ∧ cS (S.1.2 i) ≤ 9599 ∧ (1 ≤ cL (S.1.2 i) ∧ cL (S.1.2 i) ≤ 960) ∧ 1 ≤ cF (S.1.2 i)) ∧ sor S.1.2 0 S.1.1 ∧
  (∀ i, i < S.2.2.1.1 → 200 ≤ S.2.2.1.2.2.1 i ∧ S.2.2.1.2.2.2 i = 0) ∧ (mtOk S.2.2.2.1.1 S.2.2.2.1.2.2.1 S.2.2.2.1.2.2.2 ∧ ∀ i, i < S.2.2.2.1.1 → S.2.2.2.1.2.1 i ≤ 99) ∧
  (if S.2.2.2.2.2.2 = 0 then S.2.2.2.2.1 = 0 ∧ S.2.2.2.2.2.1 = 0 else S.2.2.2.2.1 < S.2.2.2.2.2.1)
/-- the row that tells a song -/
def Rs (S : Sg) (A : Nat → Int32) : Prop := (A 0 = iI S.1.1 ∧ (∀ i j, i < S.1.1 → j < 5 → A (1 + 5 * i + j) = iI (cFact (S.1.2 i) j)) ∧ ∀ k, 1 + 5 * S.1.1 ≤ k → k < 301 → A k = iI 0) ∧ trA A S.2.1.1 S.2.1.2.1 S.2.1.2.2 ∧
  (spA A S.2.2.1.1 S.2.2.1.2.1 S.2.2.1.2.2.1 ∧ ∀ k, 326 + 2 * S.2.2.1.1 ≤ k → k < 348 → A k = iI 0) ∧ (mtA A S.2.2.2.1.1 S.2.2.2.1.2.1 S.2.2.2.1.2.2.1 S.2.2.2.1.2.2.2 ∧ ∀ k, 349 + 3 * S.2.2.2.1.1 ≤ k → k < 382 → A k = iI 0) ∧
  (A 382 = iI S.2.2.2.2.1 ∧ A 383 = iI S.2.2.2.2.2.1 ∧ A 384 = iI S.2.2.2.2.2.2)
theorem Rs_nB {S : Sg} {A : Nat → Int32} (h : Rs S A) : A = nB S.1.1 S.1.2 A := by
  funext k
  unfold nB
  by_cases e : k = 0
  · rw [if_pos e, e]
    exact h.1.1
  · rw [if_neg e]
    by_cases e2 : (k - 1) / 5 < S.1.1
    · rw [if_pos e2]
      have z := h.1.2.1 ((k - 1) / 5) ((k - 1) % 5) e2 (by omega)
      rw [show 1 + 5 * ((k - 1) / 5) + (k - 1) % 5 = k by omega] at z
      exact z
    · rw [if_neg e2]
theorem iI_inj {a b : Int} (h : iI a = iI b) (h1 : -2147483648 ≤ a) (h2 : a < 2147483648) (h3 : -2147483648 ≤ b) (h4 : b < 2147483648) : a = b := by
  have e := iI_eq h1 h2 h3 h4
  rw [h] at e
  exact e.mp rfl
theorem iN_inj {a b : Nat} (h : iI (a : Int) = iI (b : Int)) (h2 : a < 2147483648) (h4 : b < 2147483648) : a = b := by
  have := iI_inj h (by omega) (by omega) (by omega) (by omega)
  omega
theorem code_ext {c e : Nat} (hc : cOk c) (he : cOk e) (h : ∀ j, j < 5 → cFact c j = cFact e j) : c = e := by
  have h0 : cT c = cT e := h 0 (by omega)
  have h1 : cS c = cS e := h 1 (by omega)
  have h2 : cL c = cL e := h 2 (by omega)
  have h3 : cP c = cP e := h 3 (by omega)
  have h4 : cF c = cF e := h 4 (by omega)
  unfold cT at h0
  unfold cS at h1
  unfold cL at h2
  unfold cP at h3
  unfold cF at h4
  omega
theorem Rs_u {S T : Sg} {A B : Nat → Int32} (hS : Rs S A) (hT : Rs T B) (hO : sgOk S) (h : lkS S T) : ∀ k, k < 385 → A k = B k := by
  obtain ⟨⟨a1, a2, a3⟩, a4, ⟨⟨a5, a6, a7⟩, a8⟩, ⟨⟨a9, a10, a11, a12⟩, a13⟩, a14, a15, a16⟩ := hS
  obtain ⟨⟨b1, b2, b3⟩, b4, ⟨⟨b5, b6, b7⟩, b8⟩, ⟨⟨b9, b10, b11, b12⟩, b13⟩, b14, b15, b16⟩ := hT
  obtain ⟨⟨n1, n2⟩, t1, ⟨p1, p2⟩, ⟨q1, q2⟩, l1, l2, l3⟩ := h
  rw [alR_0] at n2 p2 q2
  have t2 := (alR_0 _ _).mp t1
  have mb := hO.1
  have pb := hO.2.2.2.2.2.1.2.1
  have qb := hO.2.2.2.2.2.2.1.2.1
  intro k hk
  by_cases c1 : k = 0
  · rw [c1, a1, b1, n1]
  by_cases c2 : k < 301
  · by_cases c3 : (k - 1) / 5 < S.1.1
    · have z1 := a2 ((k - 1) / 5) ((k - 1) % 5) c3 (by omega)
      have z2 := b2 ((k - 1) / 5) ((k - 1) % 5) (by omega) (by omega)
      rw [show 1 + 5 * ((k - 1) / 5) + (k - 1) % 5 = k by omega] at z1 z2
      rw [z1, z2, beq_iff_eq.mp (n2 _ c3)]
    · rw [a3 k (by omega) c2, b3 k (by omega) c2]
  by_cases c3 : k < 325
  · have ht : (k - 301) / 4 < 6 := by omega
    obtain ⟨x1, x2, x3, x4⟩ := a4 _ ht
    obtain ⟨y1, y2, y3, y4⟩ := b4 _ ht
    have z := t2 _ ht
    unfold ts1 at z
    rw [Bool.and_eq_true, Bool.and_eq_true, beq_iff_eq, beq_iff_eq, beq_iff_eq] at z
    obtain ⟨z1, z2, z3⟩ := z
    obtain e | e | e | e : k = 301 + 4 * ((k - 301) / 4) ∨ k = 302 + 4 * ((k - 301) / 4) ∨ k = 303 + 4 * ((k - 301) / 4) ∨ k = 304 + 4 * ((k - 301) / 4) := by omega
    · rw [← e] at x1 y1
      rw [x1, y1, z1]
    · rw [← e] at x2 y2
      rw [x2, y2, z1]
    · rw [← e] at x3 y3
      rw [x3, y3, z2]
    · rw [← e] at x4 y4
      rw [x4, y4, z3]
  by_cases c4 : k = 325
  · rw [c4, a5, b5, p1]
  by_cases c5 : k < 348
  · by_cases c6 : (k - 326) / 2 < S.2.2.1.1
    · have z := p2 _ c6
      unfold mk1 at z
      rw [Bool.and_eq_true, Bool.and_eq_true, beq_iff_eq, beq_iff_eq, beq_iff_eq] at z
      obtain ⟨z1, z2, z3⟩ := z
      obtain e | e : k = 326 + 2 * ((k - 326) / 2) ∨ k = 327 + 2 * ((k - 326) / 2) := by omega
      · have x := a6 _ c6
        have y := b6 ((k - 326) / 2) (by omega)
        rw [← e] at x y
        rw [x, y, z1]
      · have x := a7 _ c6
        have y := b7 ((k - 326) / 2) (by omega)
        rw [← e] at x y
        rw [x, y, z2]
    · rw [a8 k (by omega) c5, b8 k (by omega) c5]
  by_cases c6 : k = 348
  · rw [c6, a9, b9, q1]
  by_cases c7 : k < 382
  · by_cases c8 : (k - 349) / 3 < S.2.2.2.1.1
    · have z := q2 _ c8
      unfold mk1 at z
      rw [Bool.and_eq_true, Bool.and_eq_true, beq_iff_eq, beq_iff_eq, beq_iff_eq] at z
      obtain ⟨z1, z2, z3⟩ := z
      obtain e | e | e : k = 349 + 3 * ((k - 349) / 3) ∨ k = 350 + 3 * ((k - 349) / 3) ∨ k = 351 + 3 * ((k - 349) / 3) := by omega
      · have x := a10 _ c8
        have y := b10 ((k - 349) / 3) (by omega)
        rw [← e] at x y
        rw [x, y, z1]
      · have x := a11 _ c8
        have y := b11 ((k - 349) / 3) (by omega)
        rw [← e] at x y
        rw [x, y, z2]
      · have x := a12 _ c8
        have y := b12 ((k - 349) / 3) (by omega)
        rw [← e] at x y
        rw [x, y, z3]
    · rw [a13 k (by omega) c7, b13 k (by omega) c7]
  obtain e | e | e : k = 382 ∨ k = 383 ∨ k = 384 := by omega
  · rw [e, a14, b14, l1]
  · rw [e, a15, b15, l2]
  · rw [e, a16, b16, l3]
theorem Rs_i {S T : Sg} {A B : Nat → Int32} (hS : Rs S A) (hT : Rs T B) (gS : sgG S) (gT : sgG T) (h : ∀ k, k < 385 → A k = B k) : lkS S T := by
  obtain ⟨⟨a1, a2, a3⟩, a4, ⟨⟨a5, a6, a7⟩, a8⟩, ⟨⟨a9, a10, a11, a12⟩, a13⟩, a14, a15, a16⟩ := hS
  obtain ⟨⟨b1, b2, b3⟩, b4, ⟨⟨b5, b6, b7⟩, b8⟩, ⟨⟨b9, b10, b11, b12⟩, b13⟩, b14, b15, b16⟩ := hT
  obtain ⟨⟨o1, o2, o3, o4, o5, o6, o7, o8, o9, o10, o11⟩, -, -, g4, -, -⟩ := gS
  obtain ⟨⟨u1, u2, u3, u4, u5, u6, u7, u8, u9, u10, u11⟩, -, -, v4, -, -⟩ := gT
  have ⟨pb1, pb2, pb3⟩ := mkOk_b o6
  have ⟨qb1, qb2, qb3⟩ := mkOk_b o7
  have ⟨rb1, rb2, rb3⟩ := mkOk_b u6
  have ⟨sb1, sb2, sb3⟩ := mkOk_b u7
  have p11 := o6.2.1
  have q11 := o7.2.1
  have p12 := u6.2.1
  have q12 := u7.2.1
  have n1 : S.1.1 = T.1.1 := iN_inj (by rw [← a1, ← b1]; exact h 0 (by omega)) (by omega) (by omega)
  have p1 : S.2.2.1.1 = T.2.2.1.1 := iN_inj (by rw [← a5, ← b5]; exact h 325 (by omega)) (by omega) (by omega)
  have q1 : S.2.2.2.1.1 = T.2.2.2.1.1 := iN_inj (by rw [← a9, ← b9]; exact h 348 (by omega)) (by omega) (by omega)
  refine ⟨⟨n1, ?_⟩, ?_, ⟨p1, ?_⟩, ⟨q1, ?_⟩, ?_, ?_, ?_⟩
  · refine (alR_0 _ _).mpr (fun i hi => beq_iff_eq.mpr (code_ext (o2 i) (u2 i) (fun j hj => ?_)))
    have e := h (1 + 5 * i + j) (by omega)
    rw [a2 i j hi hj, b2 i j (by omega) hj] at e
    have l1 := cFact_lt (o2 i) j
    have l2 := cFact_lt (u2 i) j
    exact iN_inj e (by omega) (by omega)
  · refine (alR_0 _ _).mpr (fun t ht => ?_)
    obtain ⟨x1, x2, x3, x4⟩ := a4 t ht
    obtain ⟨y1, y2, y3, y4⟩ := b4 t ht
    rw [h _ (by omega)] at x1 x2 x3 x4
    rw [x1] at y1
    rw [x2] at y2
    rw [x3] at y3
    rw [x4] at y4
    have m1 := o3 t
    have m2 := u3 t
    have m3 := o4 t
    have m4 := u4 t
    have m5 := o5 t
    have m6 := u5 t
    have e1 := iN_inj y1 (by omega) (by omega)
    have e2 := iN_inj y2 (by omega) (by omega)
    have e3 := iI_inj y3 (by omega) (by omega) (by omega) (by omega)
    have e4 := iI_inj y4 (by omega) (by omega) (by omega) (by omega)
    unfold ts1
    rw [Bool.and_eq_true, Bool.and_eq_true, beq_iff_eq, beq_iff_eq, beq_iff_eq]
    exact ⟨by omega, e3, e4⟩
  · refine (alR_0 _ _).mpr (fun i hi => ?_)
    have x1 := h (326 + 2 * i) (by omega)
    have x2 := h (327 + 2 * i) (by omega)
    rw [a6 i hi, b6 i (by omega)] at x1
    rw [a7 i hi, b7 i (by omega)] at x2
    unfold mk1
    rw [Bool.and_eq_true, Bool.and_eq_true, beq_iff_eq, beq_iff_eq, beq_iff_eq]
    exact ⟨iN_inj x1 (pb1 i) (rb1 i), iN_inj x2 (pb2 i) (rb2 i), by rw [(g4 i hi).2, (v4 i (by omega)).2]⟩
  · refine (alR_0 _ _).mpr (fun i hi => ?_)
    have x1 := h (349 + 3 * i) (by omega)
    have x2 := h (350 + 3 * i) (by omega)
    have x3 := h (351 + 3 * i) (by omega)
    rw [a10 i hi, b10 i (by omega)] at x1
    rw [a11 i hi, b11 i (by omega)] at x2
    rw [a12 i hi, b12 i (by omega)] at x3
    unfold mk1
    rw [Bool.and_eq_true, Bool.and_eq_true, beq_iff_eq, beq_iff_eq, beq_iff_eq]
    exact ⟨iN_inj x1 (qb1 i) (sb1 i), iN_inj x2 (qb2 i) (sb2 i), iN_inj x3 (qb3 i) (sb3 i)⟩
  · exact iN_inj (by rw [← a14, ← b14]; exact h 382 (by omega)) (by omega) (by omega)
  · exact iN_inj (by rw [← a15, ← b15]; exact h 383 (by omega)) (by omega) (by omega)
  · exact iN_inj (by rw [← a16, ← b16]; exact h 384 (by omega)) (by omega) (by omega)
theorem Rs_lk {S T : Sg} {A B : Nat → Int32} (hS : Rs S A) (hT : Rs T B) (gS : sgG S) (gT : sgG T) : eqA A B ↔ lkS S T := by
  rw [eqA_iff]
  exact ⟨Rs_i hS hT gS gT, Rs_u hS hT gS.1⟩
theorem Rs_c {S : Sg} {A B : Nat → Int32} (h : Rs S A) (hO : sgOk S) (he : ∀ k, k < 385 → B k = A k) : Rs S B := by
  have mb := hO.1
  have pb := hO.2.2.2.2.2.1.2.1
  have qb := hO.2.2.2.2.2.2.1.2.1
  obtain ⟨⟨a1, a2, a3⟩, a4, ⟨⟨a5, a6, a7⟩, a8⟩, ⟨⟨a9, a10, a11, a12⟩, a13⟩, a14, a15, a16⟩ := h
  refine ⟨⟨?_, fun i j hi hj => ?_, fun k h1 h2 => ?_⟩, fun t ht => ⟨?_, ?_, ?_, ?_⟩, ⟨⟨?_, fun i hi => ?_, fun i hi => ?_⟩, fun k h1 h2 => ?_⟩, ⟨⟨?_, fun i hi => ?_, fun i hi => ?_, fun i hi => ?_⟩, fun k h1 h2 => ?_⟩, ?_, ?_, ?_⟩
  · rw [he _ (by omega), a1]
  · rw [he _ (by omega), a2 i j hi hj]
  · rw [he _ (by omega), a3 k h1 h2]
  · rw [he _ (by omega), (a4 t ht).1]
  · rw [he _ (by omega), (a4 t ht).2.1]
  · rw [he _ (by omega), (a4 t ht).2.2.1]
  · rw [he _ (by omega), (a4 t ht).2.2.2]
  · rw [he _ (by omega), a5]
  · rw [he _ (by omega), a6 i hi]
  · rw [he _ (by omega), a7 i hi]
  · rw [he _ (by omega), a8 k h1 h2]
  · rw [he _ (by omega), a9]
  · rw [he _ (by omega), a10 i hi]
  · rw [he _ (by omega), a11 i hi]
  · rw [he _ (by omega), a12 i hi]
  · rw [he _ (by omega), a13 k h1 h2]
  · rw [he _ (by omega), a14]
  · rw [he _ (by omega), a15]
  · rw [he _ (by omega), a16]
