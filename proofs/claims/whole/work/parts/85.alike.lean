/-! ===== what holds of a song holds of one alike ===== -/
theorem alN_e {P : Nat → Prop} {F G : Nat → Nat} {m : Nat} (h : alN P F m) (e : ∀ i, i < m → G i = F i) : alN P G m := fun i hi => by
  rw [e i hi]
  exact h i hi
theorem lk_n {S T : Sg} (h : lkS S T) : ∀ i, i < S.1.1 → T.1.2 i = S.1.2 i := fun i hi => (beq_iff_eq.mp ((alR_0 _ _).mp h.1.2 i hi)).symm
theorem lk_t {S T : Sg} (h : lkS S T) : ∀ i, i < 6 → T.2.1.1 i = S.2.1.1 i ∧ T.2.1.2.1 i = S.2.1.2.1 i ∧ T.2.1.2.2 i = S.2.1.2.2 i := fun i hi => by
  have z := (alR_0 _ _).mp h.2.1 i hi
  unfold ts1 at z
  rw [Bool.and_eq_true, Bool.and_eq_true, beq_iff_eq, beq_iff_eq, beq_iff_eq] at z
  exact ⟨z.1.symm, z.2.1.symm, z.2.2.symm⟩
theorem lk_p {S T : Sg} (h : lkS S T) : ∀ i, i < S.2.2.1.1 → T.2.2.1.2.1 i = S.2.2.1.2.1 i ∧ T.2.2.1.2.2.1 i = S.2.2.1.2.2.1 i ∧ T.2.2.1.2.2.2 i = S.2.2.1.2.2.2 i := fun i hi => by
  have z := (alR_0 _ _).mp h.2.2.1.2 i hi
  unfold mk1 at z
  rw [Bool.and_eq_true, Bool.and_eq_true, beq_iff_eq, beq_iff_eq, beq_iff_eq] at z
  exact ⟨z.1.symm, z.2.1.symm, z.2.2.symm⟩
theorem lk_m {S T : Sg} (h : lkS S T) : ∀ i, i < S.2.2.2.1.1 → T.2.2.2.1.2.1 i = S.2.2.2.1.2.1 i ∧ T.2.2.2.1.2.2.1 i = S.2.2.2.1.2.2.1 i ∧ T.2.2.2.1.2.2.2 i = S.2.2.2.1.2.2.2 i := fun i hi => by
  have z := (alR_0 _ _).mp h.2.2.2.1.2 i hi
  unfold mk1 at z
  rw [Bool.and_eq_true, Bool.and_eq_true, beq_iff_eq, beq_iff_eq, beq_iff_eq] at z
  exact ⟨z.1.symm, z.2.1.symm, z.2.2.symm⟩
theorem Rs_l {S T : Sg} {A : Nat → Int32} (hS : Rs S A) (h : lkS S T) : Rs T A := by
  have n1 := lk_n h
  have t1 := lk_t h
  have p1 := lk_p h
  have m1 := lk_m h
  obtain ⟨⟨c1, -⟩, -, ⟨c2, -⟩, ⟨c3, -⟩, l1, l2, l3⟩ := h
  obtain ⟨⟨a1, a2, a3⟩, a4, ⟨⟨a5, a6, a7⟩, a8⟩, ⟨⟨a9, a10, a11, a12⟩, a13⟩, a14, a15, a16⟩ := hS
  refine ⟨⟨by rw [← c1]; exact a1, fun i j hi hj => ?_, fun k h1 h2 => a3 k (by omega) h2⟩, fun t ht => ?_, ⟨⟨by rw [← c2]; exact a5, fun i hi => ?_, fun i hi => ?_⟩, fun k h1 h2 => a8 k (by omega) h2⟩, ⟨⟨by rw [← c3]; exact a9, fun i hi => ?_, fun i hi => ?_, fun i hi => ?_⟩, fun k h1 h2 => a13 k (by omega) h2⟩, by rw [← l1]; exact a14, by rw [← l2]; exact a15, by rw [← l3]; exact a16⟩
  · rw [n1 i (by omega)]
    exact a2 i j (by omega) hj
  · rw [(t1 t ht).1, (t1 t ht).2.1, (t1 t ht).2.2]
    exact a4 t ht
  · rw [(p1 i (by omega)).1]
    exact a6 i (by omega)
  · rw [(p1 i (by omega)).2.1]
    exact a7 i (by omega)
  · rw [(m1 i (by omega)).1]
    exact a10 i (by omega)
  · rw [(m1 i (by omega)).2.1]
    exact a11 i (by omega)
  · rw [(m1 i (by omega)).2.2]
    exact a12 i (by omega)
theorem sgG_l {S T : Sg} (hS : sgG S) (hT : sgOk T) (h : lkS S T) : sgG T := by
  have n1 := lk_n h
  have p1 := lk_p h
  have m1 := lk_m h
  obtain ⟨⟨c1, -⟩, -, ⟨c2, -⟩, ⟨c3, -⟩, l1, l2, l3⟩ := h
  obtain ⟨-, g1, g2, g3, ⟨g4, g5⟩, g6⟩ := hS
  refine ⟨hT, fun i hi => ?_, ?_, fun i hi => ?_, ⟨fun i hi => ?_, fun i hi => ?_⟩, ?_⟩
  · rw [n1 i (by omega)]
    exact g1 i (by omega)
  · rw [← c1]
    exact sor_e g2 (fun i _ hi => n1 i hi)
  · rw [(p1 i (by omega)).2.1, (p1 i (by omega)).2.2]
    exact g3 i (by omega)
  · rw [(m1 i (by omega)).2.1, (m1 i (by omega)).2.2]
    exact g4 i (by omega)
  · rw [(m1 i (by omega)).1]
    exact g5 i (by omega)
  · rw [← l1, ← l2, ← l3]
    exact g6
theorem mixN_a {F G : Nat → Nat} {m : Nat} {P : Nat → Prop} (hF : ∀ i, P (F i)) (hG : ∀ i, P (G i)) : ∀ i, P (mixN F G m i) := fun i => by
  unfold mixN
  split
  · exact hG i
  · exact hF i
theorem mixI_a {F G : Nat → Int} {m : Nat} {P : Int → Prop} (hF : ∀ i, P (F i)) (hG : ∀ i, P (G i)) : ∀ i, P (mixI F G m i) := fun i => by
  unfold mixI
  split
  · exact hG i
  · exact hF i
theorem mkOk_t {n n' : Nat} {P A B P' A' B' : Nat → Nat} (h : mkOk n P A B) (h' : mkOk n' P' A' B') : mkOk n' (mixN P P' n') (mixN A A' n') (mixN B B' n') := by
  obtain ⟨a1, a2, a3, a4, a5, a6, a7⟩ := h
  obtain ⟨b1, b2, b3, b4, b5, b6, b7⟩ := h'
  have m1 : ∀ (F G : Nat → Nat) (m i : Nat), i < m → mixN F G m i = G i := fun F G m i h => if_pos h
  refine ⟨b1, b2, by rw [m1 _ _ _ _ b1, b3], fun i hi => ?_, mixN_a (P := fun z => z ≤ 9599) a5 b5, mixN_a (P := fun z => z ≤ 3000) a6 b6, mixN_a (P := fun z => z ≤ 16) a7 b7⟩
  rw [m1 _ _ _ _ (by omega), m1 _ _ _ _ hi]
  exact b4 i hi
theorem tkS_ok {S T : Sg} (hS : sgOk S) (hT : sgOk T) : sgOk (tkS S T) := by
  obtain ⟨a1, a2, a3, a4, a5, a6, a7, a8, a9, a10, a11⟩ := hS
  obtain ⟨b1, b2, b3, b4, b5, b6, b7, b8, b9, b10, b11⟩ := hT
  refine ⟨b1, mixN_a (P := cOk) a2 b2, mixN_a (P := fun z => z < 4) a3 b3, mixI_a (P := fun z => -24 ≤ z ∧ z ≤ 24) a4 b4, mixI_a (P := fun z => -48 ≤ z ∧ z ≤ 48) a5 b5, mkOk_t a6 b6, mkOk_t a7 b7, mixN_a (P := fun z => z ≤ 16) a8 b8, ?_, ?_, b11⟩
  · show (if T.2.2.2.2.2.2 = 0 then 0 else T.2.2.2.2.1) ≤ 9600
    split <;> omega
  · show (if T.2.2.2.2.2.2 = 0 then 0 else T.2.2.2.2.2.1) ≤ 9600
    split <;> omega
theorem sgG_c {T : Sg} (h : sgG T) : T.2.2.2.2.2.2 = 0 → T.2.2.2.2.1 = 0 ∧ T.2.2.2.2.2.1 = 0 := fun z => by
  have g := h.2.2.2.2.2
  rw [if_pos z] at g
  exact g
theorem tkS_G {S T : Sg} (hS : sgOk S) (hT : sgG T) : sgG (tkS S T) := sgG_l hT (tkS_ok hS hT.1) (tkS_lk (sgG_c hT))
theorem Rs_tk {S T : Sg} {A : Nat → Int32} (hT : sgG T) (h : Rs T A) : Rs (tkS S T) A := Rs_l h (tkS_lk (sgG_c hT))
/-- times stay small -/
theorem tm_ok {S : Sg} (h : sgG S) : tmOk S.2.2.1 := by
  have n11 := h.1.2.2.2.2.2.1.2.1
  intro t ht
  have key : ∀ k, k ≤ S.2.2.1.1 → sm (tmT S.2.2.1.2.1 S.2.2.1.2.2.1 S.2.2.1.1 t) k ≤ k * 40960000 := by
    intro k
    induction k with
    | zero => exact fun _ => Nat.le_refl 0
    | succ k ih =>
      intro hk
      have i1 := ih (by omega)
      have v := (h.2.2.2.1 k (by omega)).1
      have e : sm (tmT S.2.2.1.2.1 S.2.2.1.2.2.1 S.2.2.1.1 t) (k + 1) = sm (tmT S.2.2.1.2.1 S.2.2.1.2.2.1 S.2.2.1.1 t) k + tmT S.2.2.1.2.1 S.2.2.1.2.2.1 S.2.2.1.1 t k := rfl
      have le : tmT S.2.2.1.2.1 S.2.2.1.2.2.1 S.2.2.1.1 t k ≤ 40960000 := by
        unfold tmT
        split
        · have l1 := tmTo_le S.2.2.1.2.1 S.2.2.1.1 t k
          have l2 : (tmTo S.2.2.1.2.1 S.2.2.1.1 t k - S.2.2.1.2.1 k) * 62500 ≤ 131072 * 62500 := Nat.mul_le_mul_right _ (by omega)
          exact Nat.le_trans (Nat.div_le_div_left v (by omega)) (by omega)
        · omega
      omega
  have := key S.2.2.1.1 (Nat.le_refl _)
  omega
