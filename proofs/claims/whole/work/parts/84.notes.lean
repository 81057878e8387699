/-! ===== notes stay as they should be ===== -/
/-- each of the first m -/
def alN (P : Nat → Prop) (F : Nat → Nat) (m : Nat) : Prop := ∀ i, i < m → P (F i)
theorem sk_lo {F : Nat → Nat} {c : Nat} : ∀ {k}, sor F 0 k → ∀ i, i < sk F c k → F i ≤ c
  | 0, _, i, h => absurd h (Nat.not_lt_zero i)
  | k + 1, hs, i, h => by
    unfold sk at h
    by_cases q : c < F k
    · rw [if_pos q] at h
      exact sk_lo (sor_m hs (Nat.le_refl _) (by omega)) i h
    · by_cases e : i = k
      · rw [e]
        omega
      · rw [if_neg q] at h
        have := hs i k (Nat.zero_le _) (by omega) (by omega)
        omega
theorem sk_hi {F : Nat → Nat} {c : Nat} : ∀ {k} i, sk F c k ≤ i → i < k → c < F i
  | 0, i, _, h => absurd h (Nat.not_lt_zero i)
  | k + 1, i, h1, h2 => by
    unfold sk at h1
    by_cases q : c < F k
    · rw [if_pos q] at h1
      by_cases e : i = k
      · rw [e]
        exact q
      · exact sk_hi i h1 (by omega)
    · rw [if_neg q] at h1
      omega
theorem ins_sor {F : Nat → Nat} {c m : Nat} (h : sor F 0 m) : sor (insN F (sk F c m) m c) 0 (m + 1) := by
  have hp := sk_le F c m
  intro i j _ hij hj
  unfold insN
  by_cases e1 : i = sk F c m
  · rw [if_pos e1, if_neg (by omega), if_pos (by omega)]
    exact Nat.le_of_lt (sk_hi (k := m) (j - 1) (by omega) (by omega))
  · rw [if_neg e1]
    by_cases e2 : sk F c m < i ∧ i ≤ m
    · rw [if_pos e2, if_neg (by omega), if_pos (by omega)]
      exact h (i - 1) (j - 1) (Nat.zero_le _) (by omega) (by omega)
    · rw [if_neg e2]
      by_cases e3 : j = sk F c m
      · rw [if_pos e3]
        exact sk_lo h i (by omega)
      · rw [if_neg e3]
        by_cases e4 : sk F c m < j ∧ j ≤ m
        · rw [if_pos e4]
          by_cases e5 : i = j - 1
          · omega
          · exact h i (j - 1) (Nat.zero_le _) (by omega) (by omega)
        · rw [if_neg e4]
          exact h i j (Nat.zero_le _) hij (by omega)
theorem ins_al {P : Nat → Prop} {F : Nat → Nat} {p m k c : Nat} (h : alN P F m) (hc : P c) (hp : p ≤ k) (hk : k ≤ m) : alN P (insN F p k c) (k + 1) := fun i hi => by
  unfold insN
  split
  · exact hc
  · split
    · exact h _ (by omega)
    · rename_i q1 q2
      have e : i ≤ p := by
        by_cases e : i ≤ p
        · exact e
        · exact absurd ⟨by omega, by omega⟩ q2
      exact h i (by omega)
theorem dl_sor {F : Nat → Nat} {p m : Nat} (h : sor F 0 m) (hp : p < m) : sor (dlN F p (m - 1)) 0 (m - 1) := by
  intro i j _ hij hj
  unfold dlN
  by_cases e1 : p ≤ i ∧ i < m - 1
  · rw [if_pos e1, if_pos (by omega)]
    exact h (i + 1) (j + 1) (Nat.zero_le _) (by omega) (by omega)
  · rw [if_neg e1]
    by_cases e2 : p ≤ j ∧ j < m - 1
    · rw [if_pos e2]
      exact h i (j + 1) (Nat.zero_le _) (by omega) (by omega)
    · rw [if_neg e2]
      exact h i j (Nat.zero_le _) hij (by omega)
theorem dl_al {P : Nat → Prop} {F : Nat → Nat} {p m : Nat} (h : alN P F m) : alN P (dlN F p (m - 1)) (m - 1) := fun i hi => by
  unfold dlN
  split
  · exact h _ (by omega)
  · exact h _ (by omega)
theorem srt_sor (F : Nat → Nat) : ∀ k, sor (srtN F k) 0 k
  | 0 => sor_s (by omega)
  | k + 1 => ins_sor (srt_sor F k)
theorem srt_al {P : Nat → Prop} {F : Nat → Nat} {m : Nat} (h : alN P F m) : ∀ k, k ≤ m → alN P (srtN F k) m
  | 0, _ => h
  | k + 1, hk => fun i hi => by
    have ih := srt_al h k (by omega)
    show P (insN (srtN F k) _ k (srtN F k k) i)
    unfold insN
    split
    · exact ih k (by omega)
    · split
      · exact ih _ (by omega)
      · exact ih i hi
theorem map_al {P : Nat → Prop} {F gg : Nat → Nat} {m : Nat} (h : ∀ i, i < m → P (gg (F i))) : alN P (mapN F gg m) m := fun i hi => by
  unfold mapN
  rw [if_pos hi]
  exact h i hi
/-- a note as the document has it -/
def ntV (c : Nat) : Prop := cT c ≤ 5 ∧ cS c ≤ 9599 ∧ (1 ≤ cL c ∧ cL c ≤ 960) ∧ 1 ≤ cF c
theorem sg_notes {S : Sg} {m : Nat} {F : Nat → Nat} (hS : sgG S) (hm : m ≤ 60) (hF : ∀ i, cOk (F i)) (hV : alN ntV F m) (hs : sor F 0 m) : sgG ((m, F), S.2) :=
  ⟨⟨hm, hF, hS.1.2.2⟩, hV, hs, hS.2.2.2⟩
theorem Rs_notes {S : Sg} {A X : Nat → Int32} {m : Nat} {F : Nat → Nat} (h : Rs S A) (h60 : S.1.1 ≤ 60) (hm : m ≤ 60) (hX : ∀ k, 1 + 5 * m ≤ k → X k = if k < 301 then iI 0 else A k) : Rs ((m, F), S.2) (nB m F X) := by
  have hh : ∀ k, 301 ≤ k → nB m F X k = A k := fun k hk => by
    unfold nB
    rw [if_neg (by omega), if_neg (by omega), hX k (by omega), if_neg (by omega)]
  obtain ⟨⟨a1, a2, a3⟩, a4, ⟨⟨a5, a6, a7⟩, a8⟩, ⟨⟨a9, a10, a11, a12⟩, a13⟩, a14, a15, a16⟩ := h
  refine ⟨⟨nB_0, fun i j hi hj => nB_n hi hj, fun k h1 h2 => ?_⟩, fun t ht => ⟨?_, ?_, ?_, ?_⟩, ⟨⟨?_, fun i hi => ?_, fun i hi => ?_⟩, fun k h1 h2 => ?_⟩, ⟨⟨?_, fun i hi => ?_, fun i hi => ?_, fun i hi => ?_⟩, fun k h1 h2 => ?_⟩, ?_, ?_, ?_⟩
  · have h1' : 1 + 5 * m ≤ k := h1
    unfold nB
    rw [if_neg (by omega), if_neg (by omega), hX k h1', if_pos h2]
  · rw [hh _ (by omega), (a4 t ht).1]
  · rw [hh _ (by omega), (a4 t ht).2.1]
  · rw [hh _ (by omega), (a4 t ht).2.2.1]
  · rw [hh _ (by omega), (a4 t ht).2.2.2]
  · rw [hh _ (by omega), a5]
  · rw [hh _ (by omega), a6 i hi]
  · rw [hh _ (by omega), a7 i hi]
  · have h1' : 326 + 2 * S.2.2.1.1 ≤ k := h1
    rw [hh _ (by omega), a8 k h1' h2]
  · rw [hh _ (by omega), a9]
  · rw [hh _ (by omega), a10 i hi]
  · rw [hh _ (by omega), a11 i hi]
  · rw [hh _ (by omega), a12 i hi]
  · have h1' : 349 + 3 * S.2.2.2.1.1 ≤ k := h1
    rw [hh _ (by omega), a13 k h1' h2]
  · rw [hh _ (by omega), a14]
  · rw [hh _ (by omega), a15]
  · rw [hh _ (by omega), a16]
/-- behind as many notes or more -/
theorem Rs_X {S : Sg} {A : Nat → Int32} {m : Nat} (h : Rs S A) (hm : S.1.1 ≤ m) : ∀ k, 1 + 5 * m ≤ k → A k = if k < 301 then iI 0 else A k := fun k hk => by
  by_cases e : k < 301
  · rw [if_pos e]
    exact h.1.2.2 k (by omega) e
  · rw [if_neg e]
theorem Rs_tkX {S : Sg} {A : Nat → Int32} {m : Nat} (h : Rs S A) (hm : S.1.1 ≤ 60) : ∀ k, 1 + 5 * m ≤ k → tkX S.1.1 A k = if k < 301 then iI 0 else A k := fun k hk => by
  unfold tkX
  by_cases e : k < 301
  · rw [if_pos e]
    by_cases e2 : k < 1 + 5 * S.1.1
    · rw [if_pos e2]
    · rw [if_neg e2]
      exact h.1.2.2 k (by omega) e
  · rw [if_neg e, if_neg (by omega)]
/-! a song taken from another -/
theorem tkS_lk {S T : Sg} (hc : T.2.2.2.2.2.2 = 0 → T.2.2.2.2.1 = 0 ∧ T.2.2.2.2.2.1 = 0) : lkS T (tkS S T) := by
  have m1 : ∀ (F G : Nat → Nat) (m i : Nat), i < m → mixN F G m i = G i := fun F G m i h => if_pos h
  have m2 : ∀ (F G : Nat → Int) (m i : Nat), i < m → mixI F G m i = G i := fun F G m i h => if_pos h
  refine ⟨⟨rfl, (alR_0 _ _).mpr (fun i hi => beq_iff_eq.mpr (m1 _ _ _ _ hi).symm)⟩, (alR_0 _ _).mpr (fun i hi => ?_), ⟨rfl, (alR_0 _ _).mpr (fun i hi => ?_)⟩, ⟨rfl, (alR_0 _ _).mpr (fun i hi => ?_)⟩, ?_, ?_, rfl⟩
  · unfold ts1
    rw [Bool.and_eq_true, Bool.and_eq_true, beq_iff_eq, beq_iff_eq, beq_iff_eq]
    exact ⟨(m1 _ _ _ _ hi).symm, (m2 _ _ _ _ hi).symm, (m2 _ _ _ _ hi).symm⟩
  · unfold mk1
    rw [Bool.and_eq_true, Bool.and_eq_true, beq_iff_eq, beq_iff_eq, beq_iff_eq]
    exact ⟨(m1 _ _ _ _ hi).symm, (m1 _ _ _ _ hi).symm, (m1 _ _ _ _ hi).symm⟩
  · unfold mk1
    rw [Bool.and_eq_true, Bool.and_eq_true, beq_iff_eq, beq_iff_eq, beq_iff_eq]
    exact ⟨(m1 _ _ _ _ hi).symm, (m1 _ _ _ _ hi).symm, (m1 _ _ _ _ hi).symm⟩
  · show T.2.2.2.2.1 = if T.2.2.2.2.2.2 = 0 then 0 else T.2.2.2.2.1
    split
    · exact (hc (by assumption)).1
    · rfl
  · show T.2.2.2.2.2.1 = if T.2.2.2.2.2.2 = 0 then 0 else T.2.2.2.2.2.1
    split
    · exact (hc (by assumption)).2
    · rfl
