/-! ===== speeds and meters stay as they should be ===== -/
theorem lu_hi {P : Nat → Nat} {v : Nat} : ∀ {k i : Nat}, lu P v k < i → i < k → v < P i
  | 0, i, _, h => absurd h (Nat.not_lt_zero i)
  | k + 1, i, h1, h2 => by
    unfold lu at h1
    by_cases q : P k ≤ v
    · rw [if_pos q] at h1
      omega
    · rw [if_neg q] at h1
      by_cases e : i = k
      · rw [e]
        omega
      · exact lu_hi h1 (by omega)
theorem inc_lt {P : Nat → Nat} {n : Nat} (h : ∀ i, i + 1 < n → P i < P (i + 1)) : ∀ s i, i + s + 1 < n → P i < P (i + s + 1)
  | 0, i, hi => h i hi
  | s + 1, i, hi => Nat.lt_trans (inc_lt h s i (by omega)) (h (i + s + 1) (by omega))
theorem inc {P : Nat → Nat} {n i j : Nat} (h : ∀ i, i + 1 < n → P i < P (i + 1)) (hij : i < j) (hj : j < n) : P i < P j := by
  have z := inc_lt h (j - i - 1) i (by omega)
  rw [show i + (j - i - 1) + 1 = j by omega] at z
  exact z
section
variable {V : MKv} {v y z : Nat}
/-- where what begins at v stands or would stand -/
def luK (V : MKv) (v : Nat) : Nat := if V.2.1 (lu V.2.1 v V.1) = v then lu V.2.1 v V.1 else lu V.2.1 v V.1 + 1
theorem luK_k (hM : mkOk V.1 V.2.1 V.2.2.1 V.2.2.2) : luK V v ≤ V.1 ∧ (∀ i, i < luK V v → V.2.1 i < v) ∧ (luK V v = V.1 ∨ v ≤ V.2.1 (luK V v)) ∧ ((luK V v < V.1 ∧ V.2.1 (luK V v) = v) ↔ V.2.1 (lu V.2.1 v V.1) = v) := by
  obtain ⟨m1, m2, m3, m4, m5, m6, m7⟩ := hM
  have g1 := lu_lt V.2.1 v m1
  have g2 := lu_le (P := V.2.1) (v := v) (by omega) V.1
  unfold luK
  by_cases q : V.2.1 (lu V.2.1 v V.1) = v
  · rw [if_pos q]
    refine ⟨by omega, fun i hi => ?_, Or.inr (by omega), ⟨fun z => z.2, fun z => ⟨g1, z⟩⟩⟩
    have := inc m4 hi g1
    omega
  · rw [if_neg q]
    refine ⟨by omega, fun i hi => ?_, ?_, ⟨fun z => ?_, fun z => absurd z q⟩⟩
    · by_cases e : i = lu V.2.1 v V.1
      · rw [e]
        omega
      · have := inc m4 (show i < lu V.2.1 v V.1 by omega) g1
        omega
    · by_cases e : lu V.2.1 v V.1 + 1 = V.1
      · exact Or.inl e
      · exact Or.inr (Nat.le_of_lt (lu_hi (k := V.1) (by omega) (by omega)))
    · have := lu_hi (P := V.2.1) (v := v) (k := V.1) (i := lu V.2.1 v V.1 + 1) (by omega) z.1
      omega
theorem mkD_ok (hM : mkOk V.1 V.2.1 V.2.2.1 V.2.2.2) (hc : 0 < v ∧ V.2.1 (lu V.2.1 v V.1) = v) : mkOk (mkD V v).1 (mkD V v).2.1 (mkD V v).2.2.1 (mkD V v).2.2.2 := by
  obtain ⟨m1, m2, m3, m4, m5, m6, m7⟩ := hM
  have g1 := lu_lt V.2.1 v m1
  have h0 : lu V.2.1 v V.1 ≠ 0 := fun e => by
    rw [e] at hc
    omega
  refine ⟨by show 0 < V.1 - 1; omega, by show V.1 - 1 ≤ 11; omega, ?_, fun i hi => ?_, dlN_ok (P := fun z => z ≤ 9599) m5, dlN_ok (P := fun z => z ≤ 3000) m6, dlN_ok (P := fun z => z ≤ 16) m7⟩
  · show dlN V.2.1 _ _ 0 = 0
    rw [dlN_o (by omega), m3]
  · have hi' : i + 1 < V.1 - 1 := hi
    show dlN V.2.1 _ _ i < dlN V.2.1 _ _ (i + 1)
    by_cases e : lu V.2.1 v V.1 ≤ i
    · rw [dlN_i ⟨e, by omega⟩, dlN_i ⟨by omega, by omega⟩]
      exact m4 _ (by omega)
    · rw [dlN_o (by omega)]
      by_cases e2 : lu V.2.1 v V.1 ≤ i + 1
      · rw [dlN_i ⟨e2, by omega⟩]
        exact inc m4 (by omega) (by omega)
      · rw [dlN_o (by omega)]
        exact m4 i (by omega)
theorem mkD_al {R : Nat → Nat → Nat → Prop} (h : ∀ i, i < V.1 → R (V.2.1 i) (V.2.2.1 i) (V.2.2.2 i)) : ∀ i, i < (mkD V v).1 → R ((mkD V v).2.1 i) ((mkD V v).2.2.1 i) ((mkD V v).2.2.2 i) := fun i hi => by
  have hi' : i < V.1 - 1 := hi
  show R (dlN _ _ _ i) (dlN _ _ _ i) (dlN _ _ _ i)
  by_cases e : lu V.2.1 v V.1 ≤ i
  · rw [dlN_i ⟨e, hi'⟩, dlN_i ⟨e, hi'⟩, dlN_i ⟨e, hi'⟩]
    exact h _ (by omega)
  · rw [dlN_o (fun z => e z.1), dlN_o (fun z => e z.1), dlN_o (fun z => e z.1)]
    exact h i (by omega)
theorem mkA_ok (hM : mkOk V.1 V.2.1 V.2.2.1 V.2.2.2) (hv : v ≤ 9599) (hy : y ≤ 3000) (hz : z ≤ 16) (hc : V.1 < 11 ∨ V.2.1 (lu V.2.1 v V.1) = v) : mkOk (mkA V v y z).1 (mkA V v y z).2.1 (mkA V v y z).2.2.1 (mkA V v y z).2.2.2 := by
  obtain ⟨m1, m2, m3, m4, m5, m6, m7⟩ := hM
  have g1 := lu_lt V.2.1 v m1
  have g2 := lu_le (P := V.2.1) (v := v) (by omega) V.1
  unfold mkA
  by_cases q : V.2.1 (lu V.2.1 v V.1) = v
  · rw [if_pos q]
    have e : upN V.2.1 (lu V.2.1 v V.1) v = V.2.1 := by
      funext i
      unfold upN
      split
      · rename_i e
        rw [e, q]
      · rfl
    dsimp only
    rw [e]
    exact ⟨m1, m2, m3, m4, m5, upN_ok (P := fun z => z ≤ 3000) hy m6, upN_ok (P := fun z => z ≤ 16) hz m7⟩
  · rw [if_neg q]
    have hn := hc.resolve_right q
    refine ⟨by show 0 < V.1 + 1; omega, by show V.1 + 1 ≤ 11; omega, ?_, fun i hi => ?_, insN_ok (P := fun z => z ≤ 9599) hv m5, insN_ok (P := fun z => z ≤ 3000) hy m6, insN_ok (P := fun z => z ≤ 16) hz m7⟩
    · dsimp only
      rw [inN_o (by omega), m3]
    · have hi' : i + 1 < V.1 + 1 := hi
      show insN V.2.1 _ _ _ i < insN V.2.1 _ _ _ (i + 1)
      by_cases e1 : i + 1 < lu V.2.1 v V.1 + 1
      · rw [inN_o (by omega), inN_o (by omega)]
        exact m4 i (by omega)
      · by_cases e2 : i + 1 = lu V.2.1 v V.1 + 1
        · rw [inN_o (by omega), e2, inN_p, show i = lu V.2.1 v V.1 by omega]
          omega
        · by_cases e3 : i = lu V.2.1 v V.1 + 1
          · rw [e3, inN_p, inN_i (by omega) (by omega)]
            exact lu_hi (k := V.1) (by omega) (by omega)
          · rw [inN_i (by omega) (by omega), inN_i (by omega) (by omega)]
            exact inc m4 (by omega) (by omega)
theorem mkA_al {R : Nat → Nat → Nat → Prop} (hM : mkOk V.1 V.2.1 V.2.2.1 V.2.2.2) (h : ∀ i, i < V.1 → R (V.2.1 i) (V.2.2.1 i) (V.2.2.2 i)) (hn : R v y z) : ∀ i, i < (mkA V v y z).1 → R ((mkA V v y z).2.1 i) ((mkA V v y z).2.2.1 i) ((mkA V v y z).2.2.2 i) := by
  have g1 := lu_lt V.2.1 v hM.1
  unfold mkA
  by_cases q : V.2.1 (lu V.2.1 v V.1) = v
  · rw [if_pos q]
    intro i hi
    have hi' : i < V.1 := hi
    show R (upN _ _ _ i) (upN _ _ _ i) (upN _ _ _ i)
    by_cases e : i = lu V.2.1 v V.1
    · rw [e, upN_at, upN_at, upN_at]
      exact hn
    · rw [upN_o e, upN_o e, upN_o e]
      exact h i hi'
  · rw [if_neg q]
    intro i hi
    have hi' : i < V.1 + 1 := hi
    show R (insN _ _ _ _ i) (insN _ _ _ _ i) (insN _ _ _ _ i)
    by_cases e1 : i < lu V.2.1 v V.1 + 1
    · rw [inN_o e1, inN_o e1, inN_o e1]
      exact h i (by omega)
    · by_cases e2 : i = lu V.2.1 v V.1 + 1
      · rw [e2, inN_p, inN_p, inN_p]
        exact hn
      · rw [inN_i (by omega) (by omega), inN_i (by omega) (by omega), inN_i (by omega) (by omega)]
        exact h _ (by omega)
end
section
variable {S : Sg} {v y z : Nat}
theorem sgG_p {V : MKv} (h : sgG S) (hM : mkOk V.1 V.2.1 V.2.2.1 V.2.2.2) (ha : ∀ i, i < V.1 → 200 ≤ V.2.2.1 i ∧ V.2.2.2 i = 0) : sgG (S.1, S.2.1, V, S.2.2.2) := by
  obtain ⟨⟨a1, a2, a3, a4, a5, a6, a7⟩, g1, g2, g3, g4⟩ := h
  exact ⟨⟨a1, a2, a3, a4, a5, hM, a7⟩, g1, g2, ha, g4⟩
theorem sgG_m {V : MKv} (h : sgG S) (hM : mkOk V.1 V.2.1 V.2.2.1 V.2.2.2) (h16 : ∀ i, V.2.2.1 i ≤ 16) (ha : ∀ i, i < V.1 → V.2.1 i ≤ 99 ∧ (0 < V.2.2.1 i ∧ V.2.2.1 i ≤ 16 ∧ 0 < V.2.2.2 i ∧ V.2.2.2 i ≤ 16)) : sgG (S.1, S.2.1, S.2.2.1, V, S.2.2.2.2) := by
  obtain ⟨⟨a1, a2, a3, a4, a5, a6, a7, a8, a9⟩, g1, g2, g3, g4, g5⟩ := h
  exact ⟨⟨a1, a2, a3, a4, a5, a6, hM, h16, a9⟩, g1, g2, g3, ⟨fun i hi => (ha i hi).2, fun i hi => (ha i hi).1⟩, g5⟩
theorem sgG_pD (h : sgG S) (hc : 0 < v ∧ S.2.2.1.2.1 (lu S.2.2.1.2.1 v S.2.2.1.1) = v) : sgG (S.1, S.2.1, mkD S.2.2.1 v, S.2.2.2) :=
  sgG_p h (mkD_ok h.1.2.2.2.2.2.1 hc) (mkD_al (R := fun _ a b => 200 ≤ a ∧ b = 0) h.2.2.2.1)
theorem sgG_pA (h : sgG S) (hv : v ≤ 9599) (hy : 200 ≤ y ∧ y ≤ 3000) (hc : S.2.2.1.1 < 11 ∨ S.2.2.1.2.1 (lu S.2.2.1.2.1 v S.2.2.1.1) = v) : sgG (S.1, S.2.1, mkA S.2.2.1 v y 0, S.2.2.2) :=
  sgG_p h (mkA_ok h.1.2.2.2.2.2.1 hv hy.2 (by omega) hc) (mkA_al (R := fun _ a b => 200 ≤ a ∧ b = 0) h.1.2.2.2.2.2.1 h.2.2.2.1 ⟨hy.1, rfl⟩)
theorem sgG_mD (h : sgG S) (hc : 0 < v ∧ S.2.2.2.1.2.1 (lu S.2.2.2.1.2.1 v S.2.2.2.1.1) = v) : sgG (S.1, S.2.1, S.2.2.1, mkD S.2.2.2.1 v, S.2.2.2.2) :=
  sgG_m h (mkD_ok h.1.2.2.2.2.2.2.1 hc) (dlN_ok (P := fun z => z ≤ 16) h.1.2.2.2.2.2.2.2.1) (mkD_al (R := fun p a b => p ≤ 99 ∧ (0 < a ∧ a ≤ 16 ∧ 0 < b ∧ b ≤ 16)) (fun i hi => ⟨h.2.2.2.2.1.2 i hi, h.2.2.2.2.1.1 i hi⟩))
theorem sgG_mA (h : sgG S) (hv : v ≤ 99) (hy : 1 ≤ y ∧ y ≤ 16) (hz : 1 ≤ z ∧ z ≤ 16) (hc : S.2.2.2.1.1 < 11 ∨ S.2.2.2.1.2.1 (lu S.2.2.2.1.2.1 v S.2.2.2.1.1) = v) : sgG (S.1, S.2.1, S.2.2.1, mkA S.2.2.2.1 v y z, S.2.2.2.2) := by
  refine sgG_m h (mkA_ok h.1.2.2.2.2.2.2.1 (by omega) (by omega) hz.2 hc) ?_ (mkA_al (R := fun p a b => p ≤ 99 ∧ (0 < a ∧ a ≤ 16 ∧ 0 < b ∧ b ≤ 16)) h.1.2.2.2.2.2.2.1 (fun i hi => ⟨h.2.2.2.2.1.2 i hi, h.2.2.2.2.1.1 i hi⟩) ⟨hv, by omega⟩)
  unfold mkA
  split
  · exact upN_ok (P := fun z => z ≤ 16) hy.2 h.1.2.2.2.2.2.2.2.1
  · exact insN_ok (P := fun z => z ≤ 16) hy.2 h.1.2.2.2.2.2.2.2.1
end
