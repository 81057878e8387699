/-! ===== times, ticks, bars, beats go together ===== -/
theorem sm_mono {f g : Nat → Nat} (h : ∀ i, f i ≤ g i) : ∀ k, sm f k ≤ sm g k
  | 0 => Nat.le_refl _
  | k + 1 => by
    have := sm_mono h k
    have := h k
    show sm f k + f k ≤ sm g k + g k
    omega
theorem sm_0 {f : Nat → Nat} (h : ∀ i, f i = 0) : ∀ k, sm f k = 0
  | 0 => rfl
  | k + 1 => by
    show sm f k + f k = 0
    rw [sm_0 h k, h k]
theorem tmT_mono {P A : Nat → Nat} {n t t' : Nat} (h : t ≤ t') (i : Nat) : tmT P A n t i ≤ tmT P A n t' i := by
  have hto : tmTo P n t i ≤ tmTo P n t' i := by
    unfold tmTo
    split <;> omega
  unfold tmT
  by_cases q : P i < tmTo P n t i ∧ 0 < A i
  · rw [if_pos q, if_pos ⟨by omega, q.2⟩]
    exact Nat.div_le_div_right (Nat.mul_le_mul_right _ (by omega))
  · rw [if_neg q]
    exact Nat.zero_le _
abbrev tmS (S : Sg) (t : Nat) : Nat := sm (tmT S.2.2.1.2.1 S.2.2.1.2.2.1 S.2.2.1.1 t) S.2.2.1.1
theorem tmS_mono {S : Sg} {t t' : Nat} (h : t ≤ t') : tmS S t ≤ tmS S t' := sm_mono (tmT_mono h) _
theorem tmS_0 {S : Sg} : tmS S 0 = 0 := sm_0 (fun i => by
  unfold tmT
  have := tmTo_le S.2.2.1.2.1 S.2.2.1.1 0 i
  rw [if_neg (by omega)]) _
theorem tkA_ge {T : Nat → Nat} {v : Nat} : ∀ k s, s ≤ tkA T v k s
  | 0, _ => Nat.le_refl _
  | k + 1, s => by
    unfold tkA
    split
    · exact Nat.le_trans (Nat.le_add_right _ _) (tkA_ge k _)
    · exact tkA_ge k _
theorem tkA_lt {T : Nat → Nat} {v : Nat} : ∀ k s, s < 100000 → tkA T v k s < 100000
  | 0, _, h => h
  | k + 1, s, h => by
    unfold tkA
    split
    · rename_i q
      exact tkA_lt k _ q.1
    · exact tkA_lt k _ h
theorem tkA_max {T : Nat → Nat} {v : Nat} (hT : ∀ a b, a ≤ b → T a ≤ T b) : ∀ k s t, s ≤ t → t < s + 2 ^ k → t < 100000 → T t ≤ v → t ≤ tkA T v k s
  | 0, s, t, h1, h2, _, _ => by
    have : 2 ^ 0 = 1 := rfl
    show t ≤ s
    omega
  | k + 1, s, t, h1, h2, h3, h4 => by
    unfold tkA
    rw [Nat.pow_succ] at h2
    by_cases c : s + 2 ^ k ≤ t
    · have := hT _ _ c
      rw [if_pos ⟨by omega, by omega⟩]
      exact tkA_max hT k _ t c (by omega) h3 h4
    · split
      · have := tkA_ge (T := T) (v := v) k (s + 2 ^ k)
        omega
      · exact tkA_max hT k s t h1 (by omega) h3 h4
theorem tk_ok {S : Sg} {t : Nat} (ht : t < 100000) : t ≤ tkA (fun t => tmS S t) (tmS S t) 17 0 ∧ tkA (fun t => tmS S t) (tmS S t) 17 0 < 100000 :=
  ⟨tkA_max (T := fun t => tmS S t) (fun _ _ h => tmS_mono h) 17 0 t (Nat.zero_le _) (by have : 2 ^ 17 = 131072 := by decide
                                                                                        omega) ht (Nat.le_refl _), tkA_lt 17 0 (by omega)⟩
/-! bars -/
theorem lu_eq {P : Nat → Nat} {v j : Nat} (h1 : P j ≤ v) : ∀ n, j < n → (∀ i, j < i → i < n → v < P i) → lu P v n = j
  | 0, h, _ => absurd h (Nat.not_lt_zero j)
  | k + 1, h, h2 => by
    unfold lu
    by_cases e : k = j
    · subst e
      rw [if_pos h1]
    · have := h2 k (by omega) (by omega)
      rw [if_neg (by omega)]
      exact lu_eq h1 k (by omega) (fun i h3 h4 => h2 i h3 (by omega))
theorem bar_ok {n t : Nat} {P A B : Nat → Nat} (hM : mkOk n P A B) : bSt n P A B (bAt n P A B t) ≤ t ∧ t < bSt n P A B (bAt n P A B t + 1) := by
  obtain ⟨m1, m2, m3, m4, m5, m6, m7⟩ := hM
  have g1 := lu_lt (sm (bst P A B)) t m1
  have g2 := lu_le (P := sm (bst P A B)) (v := t) (Nat.zero_le _) n
  have g3 : ∀ i, lu (sm (bst P A B)) t n < i → i < n → t < sm (bst P A B) i := fun i h1 h2 => lu_hi h1 h2
  have inc' : ∀ i j, i < j → j < n → P i < P j := fun i j h1 h2 => inc m4 h1 h2
  have rp : 0 < br A B (lu (sm (bst P A B)) t n) := Nat.mul_pos (by omega) (bl_pos _ _)
  unfold bAt
  generalize hj : lu (sm (bst P A B)) t n = j at *
  obtain ⟨q, hq⟩ : ∃ q, q = (t - sm (bst P A B) j) / br A B j := ⟨_, rfl⟩
  rw [← hq]
  have q1 : q * br A B j ≤ t - sm (bst P A B) j := by
    rw [hq]
    exact Nat.div_mul_le_self _ _
  have q2 : t - sm (bst P A B) j < (q + 1) * br A B j := by
    rw [hq, Nat.mul_comm]
    exact Nat.lt_mul_div_succ _ rp
  have st1 : sm (bst P A B) (j + 1) = sm (bst P A B) j + (P (j + 1) - P j) * br A B j := rfl
  have q3 : j + 1 < n → q < P (j + 1) - P j := fun h => by
    have z := g3 (j + 1) (by omega) h
    rw [st1] at z
    have z2 : q * br A B j < (P (j + 1) - P j) * br A B j := by omega
    exact Nat.lt_of_mul_lt_mul_right z2
  have l1 : lu P (P j + q) n = j := lu_eq (by omega) n g1 (fun i h1 h2 => by
    have := q3 (by omega)
    by_cases e : i = j + 1
    · rw [e]
      omega
    · have := inc' (j + 1) i (by omega) h2
      omega)
  constructor
  · unfold bSt
    rw [l1, show P j + q - P j = q by omega]
    omega
  · unfold bSt
    by_cases e : j + 1 < n ∧ P j + q + 1 = P (j + 1)
    · have l2 : lu P (P j + q + 1) n = j + 1 := lu_eq (by omega) n e.1 (fun i h1 h2 => by
        have := inc' (j + 1) i (by omega) h2
        omega)
      rw [l2, e.2, Nat.sub_self, Nat.zero_mul, Nat.add_zero]
      exact g3 (j + 1) (by omega) e.1
    · have l2 : lu P (P j + q + 1) n = j := lu_eq (by omega) n g1 (fun i h1 h2 => by
        have := q3 (by omega)
        by_cases e2 : i = j + 1
        · rw [e2]
          have : P j + q + 1 ≠ P (j + 1) := fun z => e ⟨by omega, z⟩
          omega
        · have := inc' (j + 1) i (by omega) h2
          omega)
      rw [l2, show P j + q + 1 - P j = q + 1 by omega]
      omega
theorem beat_ok {n t : Nat} {P A B : Nat → Nat} (hA : ∀ i, A i ≤ 16) : btAt n P A B t ≤ 15 := by
  unfold btAt
  generalize lu (sm (bst P A B)) t n = j
  have b0 := bl_pos B j
  have a16 := hA j
  have : (t - sm (bst P A B) j) % br A B j / bl B j < max 1 (A j) := by
    refine (Nat.div_lt_iff_lt_mul b0).mpr ?_
    exact Nat.mod_lt _ (Nat.mul_pos (by omega) b0)
  omega
theorem bAt_b {n t : Nat} {P A B : Nat → Nat} (hn : 0 < n) (ht : t ≤ 2999) (hP : ∀ i, i < n → P i ≤ 99) (hB : ∀ i, i < n → 0 < B i ∧ B i ≤ 16) : bAt n P A B t ≤ 223 := by
  unfold bAt
  have g1 := lu_lt (sm (bst P A B)) t hn
  generalize lu (sm (bst P A B)) t n = j at *
  have p9 := hP j g1
  obtain ⟨b1, b2⟩ := hB j g1
  have bl24 : 24 ≤ bl B j := by
    unfold bl
    rw [if_pos b1]
    have : 384 / 16 ≤ 384 / B j := Nat.div_le_div_left b2 b1
    omega
  have br24 : 24 ≤ br A B j := by
    have : 1 * 24 ≤ max 1 (A j) * bl B j := Nat.mul_le_mul (by omega) bl24
    unfold br
    omega
  have : (t - sm (bst P A B) j) / br A B j ≤ 2999 / 24 := Nat.le_trans (Nat.div_le_div_left br24 (by omega)) (Nat.div_le_div_right (by omega))
  omega
theorem bSt_0 {n : Nat} {P A B : Nat → Nat} (hM : mkOk n P A B) : bSt n P A B 0 = 0 := by
  obtain ⟨m1, m2, m3, m4, m5, m6, m7⟩ := hM
  have l : lu P 0 n = 0 := lu_eq (by omega) n m1 (fun i h1 h2 => by
    have := inc m4 h1 h2
    omega)
  unfold bSt
  rw [l, Nat.zero_sub, Nat.zero_mul]
  rfl
theorem bSt_b {n v : Nat} {P A B : Nat → Nat} (hM : mkOk n P A B) (hA : ∀ i, A i ≤ 16) (hv : v ≤ 999) : bSt n P A B v < 2147483648 := by
  have hk := lu_lt P v hM.1
  have z := bsm_le hM hA (k := lu P v n) (by have := hM.2.1; omega)
  have b1 : br A B (lu P v n) ≤ 16 * 384 := by
    have a16 := hA (lu P v n)
    exact Nat.mul_le_mul (by omega) (bl_le _ _)
  unfold bSt
  have : (v - P (lu P v n)) * br A B (lu P v n) ≤ 999 * (16 * 384) := Nat.mul_le_mul (by omega) b1
  omega
