/-! ===== both ways to look for a tick find the same ===== -/
theorem sm_mono {f g : Nat → Nat} (h : ∀ i, f i ≤ g i) : ∀ k, sm f k ≤ sm g k
  | 0 => Nat.le_refl 0
  | k + 1 => by
    have h1 := sm_mono h k
    have h2 := h k
    show sm f k + f k ≤ sm g k + g k
    omega
theorem tmT_mono {P V : Nat → Nat} {n s t : Nat} (h : s ≤ t) (i : Nat) : tmT P V n s i ≤ tmT P V n t i := by
  have e1 : tmTo P n s i ≤ tmTo P n t i := by
    unfold tmTo
    split <;> omega
  unfold tmT
  by_cases q : P i < tmTo P n s i ∧ 0 < V i
  · rw [if_pos q, if_pos ⟨by omega, q.2⟩]
    exact Nat.div_le_div_right (Nat.mul_le_mul_right _ (by omega))
  · rw [if_neg q]
    exact Nat.zero_le _
theorem tm_mono {P V : Nat → Nat} {n s t : Nat} (h : s ≤ t) : sm (tmT P V n s) n ≤ sm (tmT P V n t) n := sm_mono (tmT_mono h) n
theorem tm_0 {P V : Nat → Nat} {n : Nat} : sm (tmT P V n 0) n = 0 := by
  have : ∀ k, sm (tmT P V n 0) k = 0 := by
    intro k
    induction k with
    | zero => rfl
    | succ k ih =>
      show sm (tmT P V n 0) k + tmT P V n 0 k = 0
      rw [ih]
      unfold tmT
      rw [if_neg (by have := tmTo_le P n 0 k; omega)]
  exact this n
theorem tkA_spec {T : Nat → Nat} {v : Nat} (hm : ∀ s t, s ≤ t → T s ≤ T t) : ∀ k t, T t ≤ v → t < 100000 → (∀ s, t + 2 ^ k ≤ s → s < 100000 → v < T s) →
    tkA T v k t < 100000 ∧ T (tkA T v k t) ≤ v ∧ ∀ s, tkA T v k t < s → s < 100000 → v < T s := by
  intro k
  induction k with
  | zero =>
    intro t h1 h2 h3
    have e0 : (2 : Nat) ^ 0 = 1 := rfl
    rw [e0] at h3
    exact ⟨h2, h1, fun s hs => h3 s (by show t + 1 ≤ s; exact hs)⟩
  | succ k ih =>
    intro t h1 h2 h3
    have e0 : (2 : Nat) ^ (k + 1) = 2 ^ k * 2 := Nat.pow_succ 2 k
    rw [e0] at h3
    unfold tkA
    by_cases q : t + 2 ^ k < 100000 ∧ T (t + 2 ^ k) ≤ v
    · rw [if_pos q]
      exact ih (t + 2 ^ k) q.2 q.1 (fun s hs => h3 s (by omega))
    · rw [if_neg q]
      refine ih t h1 h2 (fun s hs hs2 => ?_)
      have q2 : ¬ T (t + 2 ^ k) ≤ v := fun z => q ⟨by omega, z⟩
      have := hm (t + 2 ^ k) s hs
      omega
theorem tkB_spec {T : Nat → Nat} {v : Nat} : ∀ k a b, T a ≤ v → a ≤ b → b - a < 2 ^ k → (∀ s, b < s → s < 100000 → v < T s) → (∀ s t, s ≤ t → T s ≤ T t) →
    tkB T v k a b ≤ b ∧ T (tkB T v k a b) ≤ v ∧ ∀ s, tkB T v k a b < s → s < 100000 → v < T s := by
  intro k
  induction k with
  | zero =>
    intro a b h1 h2 h3 h4 hm
    have e0 : (2 : Nat) ^ 0 = 1 := rfl
    rw [e0] at h3
    obtain rfl : a = b := by omega
    exact ⟨Nat.le_refl _, h1, h4⟩
  | succ k ih =>
    intro a b h1 h2 h3 h4 hm
    have e0 : (2 : Nat) ^ (k + 1) = 2 ^ k * 2 := Nat.pow_succ 2 k
    rw [e0] at h3
    unfold tkB
    by_cases q : a < b
    · rw [if_pos q]
      by_cases q2 : T ((a + b + 1) / 2) ≤ v
      · rw [if_pos q2]
        exact ih _ _ q2 (by omega) (by omega) h4 hm
      · rw [if_neg q2]
        have := ih a ((a + b + 1) / 2 - 1) h1 (by omega) (by omega) (fun s hs hs2 => by
          have := hm ((a + b + 1) / 2) s (by omega)
          omega) hm
        exact ⟨by omega, this.2.1, this.2.2⟩
    · rw [if_neg q]
      obtain rfl : a = b := by omega
      exact ⟨Nat.le_refl _, h1, h4⟩
theorem tk_AB {P V : Nat → Nat} {n v : Nat} : tkA (fun t => sm (tmT P V n t) n) v 17 0 = tkB (fun t => sm (tmT P V n t) n) v 17 0 99999 := by
  have hm : ∀ s t : Nat, s ≤ t → (fun t => sm (tmT P V n t) n) s ≤ (fun t => sm (tmT P V n t) n) t := fun s t h => tm_mono h
  have h0 : (fun t => sm (tmT P V n t) n) 0 ≤ v := by
    show sm (tmT P V n 0) n ≤ v
    rw [tm_0]
    exact Nat.zero_le v
  have e17 : (2 : Nat) ^ 17 = 131072 := by decide
  obtain ⟨a1, a2, a3⟩ := tkA_spec hm 17 0 h0 (by omega) (fun s hs hs2 => by rw [e17] at hs; omega)
  obtain ⟨b1, b2, b3⟩ := tkB_spec 17 0 99999 h0 (by omega) (by rw [e17]; omega) (fun s hs hs2 => by omega) hm
  generalize tkA (fun t => sm (tmT P V n t) n) v 17 0 = x at a1 a2 a3
  generalize tkB (fun t => sm (tmT P V n t) n) v 17 0 99999 = z at b1 b2 b3
  rcases Nat.lt_trichotomy x z with e | e | e
  · have := a3 z e (by omega)
    exact absurd b2 (by omega)
  · exact e
  · have := b3 x e (by omega)
    exact absurd a2 (by omega)
