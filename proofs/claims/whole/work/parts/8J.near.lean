/-! ===== the nearest line, and where notes are drawn, do not pass each other ===== -/
section
variable {a a' s p q : Nat}
theorem ln_m (hs : 1 ≤ s) (hp : p ≤ 75) : ∀ {k j : Nat}, j < k → lnI s p (j : Int) < lnI s p (k : Int)
  | 0, j, h => absurd h (Nat.not_lt_zero j)
  | k + 1, j, h => by
    have u := ln_up (k := k) hs hp
    by_cases e : j = k
    · rw [e]
      exact u
    · have := ln_m hs hp (show j < k by omega)
      omega
/-- nearest among the lines from i to k, of two the earlier -/
def arg (a s p i k : Nat) (b : Int) : Prop := (∃ j : Nat, b = lnI s p j) ∧ b < 9600 ∧ ∀ j : Nat, i ≤ j → j < k → lnI s p j < 9600 → (b - a).natAbs ≤ (lnI s p j - a).natAbs ∧ ((b - a).natAbs = (lnI s p j - a).natAbs → b ≤ lnI s p j)
theorem tg_arg (hs : 1 ≤ s) (hp : p ≤ 75) {i : Nat} : ∀ (m k : Nat) (b : Int), arg a s p i k b → b ≤ lnI s p k → arg a s p i (k + m) (tgR a s p m k b)
  | 0, _, _, h, _ => h
  | m + 1, k, b, h, hb => by
    have u := ln_up (k := k) hs hp
    have st : arg a s p i (k + 1) (tgS a (lnI s p k) b) ∧ tgS a (lnI s p k) b ≤ lnI s p ((k + 1 : Nat) : Int) := by
      unfold tgS
      by_cases c : lnI s p k < 9600 ∧ ((lnI s p k - a).natAbs : Int) < ((b - a).natAbs : Int)
      · rw [if_pos c]
        refine ⟨⟨⟨k, rfl⟩, c.1, fun j h1 h2 h3 => ?_⟩, by omega⟩
        by_cases e : j = k
        · rw [e]
          exact ⟨Nat.le_refl _, fun _ => Int.le_refl _⟩
        · have := h.2.2 j h1 (by omega) h3
          omega
      · rw [if_neg c]
        refine ⟨⟨h.1, h.2.1, fun j h1 h2 h3 => ?_⟩, by omega⟩
        by_cases e : j = k
        · rw [e] at h3 ⊢
          exact ⟨by omega, fun _ => hb⟩
        · exact h.2.2 j h1 (by omega) h3
    have z := tg_arg hs hp m (k + 1) _ st.1 st.2
    rw [show k + 1 + m = k + (m + 1) by omega] at z
    exact z
theorem nr_arg (ha : a ≤ 9599) (hs : 1 ≤ s) (hp : p ≤ 75) : ∀ k, arg a s p 0 k (nrI a s p) := by
  have l0 : lnI s p ((0 : Nat) : Int) = 0 := by
    rw [ln_n]
    rw [if_neg (by omega), Nat.zero_mul]
    rfl
  have le := fun k => ln_le (a := a) (s := s) (p := p) (k := k) hs hp
  have gt := fun k => ln_gt (a := a) (s := s) (p := p) (k := k) hs
  have tg := nr_tg (a := a) ha hs hp
  generalize a / s = v at le gt tg
  have z := tg_arg (a := a) hs hp (i := v - 2) (v + 2 - (v - 2) + 1) (v - 2) 0 ⟨⟨0, l0.symm⟩, by omega, fun j h1 h2 => by omega⟩ ln_0
  rw [← tg, show v - 2 + (v + 2 - (v - 2) + 1) = v + 3 by omega] at z
  intro k
  refine ⟨z.1, z.2.1, fun j _ _ h3 => ?_⟩
  by_cases c1 : j < v - 2
  · have l1 := ln_m hs hp c1
    have l2 := le (v - 2) (by omega)
    have y := z.2.2 (v - 2) (Nat.le_refl _) (by omega) (by omega)
    omega
  · by_cases c2 : j < v + 3
    · exact z.2.2 j (by omega) c2 h3
    · have l1 := ln_m hs hp (show v + 2 < j by omega)
      have l2 := gt (v + 2) (by omega)
      have y := z.2.2 (v + 2) (by omega) (by omega) (by omega)
      omega
theorem nr_m (h : a ≤ a') (ha : a' ≤ 9599) (hs : 1 ≤ s) (hp : p ≤ 75) : nrI a s p ≤ nrI a' s p := by
  obtain ⟨⟨i, hi⟩, b1, -⟩ := nr_arg (a := a) (by omega) hs hp 0
  obtain ⟨⟨j, hj⟩, b2, -⟩ := nr_arg ha hs hp 0
  have y1 := (nr_arg (a := a) (by omega) hs hp (j + 1)).2.2 j (Nat.zero_le _) (by omega) (by omega)
  have y2 := (nr_arg ha hs hp (i + 1)).2.2 i (Nat.zero_le _) (by omega) (by omega)
  rw [← hj] at y1
  rw [← hi] at y2
  omega
theorem td_c (x : Int) : (0 ≤ x → x.tdiv 100 = x / 100) ∧ (x < 0 → x.tdiv 100 = -(-x / 100)) := by
  constructor
  · intro h
    exact Int.tdiv_eq_ediv_of_nonneg h
  · intro h
    have e : x = -(-x) := (Int.neg_neg x).symm
    have e2 : x.tdiv 100 = -((-x).tdiv 100) := by
      rw [← Int.neg_tdiv, Int.neg_neg]
    rw [e2, Int.tdiv_eq_ediv_of_nonneg (by omega)]
theorem dr_m (h : a ≤ a') (ha : a' ≤ 9599) (hs : 1 ≤ s) (hp : p ≤ 75) (hq : q ≤ 100) : drI a s p q ≤ drI a' s p q := by
  have nm := nr_m h ha hs hp
  unfold drI
  generalize nrI a s p = N at *
  generalize nrI a' s p = N' at *
  have e1 : (N - a) * (q : Int) ≤ (N' - a) * q := Int.mul_le_mul_of_nonneg_right (by omega) (by omega)
  have e2 : (N' - a) * (q : Int) = (N' - a') * q + ((a' : Int) - a) * q := by
    rw [← Int.add_mul]
    congr 1
    omega
  have e3 : ((a' : Int) - a) * (q : Int) ≤ ((a' : Int) - a) * 100 := Int.mul_le_mul_of_nonneg_left (by omega) (by omega)
  generalize (N - a) * (q : Int) = X at *
  generalize (N' - a') * (q : Int) = Y at *
  generalize (N' - a) * (q : Int) = U at *
  generalize ((a' : Int) - a) * (q : Int) = V at *
  have t1 := td_c X
  have t2 := td_c Y
  by_cases c1 : 0 ≤ X
  · have u1 := t1.1 c1
    by_cases c2 : 0 ≤ Y
    · have u2 := t2.1 c2
      omega
    · have u2 := t2.2 (by omega)
      omega
  · have u1 := t1.2 (by omega)
    by_cases c2 : 0 ≤ Y
    · have u2 := t2.1 c2
      omega
    · have u2 := t2.2 (by omega)
      omega
end
