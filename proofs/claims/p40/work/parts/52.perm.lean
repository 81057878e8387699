/-! ===== rows with the same values: swapped, counted ===== -/
/-- how often one value is another one -/
def is1 (a v : Nat) : Nat := if a = v then 1 else 0
theorem cn_k (F : Nat → Nat) (v k : Nat) : cn F v (k + 1) = cn F v k + is1 (F k) v := rfl
theorem cn_upN {F : Nat → Nat} {p c v : Nat} : ∀ {N : Nat}, p < N → cn (upN F p c) v N + is1 (F p) v = cn F v N + is1 c v
  | 0, h => absurd h (Nat.not_lt_zero p)
  | N + 1, h => by
    rw [cn_k, cn_k]
    by_cases e : p = N
    · subst e
      rw [cn_up (Nat.le_refl p), upN_at]
      omega
    · have ih := cn_upN (F := F) (p := p) (c := c) (v := v) (show p < N by omega)
      rw [upN_o (show N ≠ p by omega)]
      omega
theorem cn_le_s {F : Nat → Nat} {v a : Nat} : ∀ {b : Nat}, a ≤ b → cn F v a ≤ cn F v b
  | 0, h => by
    obtain rfl : a = 0 := by omega
    exact Nat.le_refl _
  | b + 1, h => by
    by_cases e : a = b + 1
    · rw [e]
      exact Nat.le_refl _
    · have := cn_le_s (F := F) (v := v) (show a ≤ b by omega)
      rw [cn_k]
      omega
theorem cn_in {F : Nat → Nat} {v a j : Nat} (hj : F j = v) : ∀ {b : Nat}, a ≤ j → j < b → cn F v a < cn F v b
  | 0, _, h => absurd h (Nat.not_lt_zero j)
  | b + 1, h1, h2 => by
    rw [cn_k]
    by_cases e : j = b
    · subst e
      have := cn_le_s (F := F) (v := v) h1
      rw [show is1 (F j) v = 1 from if_pos hj]
      omega
    · have := cn_in hj (b := b) h1 (by omega)
      omega
theorem cn_ex {F : Nat → Nat} {v a : Nat} : ∀ {b : Nat}, cn F v a < cn F v b → a ≤ b → ∃ j, a ≤ j ∧ j < b ∧ F j = v
  | 0, h, h2 => by
    obtain rfl : a = 0 := by omega
    exact absurd h (Nat.lt_irrefl _)
  | b + 1, h, h2 => by
    by_cases e : a = b + 1
    · rw [e] at h
      exact absurd h (Nat.lt_irrefl _)
    · by_cases e2 : F b = v
      · exact ⟨b, by omega, by omega, e2⟩
      · rw [cn_k, show is1 (F b) v = 0 from if_neg e2] at h
        obtain ⟨j, h1, h3, h4⟩ := cn_ex (F := F) (v := v) (a := a) (b := b) (by omega) (by omega)
        exact ⟨j, h1, by omega, h4⟩
/-- C' holds from a up to b what C holds there, in some order, and is C elsewhere -/
def prm (a b : Nat) (C C' : Nat → Nat) : Prop := (∀ i, i < a ∨ b ≤ i → C' i = C i) ∧ ∀ v, cn C' v b = cn C v b
theorem prm_r (a b : Nat) (C : Nat → Nat) : prm a b C C := ⟨fun _ _ => rfl, fun _ => rfl⟩
theorem prm_t {a b : Nat} {C D E : Nat → Nat} (h1 : prm a b C D) (h2 : prm a b D E) : prm a b C E :=
  ⟨fun i hi => (h2.1 i hi).trans (h1.1 i hi), fun v => (h2.2 v).trans (h1.2 v)⟩
theorem cn_out {C D : Nat → Nat} {v b : Nat} (h : cn D v b = cn C v b) (ho : ∀ i, b ≤ i → D i = C i) : ∀ {b' : Nat}, b ≤ b' → cn D v b' = cn C v b'
  | 0, hb => by
    obtain rfl : b = 0 := by omega
    exact h
  | b' + 1, hb => by
    by_cases e : b = b' + 1
    · rw [← e]
      exact h
    · rw [cn_k, cn_k, cn_out h ho (b' := b') (by omega), ho b' (by omega)]
theorem prm_m {a b a' b' : Nat} {C D : Nat → Nat} (h : prm a b C D) (h1 : a' ≤ a) (h2 : b ≤ b') : prm a' b' C D :=
  ⟨fun i hi => h.1 i (by omega), fun v => cn_out (h.2 v) (fun i hi => h.1 i (Or.inr hi)) h2⟩
theorem prm_ex {a b : Nat} {C D : Nat → Nat} (h : prm a b C D) {i : Nat} (h1 : a ≤ i) (h2 : i < b) : ∃ j, a ≤ j ∧ j < b ∧ C j = D i := by
  have e := cn_in (F := D) (v := D i) (a := a) rfl h1 h2
  rw [h.2, cn_congr (fun k hk => h.1 k (Or.inl hk))] at e
  exact cn_ex e (by omega)
theorem prm_all {a b : Nat} {C D : Nat → Nat} (h : prm a b C D) {P : Nat → Prop} (hP : ∀ i, a ≤ i → i < b → P (C i)) : ∀ i, a ≤ i → i < b → P (D i) := fun i h1 h2 => by
  obtain ⟨j, j1, j2, j3⟩ := prm_ex h h1 h2
  rw [← j3]
  exact hP j j1 j2
theorem prm_bd {a b : Nat} {C D : Nat → Nat} (h : prm a b C D) {P : Nat → Prop} (hP : ∀ i, P (C i)) : ∀ i, P (D i) := fun i => by
  by_cases e : i < a ∨ b ≤ i
  · rw [h.1 i e]
    exact hP i
  · exact prm_all h (fun i _ _ => hP i) i (by omega) (by omega)
/-- two places swapped -/
theorem prm_s {a b i j : Nat} {C : Nat → Nat} (hi : a ≤ i ∧ i < b) (hj : a ≤ j ∧ j < b) : prm a b C (upN (upN C i (C j)) j (C i)) := by
  refine ⟨fun k hk => ?_, fun v => ?_⟩
  · rw [upN_o (by omega), upN_o (by omega)]
  · have h1 := cn_upN (F := upN C i (C j)) (p := j) (c := C i) (v := v) hj.2
    have h2 := cn_upN (F := C) (p := i) (c := C j) (v := v) hi.2
    have h3 : upN C i (C j) j = C j := by
      unfold upN
      split <;> rfl
    rw [h3] at h1
    omega
theorem prm_e {a b : Nat} {C D D' : Nat → Nat} (h : prm a b C D) (e : D = D') : prm a b C D' := e ▸ h
/-- a place that is written to gets what another one holds, which becomes free -/
theorem hole_s {a b i j x : Nat} {C : Nat → Nat} (hi : a ≤ i ∧ i < b) (hj : a ≤ j ∧ j < b) (hne : i ≠ j) : prm a b (upN C i x) (upN (upN C i (C j)) j x) := by
  refine prm_e (prm_s (C := upN C i x) hi hj) ?_
  funext k
  unfold upN
  by_cases e1 : k = j
  · rw [if_pos e1, if_pos e1, if_pos rfl]
  · rw [if_neg e1, if_neg e1]
    by_cases e2 : k = i
    · rw [if_pos e2, if_pos e2, if_neg (fun z => hne z.symm)]
    · rw [if_neg e2, if_neg e2, if_neg e2]
theorem upN_2 {C : Nat → Nat} {i x y : Nat} : upN (upN C i x) i y = upN C i y := by
  funext k
  unfold upN
  by_cases e : k = i
  · rw [if_pos e, if_pos e]
  · rw [if_neg e, if_neg e, if_neg e]
theorem upN_c {C : Nat → Nat} {i j x y : Nat} (h : i ≠ j) : upN (upN C i x) j y = upN (upN C j y) i x := by
  funext k
  unfold upN
  by_cases e : k = i
  · rw [if_pos e, if_neg (by omega), if_pos e]
  · rw [if_neg e, if_neg e]
theorem upN_id {C : Nat → Nat} {i : Nat} : upN C i (C i) = C := by
  funext k
  unfold upN
  by_cases e : k = i
  · rw [if_pos e, e]
  · rw [if_neg e]
/-! what is sorted -/
theorem sor_s {C : Nat → Nat} {a b : Nat} (h : b ≤ a + 1) : sor C a b := fun i j h1 h2 h3 => by omega
theorem sor_m {C : Nat → Nat} {a b a' b' : Nat} (h : sor C a b) (h1 : a ≤ a') (h2 : b' ≤ b) : sor C a' b' := fun i j h3 h4 h5 => h i j (by omega) h4 (by omega)
theorem sor_e {C D : Nat → Nat} {a b : Nat} (h : sor C a b) (he : ∀ i, a ≤ i → i < b → D i = C i) : sor D a b := fun i j h3 h4 h5 => by
  rw [he i h3 (by omega), he j (by omega) h5]
  exact h i j h3 h4 h5
/-- one more -/
theorem sor_1 {C : Nat → Nat} {a b : Nat} (h : sor C a b) (hb : b ≤ a ∨ C (b - 1) ≤ C b) : sor C a (b + 1) := fun i j h1 h2 h3 => by
  by_cases e : j = b
  · rw [e]
    by_cases e2 : i = b - 1
    · rw [e2]
      exact hb.resolve_left (by omega)
    · have := h i (b - 1) h1 (by omega) (by omega)
      have := hb.resolve_left (by omega)
      omega
  · exact h i j h1 h2 (by omega)
/-- two parts, the one below the other -/
theorem sor_2 {C : Nat → Nat} {a b c : Nat} (h1 : sor C a b) (h2 : sor C b c) (h3 : ∀ i j, a ≤ i → i < b → b ≤ j → j < c → C i ≤ C j) : sor C a c := fun i j k1 k2 k3 => by
  by_cases e1 : j < b
  · exact h1 i j k1 k2 e1
  · by_cases e2 : i < b
    · exact h3 i j k1 e2 (by omega) k3
    · exact h2 i j (by omega) k2 k3
/-- what is sorted and has the same values is the same -/
theorem sor_u {C D : Nat → Nat} {n : Nat} (h1 : sor C 0 n) (h2 : sor D 0 n) (h3 : ∀ v, cn C v n = cn D v n) : ∀ i, i < n → C i = D i := by
  have key : ∀ (C D : Nat → Nat), sor C 0 n → sor D 0 n → (∀ v, cn C v n = cn D v n) → ∀ i, i < n → (∀ k, k < i → C k = D k) → C i ≤ D i := by
    intro C D h1 h2 h3 i hi hk
    have e := cn_in (F := D) (v := D i) (a := i) rfl (Nat.le_refl i) hi
    rw [← h3, ← cn_congr (F := C) (fun k hk2 => hk k hk2)] at e
    obtain ⟨j, j1, j2, j3⟩ := cn_ex e (by omega)
    rw [← j3]
    by_cases e2 : i = j
    · rw [e2]
      exact Nat.le_refl _
    · exact h1 i j (by omega) (by omega) j2
  intro i
  induction i using Nat.strongRecOn with
  | ind i ih =>
    intro hi
    have a1 := key C D h1 h2 h3 i hi (fun k hk => ih k hk (by omega))
    have a2 := key D C h2 h1 (fun v => (h3 v).symm) i hi (fun k hk => (ih k hk (by omega)).symm)
    omega
/-! one is sorted in: i is free, x comes there or further down -/
