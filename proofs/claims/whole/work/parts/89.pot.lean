/-! ===== how many notes begin together ===== -/
def ek (a b : Nat) : Nat := if a / 16777216 = b / 16777216 then 1 else 0
def sqK (F : Nat → Nat) (m : Nat) : Nat := sm (fun i => sm (fun j => ek (F i) (F j)) m) m
/-- ordered pairs of notes of one track and one start -/
def pot (S : Sg) : Nat := sqK S.1.2 S.1.1 - S.1.1
theorem sm_hi {f : Nat → Nat} {b : Nat} : ∀ {m}, (∀ i, i < m → f i ≤ b) → sm f m ≤ m * b
  | 0, _ => Nat.zero_le _
  | m + 1, h => by
    have h1 := sm_hi (m := m) (fun i hi => h i (by omega))
    have h2 := h m (by omega)
    show sm f m + f m ≤ (m + 1) * b
    rw [Nat.succ_mul]
    omega
theorem sm_lo {f : Nat → Nat} : ∀ {m}, (∀ i, i < m → 1 ≤ f i) → m ≤ sm f m
  | 0, _ => Nat.le_refl _
  | m + 1, h => by
    have h1 := sm_lo (m := m) (fun i hi => h i (by omega))
    have h2 := h m (by omega)
    show m + 1 ≤ sm f m + f m
    omega
theorem sm_in {f : Nat → Nat} {i : Nat} : ∀ {m}, i < m → f i ≤ sm f m
  | 0, h => absurd h (Nat.not_lt_zero i)
  | m + 1, h => by
    show f i ≤ sm f m + f m
    by_cases e : i = m
    · rw [e]
      omega
    · have := sm_in (f := f) (m := m) (i := i) (by omega)
      omega
theorem sm_mon {f g : Nat → Nat} : ∀ {m}, (∀ i, i < m → f i ≤ g i) → sm f m ≤ sm g m
  | 0, _ => Nat.le_refl _
  | m + 1, h => by
    have h1 := sm_mon (m := m) (fun i hi => h i (by omega))
    have h2 := h m (by omega)
    show sm f m + f m ≤ sm g m + g m
    omega
theorem sq_b (F : Nat → Nat) (m : Nat) : m ≤ sqK F m ∧ sqK F m ≤ m * m := by
  constructor
  · refine sm_lo (fun i hi => Nat.le_trans ?_ (sm_in (f := fun j => ek (F i) (F j)) hi))
    exact Nat.le_of_eq (if_pos rfl).symm
  · refine sm_hi (fun i _ => ?_)
    have z := sm_hi (f := fun j => ek (F i) (F j)) (b := 1) (m := m) (fun j _ => by
      show (if _ then 1 else 0) ≤ 1
      split <;> omega)
    omega
theorem pot_b {S : Sg} (h : S.1.1 ≤ 60) : pot S ≤ 3540 := by
  have ⟨h1, h2⟩ := sq_b S.1.2 S.1.1
  have h3 : S.1.1 * S.1.1 ≤ 60 * S.1.1 := Nat.mul_le_mul_right _ h
  unfold pot
  omega
/-- a sum over a list with one put in -/
theorem sm_ins {f F : Nat → Nat} {p c : Nat} : ∀ {m}, p ≤ m → sm (fun i => f (insN F p m c i)) (m + 1) = sm (fun i => f (F i)) m + f c := by
  intro m
  have key : ∀ m k, p ≤ k → k ≤ m → sm (fun i => f (insN F p m c i)) (k + 1) = sm (fun i => f (F i)) k + f c := by
    intro m k
    induction k with
    | zero =>
      intro hp _
      obtain rfl : p = 0 := by omega
      show 0 + f (insN F 0 m c 0) = 0 + f c
      rw [inN_p]
    | succ k ih =>
      intro hp hk
      show sm (fun i => f (insN F p m c i)) (k + 1) + f (insN F p m c (k + 1)) = sm (fun i => f (F i)) k + f (F k) + f c
      by_cases e : p = k + 1
      · rw [← e, inN_p, e]
        have z : sm (fun i => f (insN F (k + 1) m c i)) (k + 1) = sm (fun i => f (F i)) (k + 1) := sm_congr (fun i hi => by rw [inN_o (by omega)])
        rw [z]
        rfl
      · rw [ih (by omega) (by omega), inN_i (by omega) (by omega), Nat.add_sub_cancel]
        omega
  exact fun hp => key m m hp (Nat.le_refl _)
theorem sq_ins {F : Nat → Nat} {p m c : Nat} (hp : p ≤ m) : sqK F m + 1 ≤ sqK (insN F p m c) (m + 1) := by
  unfold sqK
  have e1 : ∀ a, sm (fun j => ek a (insN F p m c j)) (m + 1) = sm (fun j => ek a (F j)) m + ek a c := fun a => sm_ins (f := ek a) hp
  have e2 : sm (fun i => sm (fun j => ek (insN F p m c i) (insN F p m c j)) (m + 1)) (m + 1) = sm (fun i => sm (fun j => ek (insN F p m c i) (F j)) m + ek (insN F p m c i) c) (m + 1) := sm_congr (fun i _ => e1 _)
  have e3 : sm (fun i => sm (fun j => ek (insN F p m c i) (F j)) m + ek (insN F p m c i) c) (m + 1) = sm (fun i => sm (fun j => ek (F i) (F j)) m + ek (F i) c) m + (sm (fun j => ek c (F j)) m + ek c c) := sm_ins (f := fun a => sm (fun j => ek a (F j)) m + ek a c) hp
  have e4 : sm (fun i => sm (fun j => ek (F i) (F j)) m) m ≤ sm (fun i => sm (fun j => ek (F i) (F j)) m + ek (F i) c) m := sm_mon (fun i _ => Nat.le_add_right _ _)
  have e5 : ek c c = 1 := if_pos rfl
  rw [e2, e3, e5]
  omega
/-- sorting leaves the pairs -/
theorem sm_srt {f F : Nat → Nat} {m : Nat} : ∀ k, k ≤ m → sm (fun i => f (srtN F k i)) m = sm (fun i => f (F i)) m
  | 0, _ => rfl
  | k + 1, hk => by
    have ih := sm_srt (f := f) (F := F) (m := m) k (by omega)
    rw [← ih]
    have hp := sk_le (srtN F k) (srtN F k k) k
    have e1 := sm_ins (f := f) (F := srtN F k) (c := srtN F k k) hp
    have key : ∀ s, sm (fun i => f (srtN F (k + 1) i)) (k + 1 + s) = sm (fun i => f (srtN F k i)) (k + 1 + s) := by
      intro s
      induction s with
      | zero => exact e1
      | succ s ih2 =>
        show sm (fun i => f (srtN F (k + 1) i)) (k + 1 + s) + f (srtN F (k + 1) (k + 1 + s)) = sm (fun i => f (srtN F k i)) (k + 1 + s) + f (srtN F k (k + 1 + s))
        rw [ih2, srtN_hi F (k + 1) _ (by omega), srtN_hi F k _ (by omega)]
    have z := key (m - k - 1)
    rw [show k + 1 + (m - k - 1) = m by omega] at z
    exact z
theorem sq_srt {F : Nat → Nat} {m : Nat} : sqK (srtN F m) m = sqK F m := by
  unfold sqK
  have e1 : ∀ a, sm (fun j => ek a (srtN F m j)) m = sm (fun j => ek a (F j)) m := fun a => sm_srt (f := ek a) m (Nat.le_refl _)
  have e2 : sm (fun i => sm (fun j => ek (srtN F m i) (srtN F m j)) m) m = sm (fun i => sm (fun j => ek (srtN F m i) (F j)) m) m := sm_congr (fun i _ => e1 _)
  rw [e2]
  exact sm_srt (f := fun a => sm (fun j => ek a (F j)) m) m (Nat.le_refl _)
theorem sq_congr {F G : Nat → Nat} {m : Nat} (h : ∀ i, i < m → F i / 16777216 = G i / 16777216) : sqK F m = sqK G m :=
  sm_congr (fun i hi => sm_congr (fun j hj => by
    unfold ek
    rw [h i hi, h j hj]))
/-- no more compares than this -/
theorem inv_b (F : Nat → Nat) : ∀ m, m ≤ 60 → invN F m ≤ m * 60 := fun m hm => sm_hi (fun j hj => by omega)
