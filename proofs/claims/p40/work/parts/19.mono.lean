/-! ===== counters grow ===== -/
def mon (H : aH) (o : Option (aQ ⊕ (aO × aH))) : Prop := ∀ q, o = some (.inl q) → H.2.1 ≤ q.2.2.2.2.1 ∧ H.2.2.1 ≤ q.2.2.2.2.2.1
theorem mon_0 {H : aH} : mon H none := fun q h => by cases h
theorem mon_g {H : aH} {pc : Nat} {ls : aLs} {st : List Value} : mon H (go pc ls st H) := fun q h => by
  rw [go_inj h]; exact ⟨Nat.le_refl _, Nat.le_refl _⟩
theorem mon_w {H : aH} {h : aHf} {pc : Nat} {ls : aLs} {st : List Value} : mon H (go pc ls st (h, H.2)) := fun q e => by
  rw [go_inj e]; exact ⟨Nat.le_refl _, Nat.le_refl _⟩
theorem mon_k {H : aH} {c : aC} {s pc : Nat} {ls : aLs} {st : List Value} : mon H (go pc ls st (mk H c s)) := fun q e => by
  rw [go_inj e]; exact ⟨Nat.le_succ _, Nat.le_add_right _ _⟩
theorem mon_k2 {H : aH} {n c pc : Nat} {ls : aLs} {st : List Value} : mon H (go pc ls st (mk2 H n c)) := fun q e => by
  rw [go_inj e]
  exact ⟨by show H.2.1 ≤ H.2.1 + 1 + n; omega, by show H.2.2.1 ≤ H.2.2.1 + n + n * c; omega⟩
theorem mon_b {α : Type} {H : aH} {x : Option α} {f : α → Option (aQ ⊕ (aO × aH))} (h : ∀ v, mon H (f v)) : mon H (x.bind f) := by
  cases x with
  | none => exact mon_0
  | some v => exact h v
theorem mon_i {H : aH} {p : Prop} [Decidable p] {a b : Option (aQ ⊕ (aO × aH))} (h1 : mon H a) (h2 : mon H b) : mon H (if p then a else b) := by
  split
  · exact h1
  · exact h2
theorem mon_r {H : aH} {c : Jvm.ClassFile.Cond} {x y : Int32} {a b : Option (aQ ⊕ (aO × aH))} (h1 : mon H a) (h2 : mon H b) : mon H (aBr c x y a b) := by
  unfold aBr
  split <;> split <;> assumption
theorem mon_S (M pc len : Nat) (i : Instr) (ls : aLs) (st : List Value) (H : aH) : mon H (aS M pc len i ls st H) := by
  unfold aS
  split <;> repeat' (first | exact mon_0 | exact mon_g | exact mon_w | exact mon_k | exact mon_k2 | (refine mon_b fun _ => ?_) | (refine mon_i ?_ ?_) | (refine mon_r ?_ ?_) | split)
