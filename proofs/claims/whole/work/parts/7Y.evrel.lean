/-! ===== the class's events against the reference's plays ===== -/
def eqP (E : EV) (P : PV) : Prop := E.1 = 2 * P.1 ∧ ∀ j, j < P.1 → E.2 (2 * j) = vO (P.2 j).1 1 (cT (P.2 j).2.2) (cP (P.2 j).2.2) (cF (P.2 j).2.2) ∧ E.2 (2 * j + 1) = vO ((P.2 j).1 + (P.2 j).2.1) 0 (cT (P.2 j).2.2) (cP (P.2 j).2.2) (cF (P.2 j).2.2)
theorem eqP_A {E : EV} {P : PV} {s l c : Nat} (h : eqP E P) (hn : P.1 < 480) : eqP (evA (evA E (vO s 1 (cT c) (cP c) (cF c))) (vO (s + l) 0 (cT c) (cP c) (cF c))) (pvA P (s, l, c)) := by
  obtain ⟨h1, h2⟩ := h
  have e1 : evA E (vO s 1 (cT c) (cP c) (cF c)) = (E.1 + 1, upN E.2 E.1 (vO s 1 (cT c) (cP c) (cF c))) := if_pos (by omega)
  have e2 : evA (E.1 + 1, upN E.2 E.1 (vO s 1 (cT c) (cP c) (cF c))) (vO (s + l) 0 (cT c) (cP c) (cF c)) = (E.1 + 1 + 1, upN (upN E.2 E.1 (vO s 1 (cT c) (cP c) (cF c))) (E.1 + 1) (vO (s + l) 0 (cT c) (cP c) (cF c))) := if_pos (by show E.1 + 1 < 960; omega)
  rw [e1, e2]
  refine ⟨by show E.1 + 1 + 1 = 2 * (P.1 + 1); omega, fun j hj => ?_⟩
  have hj2 : j < P.1 + 1 := hj
  show upN (upN E.2 E.1 _) (E.1 + 1) _ (2 * j) = vO (if j = P.1 then (s, l, c) else P.2 j).1 1 (cT (if j = P.1 then (s, l, c) else P.2 j).2.2) (cP (if j = P.1 then (s, l, c) else P.2 j).2.2) (cF (if j = P.1 then (s, l, c) else P.2 j).2.2) ∧ upN (upN E.2 E.1 _) (E.1 + 1) _ (2 * j + 1) = vO ((if j = P.1 then (s, l, c) else P.2 j).1 + (if j = P.1 then (s, l, c) else P.2 j).2.1) 0 (cT (if j = P.1 then (s, l, c) else P.2 j).2.2) (cP (if j = P.1 then (s, l, c) else P.2 j).2.2) (cF (if j = P.1 then (s, l, c) else P.2 j).2.2)
  by_cases e : j = P.1
  · rw [if_pos e, e, ← h1, upN_o (show E.1 ≠ E.1 + 1 by omega), upN_at, upN_at]
    exact ⟨rfl, rfl⟩
  · rw [if_neg e, upN_o (show 2 * j ≠ E.1 + 1 by omega), upN_o (show 2 * j ≠ E.1 by omega), upN_o (show 2 * j + 1 ≠ E.1 + 1 by omega), upN_o (show 2 * j + 1 ≠ E.1 by omega)]
    exact h2 j (by omega)
theorem w_f {c p : Nat} (hp : p < 128) : cT (wpC c p) = cT c ∧ cS (wpC c p) = cS c ∧ cL (wpC c p) = cL c := by
  have a2 := cS_lt c
  have a3 := cL_lt c
  have a5 := cF_lt c
  unfold wpC
  exact ⟨cT_O a2 hp a3 a5, cS_O a2 hp a3 a5, cL_O a3 a5⟩
section
variable {S D : Nat → Int} {F : Nat → Nat} {lp : LPv} {E : EV} {P : PV}
theorem eqP_p {c q : Nat} {l : Int} (h : eqP E P) (hn : P.1 < 480) (hc : 0 ≤ (cP c : Int) + S (cT c) ∧ (cP c : Int) + S (cT c) ≤ 127) : eqP (evO (wpC c ((cP c : Int) + S (cT c)).toNat) ((cS c : Int) + l + D (cT c)) (min q (cL c)) E) (ply S D c l q P) := by
  unfold ply
  rw [if_pos hc]
  exact eqP_A h hn
theorem eqP_l {c a b : Nat} (h : eqP E P) (hc : 0 ≤ (cP c : Int) + S (cT c) ∧ (cP c : Int) + S (cT c) ≤ 127) : ∀ j, P.1 + j ≤ 480 → eqP (evL (wpC c ((cP c : Int) + S (cT c)).toNat) a b (D (cT c)) j E) (plyL S D c a b j P)
  | 0, _ => h
  | j + 1, hj => by
    have ⟨_, w2, w3⟩ := w_f (c := c) (p := ((cP c : Int) + S (cT c)).toNat) (by omega)
    have k := plyL_n (S := S) (D := D) (c := c) (a := a) (b := b) (P := P) j
    have z := eqP_p (S := S) (D := D) (c := c) (l := (j : Int) * ((b : Int) - a)) (q := b - cS c) (P := plyL S D c a b j P) (eqP_l (a := a) (b := b) h hc j (by omega)) (by omega) hc
    show eqP (evO _ ((cS (wpC c _) : Int) + _ + _) (min (cL (wpC c _)) (b - cS (wpC c _))) _) _
    rw [w2, w3, Nat.min_comm]
    exact z
theorem plyN_no {c : Nat} (hc : ¬ (0 ≤ (cP c : Int) + S (cT c) ∧ (cP c : Int) + S (cT c) ≤ 127)) : plyN S D c lp P = P := by
  have p0 : ∀ l q P, ply S D c l q P = P := fun l q P => if_neg hc
  have p1 : ∀ j, plyL S D c lp.1 lp.2.1 j P = P := fun j => by
    induction j with
    | zero => rfl
    | succ j ih => exact (p0 _ _ _).trans ih
  unfold plyN
  split
  · exact p1 _
  · exact p0 _ _ _
theorem eqP_N {c : Nat} (h : eqP E P) (hn : P.1 ≤ 472) (hz : lp.2.2 ≤ 8) (hab : 0 < lp.2.2 → lp.1 < lp.2.1) (hl : cL c ≤ 960) (hc : 0 ≤ (cP c : Int) + S (cT c) ∧ (cP c : Int) + S (cT c) ≤ 127) : eqP (evN (wpC c ((cP c : Int) + S (cT c)).toNat) lp (D (cT c)) E) (plyN S D c lp P) := by
  obtain ⟨a, b, z⟩ := lp
  have ⟨_, w2, w3⟩ := w_f (c := c) (p := ((cP c : Int) + S (cT c)).toNat) (by omega)
  have e9 : min 960 (cL c) = cL c := by omega
  unfold evN plyN
  rw [w2, w3]
  dsimp only at hz hab ⊢
  by_cases c1 : 0 < z ∧ a ≤ cS c ∧ cS c < b
  · rw [if_pos c1, if_neg (by omega), if_neg (by omega)]
    exact eqP_l h hc z (by omega)
  · rw [if_neg c1]
    by_cases c2 : z = 0 ∨ cS c < a
    · rw [if_pos c2, if_neg (show ¬ (0 < z ∧ b ≤ cS c) by
        intro x
        have := hab x.1
        omega)]
      have k := eqP_p (S := S) (D := D) (c := c) (l := 0) (q := 960) h (by omega) hc
      rw [e9, Int.add_zero] at k
      exact k
    · rw [if_neg c2, if_pos (by omega), if_pos (by omega)]
      have k := eqP_p (S := S) (D := D) (c := c) (l := ((z : Int) - 1) * ((b : Int) - a)) (q := 960) h (by omega) hc
      rw [e9] at k
      exact k
/-- the class's events, note by note -/
def evS (q : Nat → Bool) (S D : Nat → Int) (F : Nat → Nat) (lp : LPv) : Nat → EV → EV
  | 0, e => e
  | k + 1, e => if q (cT (F k)) = true ∧ 0 ≤ (cP (F k) : Int) + S (cT (F k)) ∧ (cP (F k) : Int) + S (cT (F k)) ≤ 127 then evN (wpC (F k) ((cP (F k) : Int) + S (cT (F k))).toNat) lp (D (cT (F k))) (evS q S D F lp k e) else evS q S D F lp k e
theorem eqP_S {q : Nat → Bool} (h : eqP E P) (h0 : P.1 = 0) (hz : lp.2.2 ≤ 8) (hab : 0 < lp.2.2 → lp.1 < lp.2.1) : ∀ m, m ≤ 60 → (∀ i, i < m → cL (F i) ≤ 960) → eqP (evS q S D F lp m E) (plyT S D q F lp m P)
  | 0, _, _ => h
  | k + 1, hm, hl => by
    have ih := eqP_S (q := q) h h0 hz hab k (by omega) (fun i hi => hl i (by omega))
    have b := plyT_n (S := S) (D := D) (q := q) (F := F) (P := P) hz k
    unfold evS plyT
    by_cases c : q (cT (F k)) = true
    · rw [if_pos c]
      by_cases c2 : 0 ≤ (cP (F k) : Int) + S (cT (F k)) ∧ (cP (F k) : Int) + S (cT (F k)) ≤ 127
      · rw [if_pos ⟨c, c2⟩]
        exact eqP_N ih (by omega) hz hab (hl k (by omega)) c2
      · rw [if_neg (fun x => c2 x.2), plyN_no c2]
        exact ih
    · rw [if_neg c, if_neg (fun x => c x.1)]
      exact ih
theorem evT_S {t : Nat} : ∀ k, evT F t (S t) (D t) lp k E = evS (fun u => decide (u = t)) S D F lp k E
  | 0 => rfl
  | k + 1 => by
    have ih := evT_S (t := t) k
    unfold evT evS
    by_cases c : cT (F k) = t
    · by_cases c2 : 0 ≤ (cP (F k) : Int) + S t ∧ (cP (F k) : Int) + S t ≤ 127
      · rw [if_pos ⟨c, c2⟩, if_pos ⟨decide_eq_true c, by rw [c]; exact c2⟩, ih, c]
      · rw [if_neg (fun x => c2 x.2), if_neg (fun x => c2 (by have y := x.2; rw [c] at y; exact y)), ih]
    · rw [if_neg (fun x => c x.1), if_neg (fun x => c (of_decide_eq_true x.1)), ih]
theorem thr {m t : Nat} (hs : ∀ i j, i < j → j < m → cT (F i) ≤ cT (F j)) : ∀ s k, k + s = m → (∀ i, i < k → cT (F i) < t) → ∃ k', k ≤ k' ∧ k' ≤ m ∧ (∀ i, i < k' → cT (F i) < t) ∧ ∀ i, k' ≤ i → i < m → t ≤ cT (F i) := by
  intro s
  induction s with
  | zero => exact fun k hk h => ⟨k, by omega, by omega, h, fun i h1 h2 => by omega⟩
  | succ s ih =>
    intro k hk h
    by_cases c : cT (F k) < t
    · obtain ⟨k', a1, a2, a3, a4⟩ := ih (k + 1) (by omega) (fun i hi => by
        by_cases e : i = k
        · rw [e]
          exact c
        · exact h i (by omega))
      exact ⟨k', by omega, a2, a3, a4⟩
    · refine ⟨k, by omega, by omega, h, fun i h1 h2 => ?_⟩
      by_cases e : i = k
      · rw [e]
        omega
      · have := hs k i (by omega) h2
        omega
end
theorem evP_t {G : Sg} {e : EV} (hs : ∀ i j, i < j → j < G.1.1 → cT (G.1.2 i) ≤ cT (G.1.2 j)) : ∀ t, ∃ k, k ≤ G.1.1 ∧ (∀ i, i < k → cT (G.1.2 i) < t) ∧ (∀ i, k ≤ i → i < G.1.1 → t ≤ cT (G.1.2 i)) ∧ evP G t e = evS (fun t => decide (hrd G.2.1.1 t)) G.2.1.2.1 G.2.1.2.2 G.1.2 G.2.2.2.2 k e
  | 0 => ⟨0, Nat.zero_le _, fun i hi => absurd hi (Nat.not_lt_zero i), fun i _ _ => Nat.zero_le _, rfl⟩
  | t + 1 => by
    obtain ⟨k, a1, a2, a3, a4⟩ := evP_t hs t
    obtain ⟨k', b1, b2, b3, b4⟩ := thr (F := G.1.2) (m := G.1.1) (t := t + 1) hs (G.1.1 - k) k (by omega) (fun i hi => by
      have := a2 i hi
      omega)
    refine ⟨k', b2, b3, b4, ?_⟩
    have mid : ∀ i, k ≤ i → i < k' → cT (G.1.2 i) = t := fun i h1 h2 => by
      have := a3 i h1 (by omega)
      have := b3 i h2
      omega
    by_cases c : hrd G.2.1.1 t
    · show (if hrd G.2.1.1 t then _ else _) = _
      rw [if_pos c, a4]
      have c1 : ∀ j, j ≤ k → evT G.1.2 t (G.2.1.2.1 t) (G.2.1.2.2 t) G.2.2.2.2 j (evS (fun t => decide (hrd G.2.1.1 t)) G.2.1.2.1 G.2.1.2.2 G.1.2 G.2.2.2.2 k e) = evS (fun t => decide (hrd G.2.1.1 t)) G.2.1.2.1 G.2.1.2.2 G.1.2 G.2.2.2.2 k e := by
        intro j
        induction j with
        | zero => exact fun _ => rfl
        | succ j ih =>
          intro hj
          have := a2 j (by omega)
          exact (if_neg (fun x => by omega)).trans (ih (by omega))
      have c2 : ∀ s j, k + s = j → j ≤ k' → evT G.1.2 t (G.2.1.2.1 t) (G.2.1.2.2 t) G.2.2.2.2 j (evS (fun t => decide (hrd G.2.1.1 t)) G.2.1.2.1 G.2.1.2.2 G.1.2 G.2.2.2.2 k e) = evS (fun t => decide (hrd G.2.1.1 t)) G.2.1.2.1 G.2.1.2.2 G.1.2 G.2.2.2.2 j e := by
        intro s
        induction s with
        | zero =>
          intro j hj _
          obtain rfl : j = k := by omega
          exact c1 j (Nat.le_refl _)
        | succ s ih =>
          intro j hj hj2
          obtain ⟨j, rfl⟩ : ∃ j', j = j' + 1 := ⟨j - 1, by omega⟩
          have ih2 := ih j (by omega) (by omega)
          have m1 := mid j (by omega) (by omega)
          unfold evT
          rw [ih2]
          show _ = if _ then _ else _
          by_cases c3 : 0 ≤ (cP (G.1.2 j) : Int) + G.2.1.2.1 t ∧ (cP (G.1.2 j) : Int) + G.2.1.2.1 t ≤ 127
          · rw [if_pos ⟨m1, c3⟩, if_pos ⟨by rw [m1]; exact decide_eq_true c, by rw [m1]; exact c3⟩, m1]
          · rw [if_neg (fun x => c3 x.2), if_neg (fun x => c3 (by have y := x.2; rw [m1] at y; exact y))]
      have c3 : ∀ s j, k' + s = j → j ≤ G.1.1 → evT G.1.2 t (G.2.1.2.1 t) (G.2.1.2.2 t) G.2.2.2.2 j (evS (fun t => decide (hrd G.2.1.1 t)) G.2.1.2.1 G.2.1.2.2 G.1.2 G.2.2.2.2 k e) = evS (fun t => decide (hrd G.2.1.1 t)) G.2.1.2.1 G.2.1.2.2 G.1.2 G.2.2.2.2 k' e := by
        intro s
        induction s with
        | zero =>
          intro j hj _
          obtain rfl : j = k' := by omega
          exact c2 (j - k) j (by omega) (Nat.le_refl _)
        | succ s ih =>
          intro j hj hj2
          obtain ⟨j, rfl⟩ : ∃ j', j = j' + 1 := ⟨j - 1, by omega⟩
          have := b4 j (by omega) (by omega)
          exact (if_neg (fun x => by omega)).trans (ih j (by omega) (by omega))
      exact c3 (G.1.1 - k') G.1.1 (by omega) (Nat.le_refl _)
    · show (if hrd G.2.1.1 t then _ else _) = _
      rw [if_neg c, a4]
      have c2 : ∀ s j, k + s = j → j ≤ k' → evS (fun t => decide (hrd G.2.1.1 t)) G.2.1.2.1 G.2.1.2.2 G.1.2 G.2.2.2.2 k e = evS (fun t => decide (hrd G.2.1.1 t)) G.2.1.2.1 G.2.1.2.2 G.1.2 G.2.2.2.2 j e := by
        intro s
        induction s with
        | zero =>
          intro j hj _
          obtain rfl : j = k := by omega
          rfl
        | succ s ih =>
          intro j hj hj2
          obtain ⟨j, rfl⟩ : ∃ j', j = j' + 1 := ⟨j - 1, by omega⟩
          have m1 := mid j (by omega) (by omega)
          exact (ih j (by omega) (by omega)).trans (if_neg (fun x => c (by have y := of_decide_eq_true x.1; rw [m1] at y; exact y))).symm
      exact c2 (k' - k) k' (by omega) (Nat.le_refl _)
theorem evP_S {G : Sg} {e : EV} (hs : ∀ i j, i < j → j < G.1.1 → cT (G.1.2 i) ≤ cT (G.1.2 j)) (h6 : ∀ i, i < G.1.1 → cT (G.1.2 i) < 6) : evP G 6 e = evS (fun t => decide (hrd G.2.1.1 t)) G.2.1.2.1 G.2.1.2.2 G.1.2 G.2.2.2.2 G.1.1 e := by
  obtain ⟨k, a1, a2, a3, a4⟩ := evP_t (G := G) (e := e) hs 6
  have e1 : k = G.1.1 := by
    by_cases c : k < G.1.1
    · have := a3 k (Nat.le_refl _) c
      have := h6 k c
      omega
    · omega
  rw [a4, e1]
/-- a row of the reference for an event of the class -/
def rE (c : Nat) : Nat := c / 131072 * 1048576 + c % 131072
def iE (v : Nat) : Nat := v / 1048576 * 131072 + v % 1048576
theorem rE_vO {t o k p f : Nat} (ho : o < 2) (hk : k < 8) (hp : p < 128) (hf : f < 128) : rE (vO t o k p f) = (t * 2 + o) * 1048576 + ((k * 128 + p) * 128 + f) := by
  unfold rE vO
  omega
theorem rE_i {c v : Nat} : rE c = v ↔ c = iE v ∧ rE (iE v) = v := by
  unfold rE iE
  omega
theorem rE_m {c c' : Nat} (h : c ≤ c') : rE c ≤ rE c' := by
  unfold rE
  omega
theorem rE_f {c k : Nat} (hk : k ≤ 3) : rFact (rE c) k = vFact c k := by
  obtain rfl | rfl | rfl | rfl : k = 0 ∨ k = 1 ∨ k = 2 ∨ k = 3 := by omega
  · show rE c / 2097152 = c / 262144
    unfold rE
    omega
  · show rE c / 16384 % 64 = c / 16384 % 8
    unfold rE
    omega
  · show rE c / 128 % 128 = c / 128 % 128
    unfold rE
    omega
  · show (if rE c / 1048576 % 2 = 0 then 0 else rE c % 128) = if c / 131072 % 2 = 1 then c % 128 else 0
    unfold rE
    have e1 : (c / 131072 * 1048576 + c % 131072) / 1048576 % 2 = c / 131072 % 2 := by omega
    have e2 : (c / 131072 * 1048576 + c % 131072) % 128 = c % 128 := by omega
    rw [e1, e2]
    by_cases q : c / 131072 % 2 = 1
    · rw [if_neg (by omega), if_pos q]
    · rw [if_pos (by omega), if_neg q]
theorem cn_rE {F G : Nat → Nat} {n : Nat} (h : ∀ v, cn F v n = cn G v n) (v : Nat) : cn (fun j => rE (F j)) v n = cn (fun j => rE (G j)) v n := by
  by_cases c : rE (iE v) = v
  · have e : ∀ H : Nat → Nat, cn (fun j => rE (H j)) v n = cn H (iE v) n := fun H => sm_congr (fun i _ => by
      by_cases e : H i = iE v
      · rw [if_pos (rE_i.mpr ⟨e, c⟩), if_pos e]
      · rw [if_neg (fun x => e (rE_i.mp x).1), if_neg e])
    rw [e, e, h]
  · have e : ∀ H : Nat → Nat, cn (fun j => rE (H j)) v n = sm (fun _ => 0) n := fun H => sm_congr (fun i _ => if_neg (fun x => c (rE_i.mp x).2))
    rw [e, e]
theorem rwE_at {P : PV} {A : Nat → Nat} : ∀ k, ∀ j, j < k → rwE P k A (2 * j) = vR (P.2 j).1 1 (P.2 j).2.2 ∧ rwE P k A (2 * j + 1) = vR ((P.2 j).1 + (P.2 j).2.1) 0 (P.2 j).2.2
  | 0, j, hj => absurd hj (Nat.not_lt_zero j)
  | k + 1, j, hj => by
    show upN (upN (rwE P k A) (2 * k) _) (2 * k + 1) _ (2 * j) = _ ∧ upN (upN (rwE P k A) (2 * k) _) (2 * k + 1) _ (2 * j + 1) = _
    by_cases e : j = k
    · rw [e, upN_o (show 2 * k ≠ 2 * k + 1 by omega), upN_at, upN_at]
      exact ⟨rfl, rfl⟩
    · rw [upN_o (show 2 * j ≠ 2 * k + 1 by omega), upN_o (show 2 * j ≠ 2 * k by omega), upN_o (show 2 * j + 1 ≠ 2 * k + 1 by omega), upN_o (show 2 * j + 1 ≠ 2 * k by omega)]
      exact rwE_at k j (by omega)
theorem rwE_E {E : EV} {P : PV} {A : Nat → Nat} (hE : eqP E P) (hB : pvB P) : ∀ i, i < 2 * P.1 → rwE P P.1 A i = rE (E.2 i) := by
  intro i hi
  have hj : i / 2 < P.1 := by omega
  obtain ⟨k1, k2⟩ := rwE_at (P := P) (A := A) P.1 (i / 2) hj
  obtain ⟨k3, k4⟩ := hE.2 (i / 2) hj
  have a1 := cT_lt (hB _ hj).2.2
  have a4 := cP_lt (P.2 (i / 2)).2.2
  have a5 := cF_lt (P.2 (i / 2)).2.2
  by_cases c : i % 2 = 0
  · have e : i = 2 * (i / 2) := by omega
    rw [← e] at k1 k3
    rw [k1, k3, rE_vO (by omega) a1 a4 a5]
    rfl
  · have e : i = 2 * (i / 2) + 1 := by omega
    rw [← e] at k2 k4
    rw [k2, k4, rE_vO (by omega) a1 a4 a5]
    rfl
theorem rows_eq {E : EV} {P : PV} {A C G : Nat → Nat} (hE : eqP E P) (hB : pvB P) (hG : sor G 0 E.1) (hGc : ∀ v, cn G v E.1 = cn E.2 v E.1) (hC : prm 0 (2 * P.1) (rwE P P.1 A) C) (hs : sor C 0 (2 * P.1)) : ∀ j, j < 2 * P.1 → C j = rE (G j) := by
  rw [hE.1] at hG hGc
  refine sor_u (D := fun j => rE (G j)) hs (fun i j h1 h2 h3 => rE_m (hG i j h1 h2 h3)) (fun v => ?_)
  rw [hC.2 v, cn_rE hGc v]
  exact cn_congr (fun i hi => rwE_E hE hB i hi)
/-! what is told of them -/
theorem ct_sg {E : EV} {P : PV} (hE : eqP E P) (hB : pvB P) (t : Nat) : ∀ k, k ≤ P.1 → ctI E.2 t (2 * k) = (sgN P t k : Int)
  | 0, _ => rfl
  | k + 1, hk => by
    have ih := ct_sg hE hB t k (by omega)
    obtain ⟨k3, k4⟩ := hE.2 k (by omega)
    have a1 := cT_lt (hB k (by omega)).2.2
    have a4 := cP_lt (P.2 k).2.2
    have a5 := cF_lt (P.2 k).2.2
    show ctI E.2 t (2 * k) + (if E.2 (2 * k) / 262144 ≤ t then onI (E.2 (2 * k)) else 0) + (if E.2 (2 * k + 1) / 262144 ≤ t then onI (E.2 (2 * k + 1)) else 0) = ((sgN P t k + if (P.2 k).1 ≤ t ∧ t < (P.2 k).1 + (P.2 k).2.1 then 1 else 0 : Nat) : Int)
    rw [ih, k3, k4]
    have o1 : onI (vO (P.2 k).1 1 (cT (P.2 k).2.2) (cP (P.2 k).2.2) (cF (P.2 k).2.2)) = 1 := if_pos (by unfold vO; omega)
    have o2 : onI (vO ((P.2 k).1 + (P.2 k).2.1) 0 (cT (P.2 k).2.2) (cP (P.2 k).2.2) (cF (P.2 k).2.2)) = -1 := if_neg (by unfold vO; omega)
    have d1 : vO (P.2 k).1 1 (cT (P.2 k).2.2) (cP (P.2 k).2.2) (cF (P.2 k).2.2) / 262144 = (P.2 k).1 := by unfold vO; omega
    have d2 : vO ((P.2 k).1 + (P.2 k).2.1) 0 (cT (P.2 k).2.2) (cP (P.2 k).2.2) (cF (P.2 k).2.2) / 262144 = (P.2 k).1 + (P.2 k).2.1 := by unfold vO; omega
    rw [o1, o2, d1, d2]
    repeat' split
    all_goals omega
theorem on_rE {c : Nat} : onI (rE c / 8) = onI c := by
  unfold onI rE
  have e : (c / 131072 * 1048576 + c % 131072) / 8 / 131072 % 2 = c / 131072 % 2 := by omega
  rw [e]
theorem sn_rE {C G : Nat → Nat} {N : Nat} (h : ∀ j, j < N → C j = rE (G j)) : ∀ k, k ≤ N → snI (hv C) k = snI G k
  | 0, _ => rfl
  | k + 1, hk => by
    show snI (hv C) k + onI (C k / 8) = snI G k + onI (G k)
    rw [sn_rE h k (by omega), h k (by omega), on_rE]
theorem gt_rE {C G : Nat → Nat} {N : Nat} (h : ∀ j, j < N → C j = rE (G j)) : ∀ k, k ≤ N → gtI (hv C) k = gtI G k
  | 0, _ => rfl
  | k + 1, hk => by
    show max (gtI (hv C) k) (snI (hv C) (k + 1)) = max (gtI G k) (snI G (k + 1))
    rw [gt_rE h k (by omega), sn_rE h (k + 1) hk]
theorem ltN_ge (C : Nat → Nat) {i : Nat} : ∀ k, i < k → C i / 262144 ≤ ltN C k
  | 0, h => absurd h (Nat.not_lt_zero i)
  | k + 1, h => by
    show _ ≤ max (ltN C k) (C k / 262144)
    by_cases e : i = k
    · rw [e]
      exact Nat.le_max_right _ _
    · exact Nat.le_trans (ltN_ge C k (by omega)) (Nat.le_max_left _ _)
theorem ltN_le (C : Nat → Nat) {b : Nat} : ∀ k, (∀ i, i < k → C i / 262144 ≤ b) → ltN C k ≤ b
  | 0, _ => Nat.zero_le _
  | k + 1, h => Nat.max_le.mpr ⟨ltN_le C k (fun i hi => h i (by omega)), h k (by omega)⟩
theorem ltN_s {G : Nat → Nat} {N : Nat} (hG : sor G 0 N) : ltN G N = if N = 0 then 0 else G (N - 1) / 262144 := by
  by_cases c : N = 0
  · rw [if_pos c, c]
    rfl
  · rw [if_neg c]
    refine Nat.le_antisymm (ltN_le G N (fun i hi => ?_)) (ltN_ge G N (by omega))
    by_cases e : i = N - 1
    · rw [e]
      exact Nat.le_refl _
    · exact Nat.div_le_div_right (hG i (N - 1) (by omega) (by omega) (by omega))
theorem ltN_p {G E : Nat → Nat} {N : Nat} (h : ∀ v, cn G v N = cn E v N) : ltN E N ≤ ltN G N := ltN_le E N (fun i hi => by
  have a := cn_in (F := E) (v := E i) (a := 0) (j := i) rfl (Nat.zero_le _) hi
  rw [show cn E (E i) 0 = cn G (E i) 0 from rfl, ← h] at a
  obtain ⟨j, _, k2, k3⟩ := cn_ex a (Nat.zero_le _)
  rw [← k3]
  exact ltN_ge G N k2)
theorem la_rE {C G E : Nat → Nat} {N : Nat} (h : ∀ j, j < N → C j = rE (G j)) (hG : sor G 0 N) (hE : ∀ v, cn G v N = cn E v N) : laT C N = ltN E N ∧ laT C N = ltN G N := by
  have e1 : laT C N = ltN G N := by
    rw [ltN_s hG]
    unfold laT
    by_cases c : N = 0
    · rw [if_pos c, if_pos c]
    · rw [if_neg c, if_neg c, h (N - 1) (by omega)]
      unfold rE
      omega
  exact ⟨e1.trans (Nat.le_antisymm (ltN_p (fun v => (hE v).symm)) (ltN_p hE)), e1⟩
