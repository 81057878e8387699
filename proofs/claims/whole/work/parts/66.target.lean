/-! ===== the nearest line, found both ways ===== -/
def tgS (a : Nat) (l b : Int) : Int := if l < 9600 ∧ ((l - a).natAbs : Int) < ((b - a).natAbs : Int) then l else b
def tgR (a s p : Nat) : Nat → Nat → Int → Int
  | 0, _, b => b
  | m + 1, k, b => tgR a s p m (k + 1) (tgS a (lnI s p k) b)
theorem ts_up {a : Nat} {l b : Int} (h1 : b ≤ l) (h2 : l ≤ a) (ha : a ≤ 9599) : tgS a l b = l := by
  unfold tgS
  by_cases e : b = l
  · rw [e]
    split <;> rfl
  · rw [if_pos (by omega)]
theorem ts_last {a : Nat} {l l' b : Int} (h1 : (a : Int) < l) (h2 : l < l') : tgS a l' (tgS a l b) = tgS a l b := by
  unfold tgS
  by_cases q : l < 9600 ∧ ((l - a).natAbs : Int) < ((b - a).natAbs : Int)
  · rw [if_pos q, if_neg (by omega)]
  · rw [if_neg q, if_neg (by omega)]
theorem ln_n {s p k : Nat} : lnI s p (k : Int) = ((k * s : Nat) : Int) + (if k % 2 = 1 then ((s * p / 100 : Nat) : Int) else 0) := by
  unfold lnI
  rw [Int.natCast_mul]
  by_cases q : k % 2 = 1
  · rw [if_pos q, if_pos (by omega)]
  · rw [if_neg q, if_neg (by omega)]
theorem late_b {s p : Nat} (hs : 1 ≤ s) (hp : p ≤ 75) : s * p / 100 < s := by
  have : s * p ≤ s * 75 := Nat.mul_le_mul_left s hp
  omega
theorem ln_0 {s p k : Nat} : 0 ≤ lnI s p (k : Int) := by
  rw [ln_n]
  split <;> omega
theorem ln_up {s p k : Nat} (hs : 1 ≤ s) (hp : p ≤ 75) : lnI s p (k : Int) < lnI s p ((k + 1 : Nat) : Int) := by
  have hb := late_b hs hp
  rw [ln_n, ln_n, Nat.add_mul, Nat.one_mul]
  generalize s * p / 100 = e at hb
  generalize k * s = z
  split <;> split <;> omega
theorem ln_le {a s p k : Nat} (hs : 1 ≤ s) (hp : p ≤ 75) (hk : k < a / s) : lnI s p (k : Int) ≤ a := by
  have hb := late_b hs hp
  have h1 : (k + 1) * s ≤ a / s * s := Nat.mul_le_mul_right s hk
  have h2 := Nat.div_mul_le_self a s
  rw [Nat.add_mul, Nat.one_mul] at h1
  rw [ln_n]
  generalize s * p / 100 = e at hb
  generalize k * s = z at h1
  split <;> omega
theorem ln_gt {a s p k : Nat} (hs : 1 ≤ s) (hk : a / s < k) : (a : Int) < lnI s p (k : Int) := by
  have h1 : (a / s + 1) * s ≤ k * s := Nat.mul_le_mul_right s hk
  have h2 : a < (a / s + 1) * s := by
    have := Nat.lt_div_mul_add (a := a) (b := s) (by omega)
    rw [Nat.add_mul, Nat.one_mul]
    exact this
  rw [ln_n]
  split <;> omega
theorem nlS_ts {a s p : Nat} {k : Nat} {b : Int} : nlS a s p (k : Int) (b, ((b - a).natAbs : Int)) = (tgS a (lnI s p k) b, ((tgS a (lnI s p k) b - a).natAbs : Int)) := by
  have h0 := ln_0 (s := s) (p := p) (k := k)
  unfold nlS tgS
  by_cases q : lnI s p (k : Int) < 9600 ∧ ((lnI s p (k : Int) - a).natAbs : Int) < ((b - a).natAbs : Int)
  · rw [if_pos q, if_pos ⟨by omega, q.2⟩]
  · rw [if_neg q, if_neg (fun z => q ⟨by omega, z.2⟩)]
theorem nr_tg {a s p : Nat} (ha : a ≤ 9599) (hs : 1 ≤ s) (hp : p ≤ 75) : nrI a s p = tgR a s p (a / s + 2 - (a / s - 2) + 1) (a / s - 2) 0 := by
  have le := fun k => ln_le (a := a) (s := s) (p := p) (k := k) hs hp
  have gt := fun k => ln_gt (a := a) (s := s) (p := p) (k := k) hs
  have up := fun k => ln_up (s := s) (p := p) (k := k) hs hp
  have z0 := fun k => ln_0 (s := s) (p := p) (k := k)
  have n0 : lnI s p ((0 : Nat) : Int) = 0 := by
    rw [ln_n, Nat.zero_mul]
    rfl
  have st : ∀ (k : Nat) (b : Int), nlR a s p 2 (k : Int) (b, ((b - a).natAbs : Int)) = (tgS a (lnI s p ((k + 1 : Nat) : Int)) (tgS a (lnI s p (k : Int)) b), ((tgS a (lnI s p ((k + 1 : Nat) : Int)) (tgS a (lnI s p (k : Int)) b) - a).natAbs : Int)) := fun k b => by
    show nlS a s p ((k : Int) + 1) (nlS a s p (k : Int) (b, ((b - a).natAbs : Int))) = _
    rw [nlS_ts, show (k : Int) + 1 = ((k + 1 : Nat) : Int) by omega, nlS_ts]
  unfold nrI
  generalize a / s = N at le gt
  match N, le, gt with
  | 0, le, gt =>
    show (nlR a s p 2 (((0 : Nat) : Int) - 1 + 1) (nlS a s p (((0 : Nat) : Int) - 1) (a, 9600))).1 = tgS a (lnI s p ((2 : Nat) : Int)) (tgS a (lnI s p ((1 : Nat) : Int)) (tgS a (lnI s p ((0 : Nat) : Int)) 0))
    have e1 : nlS a s p (((0 : Nat) : Int) - 1) ((a : Int), (9600 : Int)) = ((a : Int), (9600 : Int)) := by
      have hl : lnI s p (((0 : Nat) : Int) - 1) < 0 := by
        have hb := late_b hs hp
        unfold lnI
        rw [if_pos (by decide)]
        omega
      unfold nlS
      rw [if_neg (by omega)]
    have e2 : nlS a s p ((0 : Nat) : Int) (a, 9600) = (0, (((0 : Int) - a).natAbs : Int)) := by
      unfold nlS
      rw [n0, if_pos (by omega)]
    rw [e1, show ((0 : Nat) : Int) - 1 + 1 = ((0 : Nat) : Int) from rfl]
    show (nlS a s p (((0 : Nat) : Int) + 1) (nlS a s p ((0 : Nat) : Int) (a, 9600))).1 = _
    rw [e2, show ((0 : Nat) : Int) + 1 = ((1 : Nat) : Int) from rfl, nlS_ts, n0, ts_up (Int.le_refl 0) (by omega) ha]
    have u1 : lnI s p ((1 : Nat) : Int) < lnI s p ((2 : Nat) : Int) := up 1
    rw [ts_last (gt 1 (by omega)) u1]
  | 1, le, gt =>
    show (nlR a s p 2 (((1 : Nat) : Int) - 1 + 1) (nlS a s p (((1 : Nat) : Int) - 1) (a, 9600))).1 = tgS a (lnI s p ((3 : Nat) : Int)) (tgS a (lnI s p ((2 : Nat) : Int)) (tgS a (lnI s p ((1 : Nat) : Int)) (tgS a (lnI s p ((0 : Nat) : Int)) 0)))
    have e2 : nlS a s p ((0 : Nat) : Int) (a, 9600) = (0, (((0 : Int) - a).natAbs : Int)) := by
      unfold nlS
      rw [n0, if_pos (by omega)]
    rw [show ((1 : Nat) : Int) - 1 = ((0 : Nat) : Int) from rfl, e2, show ((0 : Nat) : Int) + 1 = ((1 : Nat) : Int) from rfl, st, n0, ts_up (Int.le_refl 0) (by omega) ha]
    have u2 : lnI s p ((2 : Nat) : Int) < lnI s p ((3 : Nat) : Int) := up 2
    rw [ts_last (gt 2 (by omega)) u2]
  | N + 2, le, gt =>
    have eN : N + 2 - 2 = N := by omega
    have em : N + 2 + 2 - N + 1 = 5 := by omega
    rw [eN, em]
    show (nlR a s p 2 (((N + 2 : Nat) : Int) - 1 + 1) (nlS a s p (((N + 2 : Nat) : Int) - 1) (a, 9600))).1 = tgS a (lnI s p ((N + 4 : Nat) : Int)) (tgS a (lnI s p ((N + 3 : Nat) : Int)) (tgS a (lnI s p ((N + 2 : Nat) : Int)) (tgS a (lnI s p ((N + 1 : Nat) : Int)) (tgS a (lnI s p (N : Int)) 0))))
    have l1 := le (N + 1) (by omega)
    have l2 := z0 (N + 1)
    have e2 : nlS a s p ((N + 1 : Nat) : Int) (a, 9600) = (lnI s p ((N + 1 : Nat) : Int), ((lnI s p ((N + 1 : Nat) : Int) - a).natAbs : Int)) := by
      unfold nlS
      rw [if_pos (by omega)]
    have u0 := up N
    rw [show ((N + 2 : Nat) : Int) - 1 = ((N + 1 : Nat) : Int) by omega, e2, show ((N + 1 : Nat) : Int) + 1 = ((N + 2 : Nat) : Int) by omega, st, ts_up (z0 N) (by omega) ha, ts_up (by omega) l1 ha]
    exact (ts_last (gt (N + 3) (by omega)) (up (N + 3))).symm
