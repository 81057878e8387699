/-! ===== what drawing to a grid costs; the call alike ===== -/
def Bq (a m : Nat) : Nat := 7 * (a * (a - 1)) + 40 * (a * (m - a))
theorem qs1 : ∀ a : Fin 61, ∀ m : Fin 61, a.val ≤ m.val → Bq (a.val + 1) (m.val + 1) = Bq a.val m.val + 14 * a.val + 40 * (m.val - a.val) := by decide +kernel
theorem qs2 : ∀ a : Fin 61, ∀ m : Fin 61, a.val ≤ m.val → Bq a.val (m.val + 1) = Bq a.val m.val + 40 * a.val := by decide +kernel
theorem qs3 : ∀ a : Fin 61, ∀ m : Fin 61, a.val ≤ m.val → Bq a.val m.val ≤ 43400 := by decide +kernel
theorem sm_a2 {f g : Nat → Nat} : ∀ k, sm (fun i => f i + g i) k = sm f k + sm g k
  | 0 => rfl
  | k + 1 => by
    have ih := sm_a2 (f := f) (g := g) k
    show sm (fun i => f i + g i) k + (f k + g k) = sm f k + f k + (sm g k + g k)
    omega
theorem ek_c (a b : Nat) : ek a b = ek b a := by
  unfold ek
  by_cases h : a / 16777216 = b / 16777216
  · rw [if_pos h, if_pos h.symm]
  · rw [if_neg h, if_neg (fun z => h z.symm)]
theorem sq_s (F : Nat → Nat) (k : Nat) : sqK F (k + 1) = sqK F k + 2 * sm (fun i => ek (F i) (F k)) k + 1 := by
  show sm (fun i => sm (fun j => ek (F i) (F j)) k + ek (F i) (F k)) k + (sm (fun j => ek (F k) (F j)) k + ek (F k) (F k)) = _
  have e1 := sm_a2 (f := fun i => sm (fun j => ek (F i) (F j)) k) (g := fun i => ek (F i) (F k)) k
  have e2 : sm (fun j => ek (F k) (F j)) k = sm (fun i => ek (F i) (F k)) k := sm_congr (fun i _ => ek_c _ _)
  have e3 : ek (F k) (F k) = 1 := if_pos rfl
  rw [e1, e2, e3]
  unfold sqK
  omega
theorem in_1 {p : Nat → Bool} {F : Nat → Nat} : ∀ k, sm (fun i => if p (F i) = true then 14 else 40) k + 26 * cntP p F k = 40 * k
  | 0 => rfl
  | k + 1 => by
    have ih := in_1 (p := p) (F := F) k
    show sm (fun i => if p (F i) = true then 14 else 40) k + (if p (F k) = true then 14 else 40) + 26 * cntP p F (k + 1) = 40 * (k + 1)
    by_cases h : p (F k) = true
    · rw [if_pos h, cntP_t h]
      omega
    · rw [if_neg h, cntP_f h]
      omega
theorem in_2 {p : Nat → Bool} {F : Nat → Nat} : ∀ k, sm (fun i => if p (F i) = true then 40 else 0) k = 40 * cntP p F k
  | 0 => rfl
  | k + 1 => by
    have ih := in_2 (p := p) (F := F) k
    show sm (fun i => if p (F i) = true then 40 else 0) k + (if p (F k) = true then 40 else 0) = 40 * cntP p F (k + 1)
    by_cases h : p (F k) = true
    · rw [if_pos h, cntP_t h]
      omega
    · rw [if_neg h, cntP_f h]
      omega
/-- pairs that change their order -/
def ivP (F : Nat → Nat) : Nat → Nat := sm (fun j => sm (fun i => if F j < F i then 1 else 0) j)
theorem inv_p (F : Nat → Nat) : ∀ m, invN F m ≤ m + ivP F m
  | 0 => Nat.le_refl _
  | m + 1 => by
    have ih := inv_p F m
    have z1 := sk_cnt (F := srtN F m) (c := F m) m
    have z2 := sm_srt (f := fun a => if F m < a then 1 else 0) (F := F) (m := m) m (Nat.le_refl _)
    have z3 := sk_le (srtN F m) (F m) m
    show invN F m + (m + 1 - sk (srtN F m) (F m) m) ≤ m + 1 + (ivP F m + sm (fun i => if F m < F i then 1 else 0) m)
    rw [z2] at z1
    omega
theorem mul_sm {c : Nat} {f : Nat → Nat} : ∀ k, c * sm f k = sm (fun i => c * f i) k
  | 0 => Nat.mul_zero c
  | k + 1 => by
    have ih := mul_sm (c := c) (f := f) k
    show c * (sm f k + f k) = sm (fun i => c * f i) k + c * f k
    rw [Nat.mul_add, ih]
theorem iv_b {F gg : Nat → Nat} {p : Nat → Bool} {m : Nat} (hm : m ≤ 60) (h : ∀ i k, i < k → k < m → 40 * (if gg (F k) < gg (F i) then 1 else 0) + 26 * ek (F i) (F k) ≤ 26 * ek (gg (F i)) (gg (F k)) + (if p (F k) = true then (if p (F i) = true then 14 else 40) else (if p (F i) = true then 40 else 0))) : ∀ k, k ≤ m → 40 * ivP (fun i => gg (F i)) k + 13 * sqK F k ≤ 13 * sqK (fun i => gg (F i)) k + Bq (cntP p F k) k
  | 0, _ => Nat.zero_le _
  | k + 1, hk => by
    have ih := iv_b hm h k (by omega)
    have s1 := sq_s F k
    have s2 := sq_s (fun i => gg (F i)) k
    have cl := cntP_le p F k
    have pt := sm_mon (f := fun i => 40 * (if gg (F k) < gg (F i) then 1 else 0) + 26 * ek (F i) (F k)) (g := fun i => 26 * ek (gg (F i)) (gg (F k)) + (if p (F k) = true then (if p (F i) = true then 14 else 40) else (if p (F i) = true then 40 else 0))) (m := k) (fun i hi => h i k hi (by omega))
    rw [sm_a2, sm_a2, ← mul_sm, ← mul_sm, ← mul_sm] at pt
    have iv : ivP (fun i => gg (F i)) (k + 1) = ivP (fun i => gg (F i)) k + sm (fun i => if gg (F k) < gg (F i) then 1 else 0) k := rfl
    by_cases q : p (F k) = true
    · have e : sm (fun i => if p (F k) = true then (if p (F i) = true then 14 else 40) else (if p (F i) = true then 40 else 0)) k = sm (fun i => if p (F i) = true then 14 else 40) k := sm_congr (fun i _ => if_pos q)
      have e2 := in_1 (p := p) (F := F) k
      have e3 := qs1 ⟨cntP p F k, by omega⟩ ⟨k, by omega⟩ cl
      dsimp only at e3
      rw [e] at pt
      rw [cntP_t q, e3, iv]
      omega
    · have e : sm (fun i => if p (F k) = true then (if p (F i) = true then 14 else 40) else (if p (F i) = true then 40 else 0)) k = sm (fun i => if p (F i) = true then 40 else 0) k := sm_congr (fun i _ => if_neg q)
      have e2 := in_2 (p := p) (F := F) k
      have e3 := qs2 ⟨cntP p F k, by omega⟩ ⟨k, by omega⟩ cl
      dsimp only at e3
      rw [e] at pt
      rw [cntP_f q, e3, iv]
      omega
theorem qn_n {t v u : Int} {s p q c : Nat} (hc : cOk c) (hS : cS c ≤ 9599) (hq : q ≤ 100) (h : cIn c t v u) : qnG t v u s p q c = (cT c * 16384 + (drI (cS c) s p q).toNat) * 16777216 + c % 16777216 := by
  have d1 := drI_t (s := s) (p := p) hS hq
  unfold qnG qnM
  by_cases e : drI (cS c) s p q = cS c
  · rw [if_neg (fun z => (of_decide_eq_true z).2 e), e]
    show c = (cT c * 16384 + cS c) * 16777216 + c % 16777216
    unfold cOk at hc
    unfold cT cS
    omega
  · rw [if_pos (decide_eq_true ⟨h, e⟩)]
    generalize (drI (cS c) s p q).toNat = z
    unfold cO cT cP cL cF
    omega
theorem qn_v {c D : Nat} (h : ntV c) (hc : cOk c) (hD : D ≤ 9599) : ntV ((cT c * 16384 + D) * 16777216 + c % 16777216) := by
  obtain ⟨h1, h2, h3, h4⟩ := h
  have e1 : cT ((cT c * 16384 + D) * 16777216 + c % 16777216) = cT c := by
    generalize cT c = T
    unfold cT
    omega
  have e2 : cS ((cT c * 16384 + D) * 16777216 + c % 16777216) = D := by
    generalize cT c = T
    unfold cS
    omega
  have e3 : cL ((cT c * 16384 + D) * 16777216 + c % 16777216) = cL c := by
    generalize cT c = T
    unfold cL
    omega
  have e4 : cF ((cT c * 16384 + D) * 16777216 + c % 16777216) = cF c := by
    generalize cT c = T
    unfold cF
    omega
  unfold ntV
  rw [e1, e2, e3, e4]
  exact ⟨h1, hD, h3, h4⟩
def tri : Nat → Nat
  | 0 => 0
  | m + 1 => tri m + (m + 1)
theorem tri_b : ∀ m : Fin 61, tri m.val ≤ 1830 := by decide
theorem inv_t (F : Nat → Nat) : ∀ m, invN F m ≤ tri m
  | 0 => Nat.le_refl _
  | m + 1 => by
    have ih := inv_t F m
    show invN F m + (m + 1 - sk (srtN F m) (F m) m) ≤ tri m + (m + 1)
    omega
theorem qn_o {t v u : Int} {s p q c : Nat} (h : ¬ cIn c t v u) : qnG t v u s p q c = c := if_neg (fun z => h (of_decide_eq_true z).1)
theorem qn_pair {t v u : Int} {s p q c c' : Nat} (hs : 1 ≤ s) (hp : p ≤ 75) (hq : q ≤ 100) (hc : cOk c) (hc' : cOk c') (hS : cS c ≤ 9599) (hS' : cS c' ≤ 9599) (hle : c ≤ c') :
    40 * (if qnG t v u s p q c' < qnG t v u s p q c then 1 else 0) + 26 * ek c c' ≤ 26 * ek (qnG t v u s p q c) (qnG t v u s p q c') + (if inB4 t v u c' = true then (if inB4 t v u c = true then 14 else 40) else (if inB4 t v u c = true then 40 else 0)) := by
  have iv1 : (if qnG t v u s p q c' < qnG t v u s p q c then 1 else 0) ≤ 1 := by split <;> omega
  by_cases i1 : cIn c t v u
  · have b1 : inB4 t v u c = true := decide_eq_true i1
    rw [if_pos b1, if_pos b1]
    by_cases i2 : cIn c' t v u
    · have b2 : inB4 t v u c' = true := decide_eq_true i2
      rw [if_pos b2]
      have e1 := qn_n (s := s) (p := p) hc hS hq i1
      have e2 := qn_n (s := s) (p := p) hc' hS' hq i2
      have d1 := drI_t (s := s) (p := p) hS hq
      have d2 := drI_t (s := s) (p := p) hS' hq
      have k1 : c / 16777216 = cT c * 16384 + cS c := by
        unfold cT cS
        omega
      have k2 : c' / 16777216 = cT c' * 16384 + cS c' := by
        unfold cT cS
        omega
      have mono : cS c ≤ cS c' → (drI (cS c) s p q).toNat ≤ (drI (cS c') s p q).toNat := fun z => by
        have := dr_m z hS' hs hp hq
        omega
      have same : cS c = cS c' → (drI (cS c) s p q).toNat = (drI (cS c') s p q).toNat := fun z => by rw [z]
      have D1 : (drI (cS c) s p q).toNat ≤ 9599 := by omega
      have D2 : (drI (cS c') s p q).toNat ≤ 9599 := by omega
      have m1 : c % 16777216 < 16777216 := by omega
      have m2 : c' % 16777216 < 16777216 := by omega
      have r1 : c = (cT c * 16384 + cS c) * 16777216 + c % 16777216 := by omega
      have r2 : c' = (cT c' * 16384 + cS c') * 16777216 + c' % 16777216 := by omega
      rw [e1, e2]
      have ekc : ek c c' = if cT c * 16384 + cS c = cT c' * 16384 + cS c' then 1 else 0 := by
        unfold ek
        rw [k1, k2]
      rw [ekc]
      clear e1 e2 k1 k2 d1 d2 ekc i1 i2 b1 b2 iv1 hc hc'
      generalize (drI (cS c) s p q).toNat = D at *
      generalize (drI (cS c') s p q).toNat = D' at *
      have hr : (cT c * 16384 + cS c) * 16777216 + c % 16777216 ≤ (cT c' * 16384 + cS c') * 16777216 + c' % 16777216 := by rw [← r1, ← r2]; exact hle
      clear r1 r2 hle
      generalize c % 16777216 = r at *
      generalize c' % 16777216 = r' at *
      generalize cT c = T at *
      generalize cT c' = T' at *
      generalize cS c = Q at *
      generalize cS c' = Q' at *
      have dv : ∀ A e : Nat, e < 16777216 → (A * 16777216 + e) / 16777216 = A := fun A e he => by omega
      unfold ek
      rw [dv _ _ m1, dv _ _ m2]
      by_cases cT1 : T = T'
      · by_cases cS1 : Q = Q'
        · have := same cS1
          rw [if_pos (show T * 16384 + Q = T' * 16384 + Q' by omega), if_pos (show T * 16384 + D = T' * 16384 + D' by omega), if_neg (show ¬ (T' * 16384 + D') * 16777216 + r' < (T * 16384 + D) * 16777216 + r by omega)]
          omega
        · have := mono (by omega)
          rw [if_neg (show ¬ T * 16384 + Q = T' * 16384 + Q' by omega)]
          by_cases dd : D = D'
          · rw [if_pos (show T * 16384 + D = T' * 16384 + D' by omega)]
            split <;> omega
          · rw [if_neg (show ¬ (T' * 16384 + D') * 16777216 + r' < (T * 16384 + D) * 16777216 + r by omega)]
            omega
      · rw [if_neg (show ¬ T * 16384 + Q = T' * 16384 + Q' by omega), if_neg (show ¬ (T' * 16384 + D') * 16777216 + r' < (T * 16384 + D) * 16777216 + r by omega)]
        omega
    · have b2 : ¬ inB4 t v u c' = true := fun z => i2 (of_decide_eq_true z)
      have e0 : ek c c' = 0 := if_neg (fun z => i2 ((in_key z).mp i1))
      rw [if_neg b2, e0]
      omega
  · have b1 : ¬ inB4 t v u c = true := fun z => i1 (of_decide_eq_true z)
    rw [if_neg b1, if_neg b1]
    by_cases i2 : cIn c' t v u
    · have b2 : inB4 t v u c' = true := decide_eq_true i2
      have e0 : ek c c' = 0 := if_neg (fun z => i1 ((in_key z).mpr i2))
      rw [if_pos b2, e0]
      omega
    · have b2 : ¬ inB4 t v u c' = true := fun z => i2 (of_decide_eq_true z)
      rw [if_neg b2, qn_o i1, qn_o i2, if_neg (by omega)]
      omega
section
variable {d e x y : Nat} {g : Nat × Nat} {W : Dk} {M : Md}
theorem c_quantise {t v u s p q : Int} (hR : Rel W M) (b1 : -2147483648 ≤ t ∧ t < 2147483648) (b2 : -2147483648 ≤ v ∧ v < 2147483648) (b3 : -2147483648 ≤ u ∧ u < 2147483648) (b4 : -2147483648 ≤ s ∧ s < 2147483648) (b5 : -2147483648 ≤ p ∧ p < 2147483648) (b6 : -2147483648 ≤ q ∧ q < 2147483648) : Alk 0 [(eIA, 1)] x y g W M (fun H => aE (d + 12) 48 [.ref x, .int (iI t), .int (iI v), .int (iI u), .int (iI s), .int (iI p), .int (iI q)] H) (fun H => aE (e + 9) 213 [.ref y, .int (iI t), .int (iI v), .int (iI u), .int (iI s), .int (iI p), .int (iI q)] H) := by
  have hO := Rel_ok hR
  obtain ⟨u1, u2, u3, -⟩ := Rel_u hR
  have m60 := hR.1.1.1
  by_cases hv : rgOk t v u ∧ (1 ≤ s ∧ s ≤ 384) ∧ (0 ≤ p ∧ p ≤ 75) ∧ (0 ≤ q ∧ q ≤ 100)
  · obtain ⟨s, rfl⟩ : ∃ z : Nat, s = z := ⟨s.toNat, by omega⟩
    obtain ⟨p, rfl⟩ : ∃ z : Nat, p = z := ⟨p.toNat, by omega⟩
    obtain ⟨q, rfl⟩ : ∃ z : Nat, q = z := ⟨q.toNat, by omega⟩
    have hs : 1 ≤ s ∧ s ≤ 384 := by omega
    have hp : p ≤ 75 := by omega
    have hq : q ≤ 100 := by omega
    obtain ⟨gg, hgg⟩ : ∃ gg, gg = qnG t v u s p q := ⟨_, rfl⟩
    have ok : ∀ i, cOk (mapN W.1.1.2 gg W.1.1.1 i) := fun i => by
      unfold mapN
      split
      · rw [hgg]
        exact qnG_ok hq (hR.1.1.2.1 i)
      · exact hR.1.1.2.1 i
    have val : ∀ i, i < W.1.1.1 → ntV (gg (W.1.1.2 i)) := fun i hi => by
      have vj := hR.1.2.1 i hi
      have hc := hR.1.1.2.1 i
      rw [hgg]
      by_cases i1 : cIn (W.1.1.2 i) t v u
      · have d1 := drI_t (s := s) (p := p) vj.2.1 hq
        have e1 := qn_n (s := s) (p := p) hc vj.2.1 hq i1
        rw [e1]
        exact qn_v vj hc (by omega)
      · rw [qn_o i1]
        exact vj
    have gS : sgG ((W.1.1.1, srtN (mapN W.1.1.2 gg W.1.1.1) W.1.1.1), W.1.2) := sg_notes hR.1 m60 (srtN_ok (P := cOk) ok _) (srt_al (map_al val) _ (Nat.le_refl _)) (srt_sor _ _)
    have ib := iv_b (F := W.1.1.2) (gg := gg) (p := inB4 t v u) m60 (fun i k hi hk => by
      rw [hgg]
      exact qn_pair hs.1 hp hq (hR.1.1.2.1 i) (hR.1.1.2.1 k) (hR.1.2.1 i (by omega)).2.1 (hR.1.2.1 k hk).2.1 (hR.1.2.2.1 i k (Nat.zero_le _) hi hk)) W.1.1.1 (Nat.le_refl _)
    have mp : ∀ i, i < W.1.1.1 → mapN W.1.1.2 gg W.1.1.1 i = gg (W.1.1.2 i) := fun i hi => if_pos hi
    have i1 := inv_p (mapN W.1.1.2 gg W.1.1.1) W.1.1.1
    have i2 : ivP (mapN W.1.1.2 gg W.1.1.1) W.1.1.1 = ivP (fun i => gg (W.1.1.2 i)) W.1.1.1 := sm_congr (fun j hj => sm_congr (fun i hi => by rw [mp j hj, mp i (by omega)]))
    have i3 : sqK (mapN W.1.1.2 gg W.1.1.1) W.1.1.1 = sqK (fun i => gg (W.1.1.2 i)) W.1.1.1 := sq_congr (fun i hi => by rw [mp i hi])
    have i4 : sqK (srtN (mapN W.1.1.2 gg W.1.1.1) W.1.1.1) W.1.1.1 = sqK (mapN W.1.1.2 gg W.1.1.1) W.1.1.1 := sq_srt
    have cl := cntP_le (inB4 t v u) W.1.1.2 W.1.1.1
    have i5 := qs3 ⟨cntP (inB4 t v u) W.1.1.2 W.1.1.1, by omega⟩ ⟨W.1.1.1, by omega⟩ cl
    dsimp only at i5
    have hb := sq_b W.1.1.2 W.1.1.1
    have hb2 := sq_b (srtN (mapN W.1.1.2 gg W.1.1.1) W.1.1.1) W.1.1.1
    have i6 := inv_t (mapN W.1.1.2 gg W.1.1.1) W.1.1.1
    have i7 := tri_b ⟨W.1.1.1, by omega⟩
    dsimp only at i7
    rw [hgg] at *
    refine alk_c ⟨_, rfl⟩ hR gS (Rs_notes (X := M.2.1) hR.2.1 m60 m60 (Rs_X hR.2.1 (Nat.le_refl _))) (fun h n w => s_quantise hO hv.1 hs hp hq gS.1) (fun h n w hy => ?_)
    obtain ⟨z, z1, z2⟩ := r_quantise (d := e) (n := n) (w := w) (g := g) (h := h) hy (Rel_nB hR) m60 hR.1.1.2.1 (Rel_nt hR) hv.1 hs hp hq u1 u2 u3
    refine ⟨_, _, z2, by omega, ?_, by omega⟩
    unfold pot
    dsimp only
    omega
  · exact alk_e (k := 1) (by simp) (fun h n w => s_quantise_1 b1 b2 b3 b4 b5 b6 hv) (fun h n w hy => r_quantise_1 hy b1 b2 b3 b4 b5 b6 hv) (Rel_bg hR) rfl
end
