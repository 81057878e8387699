/-! ===== calls alike: the checksum, copy ===== -/
theorem adTf_S (S : Sg) (s : Int64) : ∀ t, adTf (ptN S) t s = adT S t s
  | 0 => rfl
  | t + 1 => congrArg (fun z => adZ z (iI (ptN S t))) (adTf_S S s t)
/-- a note's code shifted to an earlier start -/
theorem cbC_n {c v : Nat} (hv : v ≤ cS c) : cbC (v : Int) c = c - v * 16777216 := by
  have e1 : ((cS c : Int) - (v : Int)).toNat = cS c - v := by omega
  unfold cbC
  rw [e1]
  unfold cO cT cS cP cL cF at *
  omega
section
variable {d e x y : Nat} {g : Nat × Nat} {W : Dk} {M : Md}
theorem c_digest (hd : 80 ≤ e) (hR : Rel W M) : Alk 2 [] x y g W M (fun H => aE (d + 12) 85 [.ref x] H) (fun H => aE (e + 9) 260 [.ref y] H) := by
  have hO := Rel_ok hR
  have hN := hR.2.2.2.2.2.1.2
  obtain ⟨u1, u2, u3, v1, v2, v3⟩ := Rel_u hR
  obtain ⟨A, hA, hB⟩ := hR.2.2.2.2.2.2
  have hk := plE_ok hO.1 hN.1
  have eqp := Rel_pA hR
  have ⟨n1, n2⟩ := pA_n (Rel_rd hR)
  intro h n w hx hy hg
  obtain ⟨f, z1, z2⟩ := g_out (M := M) hg
  obtain ⟨G, S, V2, s1, s2, s3, s4, s5, s6, s7⟩ := s_digest (d := d) (h := mdW h y M) (x := x) (n := n) (w := w) (g := g) (f := f) hO hN (tm_ok hR.1) z1 z2
  have eN : (plE W).1 = 2 * (pA W.1.1.1 W.1.1.2 W.1.2.1.1 W.1.2.1.2.1 W.1.2.1.2.2 W.1.2.2.2.2).1 := eqp.1
  have s1' := s1
  rw [eN] at s1'
  refine Or.inl ⟨(W.1, W.2.1, W.2.2.1, V2, W.2.2.2.2), _, ⟨_, rfl⟩, s7, fun h2 => ?_⟩
  obtain ⟨p, s, Z, C, n', w', c1, c2, c3, p1⟩ := r_digest (d := e + 3) (n := n) (w := w) (g := g) (h := dkW h2 x (W.1, W.2.1, W.2.2.1, V2, W.2.2.2.2)) (y := y) (G := G) (f := ptN W.1) (by omega) hy (Rel_rd hR) hA hB
    hR.2.1.2.2.1.1 hR.1.1.2.2.2.2.2.1 (fun i hi => by have := (hR.1.2.2.2.1 i hi).1; omega) (tm_ok hR.1) hR.2.1.2.2.2.1.1 hR.1.1.2.2.2.2.2.2.1 hR.1.2.2.2.2.1.1 hR.1.1.2.2.2.2.2.2.2.1 (Rel_nt hR) s3 s1' (fun A C h1 h2 => rows_eq eqp n2 s1 s2 h1 h2)
    (fun t ht => by
      have z := (Rel_pT hR t).1
      rw [ptE_1] at z
      exact z.symm)
  rw [adTf_S, u1, v1, ← eN] at p1
  exact ⟨_, n', w', p1, Rel_rn hR (V := V2) ⟨s6, s5⟩ ⟨C, rfl, c1⟩, rfl, by omega, by show 40 * n' + 13 * pot W.1 ≤ 40 * n + 46160 + 13 * pot W.1; omega, by omega⟩
theorem cp_sl {t v u : Int} {F : Nat → Nat} {G0 : Nat → Nat} {m : Nat} (hs : sor F 0 m) (hF : ∀ i, cOk (F i)) (hv : 0 ≤ v) : ∀ k, k ≤ m → (cpN F t v u k (0, G0)).1 = (slN F t v u k).1 ∧ (∀ i, i < (slN F t v u k).1 → (cpN F t v u k (0, G0)).2 i = (slN F t v u k).2 i) ∧ sor (cpN F t v u k (0, G0)).2 0 (cpN F t v u k (0, G0)).1 ∧ ∀ i, i < (cpN F t v u k (0, G0)).1 → ∃ j, j < k ∧ cIn (F j) t v u ∧ (cpN F t v u k (0, G0)).2 i = cbC v (F j)
  | 0, _ => ⟨rfl, fun i hi => absurd hi (Nat.not_lt_zero i), sor_s (by show 0 ≤ 1; omega), fun i hi => absurd hi (Nat.not_lt_zero i)⟩
  | k + 1, hk => by
    obtain ⟨i1, i2, i3, i4⟩ := cp_sl (G0 := G0) hs hF hv k (by omega)
    show (if cIn (F k) t v u then nlA (cpN F t v u k (0, G0)) (cbC v (F k)) else cpN F t v u k (0, G0)).1 = (if cIn (F k) t v u then ((slN F t v u k).1 + 1, upN (slN F t v u k).2 (slN F t v u k).1 (cbC v (F k))) else slN F t v u k).1 ∧ (∀ i, i < (if cIn (F k) t v u then ((slN F t v u k).1 + 1, upN (slN F t v u k).2 (slN F t v u k).1 (cbC v (F k))) else slN F t v u k).1 → (if cIn (F k) t v u then nlA (cpN F t v u k (0, G0)) (cbC v (F k)) else cpN F t v u k (0, G0)).2 i = (if cIn (F k) t v u then ((slN F t v u k).1 + 1, upN (slN F t v u k).2 (slN F t v u k).1 (cbC v (F k))) else slN F t v u k).2 i) ∧ sor (if cIn (F k) t v u then nlA (cpN F t v u k (0, G0)) (cbC v (F k)) else cpN F t v u k (0, G0)).2 0 (if cIn (F k) t v u then nlA (cpN F t v u k (0, G0)) (cbC v (F k)) else cpN F t v u k (0, G0)).1 ∧ ∀ i, i < (if cIn (F k) t v u then nlA (cpN F t v u k (0, G0)) (cbC v (F k)) else cpN F t v u k (0, G0)).1 → ∃ j, j < k + 1 ∧ cIn (F j) t v u ∧ (if cIn (F k) t v u then nlA (cpN F t v u k (0, G0)) (cbC v (F k)) else cpN F t v u k (0, G0)).2 i = cbC v (F j)
    by_cases q : cIn (F k) t v u
    · rw [if_pos q, if_pos q]
      generalize cpN F t v u k (0, G0) = E at *
      have top : ∀ i, i < E.1 → E.2 i ≤ cbC v (F k) := fun i hi => by
        obtain ⟨j, j1, j2, j3⟩ := i4 i hi
        obtain ⟨v, rfl⟩ : ∃ z : Nat, v = z := ⟨v.toNat, by omega⟩
        rw [j3, cbC_n (by omega), cbC_n (by omega)]
        have := hs j k (Nat.zero_le _) j1 (by omega)
        omega
      have hsk : sk E.2 (cbC v (F k)) E.1 = E.1 := by
        by_cases z : E.1 = 0
        · rw [z]
          rfl
        · obtain ⟨b, hb⟩ : ∃ b, E.1 = b + 1 := ⟨E.1 - 1, by omega⟩
          rw [hb]
          exact if_neg (by have := top b (by omega); omega)
      have e1 : nlA E (cbC v (F k)) = (E.1 + 1, insN E.2 E.1 E.1 (cbC v (F k))) := by
        unfold nlA
        rw [hsk]
      have so := ins_sor (c := cbC v (F k)) i3
      rw [hsk] at so
      rw [e1]
      refine ⟨by show E.1 + 1 = (slN F t v u k).1 + 1; omega, fun i hi => ?_, so, fun i hi => ?_⟩
      · have hi' : i < (slN F t v u k).1 + 1 := hi
        show insN E.2 E.1 E.1 _ i = upN _ _ _ i
        by_cases e : i = E.1
        · rw [e, inN_p, i1, upN_at]
        · rw [inN_o (by omega), upN_o (by omega)]
          exact i2 i (by omega)
      · have hi' : i < E.1 + 1 := hi
        show ∃ j, j < k + 1 ∧ cIn (F j) t v u ∧ insN E.2 E.1 E.1 _ i = _
        by_cases e : i = E.1
        · exact ⟨k, by omega, q, by rw [e, inN_p]⟩
        · obtain ⟨j, j1, j2, j3⟩ := i4 i (by omega)
          exact ⟨j, by omega, j2, by rw [inN_o (by omega), j3]⟩
    · rw [if_neg q, if_neg q]
      exact ⟨i1, i2, i3, fun i hi => by
        obtain ⟨j, j1, j2, j3⟩ := i4 i hi
        exact ⟨j, by omega, j2, j3⟩⟩
theorem c_copy {t v u : Int} (hR : Rel W M) (b1 : -2147483648 ≤ t ∧ t < 2147483648) (b2 : -2147483648 ≤ v ∧ v < 2147483648) (b3 : -2147483648 ≤ u ∧ u < 2147483648) : Alk 0 [(eIA, 1)] x y g W M (fun H => aE (d + 12) 49 [.ref x, .int (iI t), .int (iI v), .int (iI u)] H) (fun H => aE (e + 9) 214 [.ref y, .int (iI t), .int (iI v), .int (iI u)] H) := by
  have hO := Rel_ok hR
  have hN := hR.2.2.2.2.2.1
  by_cases hv : rgOk t v u
  · have hv2 := hv
    unfold rgOk at hv2
    obtain ⟨q1, q2, q3, q4⟩ := cp_sl (t := t) (v := v) (u := u) (F := W.1.1.2) (G0 := W.2.2.1.2) hR.1.2.2.1 hR.1.1.2.1 (by omega) W.1.1.1 (Nat.le_refl _)
    have hc60 : (cpN W.1.1.2 t v u W.1.1.1 (0, W.2.2.1.2)).1 ≤ 60 := by
      have z := cpN_1 (F := W.1.1.2) (t := t) (v := v) (u := u) (e := (0, W.2.2.1.2)) W.1.1.1
      have z2 := cntP_le (inB4 t v u) W.1.1.2 W.1.1.1
      have z3 := hR.1.1.1
      omega
    refine alk_v (W' := (W.1, W.2.1, cpN W.1.1.2 t v u W.1.1.1 (0, W.2.2.1.2), W.2.2.2)) (v := .int (iI (slN W.1.1.2 t v u W.1.1.1).1)) ⟨_, rfl⟩ (fun h n w => by rw [s_copy hO hv, q1]) (fun h n w hy => ?_) rfl
    obtain ⟨C', z1, z2⟩ := r_copy (d := e + 6) (n := n) (w := w) (g := g) (h := h) (y := y) (M := M) (Rel_nB hR) hR.1.1.1 hR.1.1.2.1 hv
    refine ⟨n, w, _, z2, ⟨hR.1, hR.2.1, hR.2.2.1, hR.2.2.2.1, ⟨hc60, ?_, ?_, q3, ?_, ?_⟩, hN, hR.2.2.2.2.2.2⟩, rfl, by omega, by omega⟩
    · exact cpN_ok (v := v) (e := (0, W.2.2.1.2)) (by omega) hR.1.1.2.1 hO.2.2.2.1 W.1.1.1
    · intro i hi
      obtain ⟨j, j1, j2, j3⟩ := q4 i hi
      obtain ⟨f1, f2, f3, f4, f5⟩ := cbC_f (v := v) (hR.1.1.2.1 j) (by omega)
      have vj := hR.1.2.1 j j1
      show ntV ((cpN W.1.1.2 t v u W.1.1.1 (0, W.2.2.1.2)).2 i)
      rw [j3]
      unfold ntV
      rw [f1, f2, f3, f5]
      omega
    · show iI _ = iI _
      rw [q1]
    · intro i j hi hj
      have hi' : i < (cpN W.1.1.2 t v u W.1.1.1 (0, W.2.2.1.2)).1 := hi
      rw [q1] at hi'
      show C' _ = iI (cFact ((cpN W.1.1.2 t v u W.1.1.1 (0, W.2.2.1.2)).2 i) j)
      rw [q2 i hi']
      exact z1 i j hi' hj
  · exact alk_e (k := 1) (by simp) (fun h n w => s_copy_1 b1 b2 b3 hv) (fun h n w hy => r_copy_1 (d := e + 6) b1 b2 b3 hv) (Rel_rf hR) rfl
end
