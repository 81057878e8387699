/-! ===== calls alike: transpose, weigh ===== -/
theorem sk_top {F : Nat → Nat} {c : Nat} : ∀ {k}, (∀ i, i < k → F i ≤ c) → sk F c k = k
  | 0, _ => rfl
  | k + 1, h => if_neg (by have := h k (by omega); omega)
theorem srt_id {F : Nat → Nat} {m : Nat} (h : sor F 0 m) : ∀ k, k ≤ m → srtN F k = F
  | 0, _ => rfl
  | k + 1, hk => by
    have ih := srt_id h k (by omega)
    rw [srtN_k, ih, sk_top (fun i hi => h i k (Nat.zero_le _) hi (by omega))]
    funext i
    unfold insN
    by_cases e : i = k
    · rw [if_pos e, e]
    · rw [if_neg e, if_neg (by omega)]
theorem inv_s {F : Nat → Nat} {m : Nat} (h : sor F 0 m) : ∀ k, k ≤ m → invN F k = k
  | 0, _ => rfl
  | k + 1, hk => by
    have ih := inv_s h k (by omega)
    show invN F k + (k + 1 - sk (srtN F k) (F k) k) = k + 1
    rw [ih, srt_id h k (by omega), sk_top (fun i hi => h i k (Nat.zero_le _) hi (by omega))]
    omega
/-- what keeps track and start, and the order of notes that share them -/
def mpK (gg : Nat → Nat) (c : Nat) : Prop := gg c / 16777216 = c / 16777216
theorem mp_sor {F gg : Nat → Nat} {m : Nat} (h : sor F 0 m) (hk : ∀ i, i < m → mpK gg (F i)) (hm : ∀ i j, i < m → j < m → F i / 16777216 = F j / 16777216 → F i ≤ F j → gg (F i) ≤ gg (F j)) : sor (mapN F gg m) 0 m := by
  intro i j _ hij hj
  unfold mapN
  rw [if_pos (by omega), if_pos hj]
  have h1 := h i j (Nat.zero_le _) hij hj
  have k1 := hk i (by omega)
  have k2 := hk j hj
  unfold mpK at k1 k2
  by_cases e : F i / 16777216 = F j / 16777216
  · exact hm i j (by omega) hj e h1
  · have : F i / 16777216 < F j / 16777216 := by
      have := Nat.div_le_div_right (c := 16777216) h1
      omega
    omega
theorem c_key {c c' : Nat} (h : c / 16777216 = c' / 16777216) : cT c = cT c' ∧ cS c = cS c' := by
  unfold cT cS
  omega
theorem in_key {c c' : Nat} {t v u : Int} (h : c / 16777216 = c' / 16777216) : cIn c t v u ↔ cIn c' t v u := by
  obtain ⟨h1, h2⟩ := c_key h
  unfold cIn
  rw [h1, h2]
theorem tp_n {t v u b : Int} {c : Nat} (h : cIn c t v u) (hb : 0 ≤ (cP c : Int) + b ∧ (cP c : Int) + b ≤ 127) : (tpG t v u b c : Int) = c + b * 131072 := by
  unfold tpG
  rw [if_pos h]
  have e : ((((cP c : Int) + b).toNat : Nat) : Int) = (cP c : Int) + b := by omega
  generalize ((cP c : Int) + b).toNat = z at *
  unfold cO cT cS cP cL cF at *
  omega
theorem tp_k {t v u b : Int} {c : Nat} (hb : tpOk t v u b c) : mpK (tpG t v u b) c := by
  unfold mpK
  by_cases h : cIn c t v u
  · have e := tp_n h (hb h)
    have hb2 := hb h
    have e3 : (cP c : Int) = c / 131072 % 128 := by unfold cP; omega
    omega
  · unfold tpG
    rw [if_neg h]
theorem wg_n {t v u : Int} {p c : Nat} (h : cIn c t v u) : wgG t v u p c = c / 128 * 128 + max 1 (min 127 (cF c * p / 100)) := by
  unfold wgG
  rw [if_pos h]
  generalize max 1 (min 127 (cF c * p / 100)) = z
  unfold cO cT cS cP cL
  omega
theorem wg_k {t v u : Int} {p c : Nat} : mpK (wgG t v u p) c := by
  unfold mpK
  by_cases h : cIn c t v u
  · rw [wg_n h]
    have : max 1 (min 127 (cF c * p / 100)) ≤ 127 := by omega
    generalize max 1 (min 127 (cF c * p / 100)) = z at *
    omega
  · unfold wgG
    rw [if_neg h]
section
variable {d e x y : Nat} {g : Nat × Nat} {W : Dk} {M : Md}
theorem c_map {gg : Nat → Nat} (hR : Rel W M) (hk : ∀ i, i < W.1.1.1 → mpK gg (W.1.1.2 i)) (hm : ∀ i j, i < W.1.1.1 → j < W.1.1.1 → W.1.1.2 i / 16777216 = W.1.1.2 j / 16777216 → W.1.1.2 i ≤ W.1.1.2 j → gg (W.1.1.2 i) ≤ gg (W.1.1.2 j)) (hc : ∀ i, i < W.1.1.1 → cOk (gg (W.1.1.2 i)) ∧ ntV (gg (W.1.1.2 i))) :
    (∀ i, cOk (mapN W.1.1.2 gg W.1.1.1 i)) ∧ sgG ((W.1.1.1, srtN (mapN W.1.1.2 gg W.1.1.1) W.1.1.1), W.1.2) ∧ invN (mapN W.1.1.2 gg W.1.1.1) W.1.1.1 = W.1.1.1 ∧ pot ((W.1.1.1, srtN (mapN W.1.1.2 gg W.1.1.1) W.1.1.1), W.1.2) = pot W.1 := by
  have so := mp_sor hR.1.2.2.1 hk hm
  have ok : ∀ i, cOk (mapN W.1.1.2 gg W.1.1.1 i) := fun i => by
    unfold mapN
    split
    · rename_i z
      exact (hc i z).1
    · exact hR.1.1.2.1 i
  refine ⟨ok, sg_notes hR.1 hR.1.1.1 (srtN_ok (P := cOk) ok _) (srt_al (map_al (fun i hi => (hc i hi).2)) _ (Nat.le_refl _)) (srt_sor _ _), inv_s so _ (Nat.le_refl _), ?_⟩
  show sqK (srtN _ W.1.1.1) W.1.1.1 - W.1.1.1 = sqK W.1.1.2 W.1.1.1 - W.1.1.1
  rw [sq_srt, sq_congr (F := mapN W.1.1.2 gg W.1.1.1) (G := W.1.1.2) (fun i hi => by
    unfold mapN
    rw [if_pos hi]
    exact hk i hi)]
theorem c_transpose {t v u b : Int} (hR : Rel W M) (b1 : -2147483648 ≤ t ∧ t < 2147483648) (b2 : -2147483648 ≤ v ∧ v < 2147483648) (b3 : -2147483648 ≤ u ∧ u < 2147483648) (b4 : -2147483648 ≤ b ∧ b < 2147483648) : Alk 0 [(eIA, 1), (eIS, 2)] x y g W M (fun H => aE (d + 12) 44 [.ref x, .int (iI t), .int (iI v), .int (iI u), .int (iI b)] H) (fun H => aE (e + 9) 209 [.ref y, .int (iI t), .int (iI v), .int (iI u), .int (iI b)] H) := by
  have hO := Rel_ok hR
  obtain ⟨u1, u2, u3, -⟩ := Rel_u hR
  by_cases hv : rgOk t v u ∧ -127 ≤ b ∧ b ≤ 127
  · by_cases hok : ∀ j, j < W.1.1.1 → tpOk t v u b (W.1.1.2 j)
    · obtain ⟨c1, c2, c3, c4⟩ := c_map (gg := tpG t v u b) hR (fun i hi => tp_k (hok i hi)) (fun i j hi hj he hl => by
        by_cases q : cIn (W.1.1.2 i) t v u
        · have q2 := (in_key he).mp q
          have e1 := tp_n q (hok i hi q)
          have e2 := tp_n q2 (hok j hj q2)
          omega
        · unfold tpG
          rw [if_neg q, if_neg (fun z => q ((in_key he).mpr z))]
          exact hl) (fun i hi => by
        by_cases q : cIn (W.1.1.2 i) t v u
        · obtain ⟨f1, f2, f3, f4, f5, f6⟩ := tpG_f (hR.1.1.2.1 i) q (hok i hi q)
          have vj := hR.1.2.1 i hi
          refine ⟨f1, ?_⟩
          unfold ntV
          rw [f2, f3, f4, f6]
          exact vj
        · unfold tpG
          rw [if_neg q]
          exact ⟨hR.1.1.2.1 i, hR.1.2.1 i hi⟩)
      refine alk_c ⟨_, rfl⟩ hR c2 (Rs_notes (X := M.2.1) hR.2.1 hR.1.1.1 hR.1.1.1 (Rs_X hR.2.1 (Nat.le_refl _))) (fun h n w => s_transpose hO hv.1 hv.2 hok c2.1 c1) (fun h n w hy => ?_)
      obtain ⟨s, s1, s2⟩ := r_transpose (d := e) (n := n) (w := w) (g := g) (h := h) hy (Rel_nB hR) hR.1.1.1 hR.1.1.2.1 hv.1 hv.2 hok u1 u2 u3 c1
      have := hR.1.1.1
      refine ⟨_, _, s2, by omega, ?_, by omega⟩
      rw [c4]
      omega
    · exact alk_e (k := 2) (by simp) (fun h n w => s_transpose_2 hO hv.1 hv.2 hok) (fun h n w hy => r_transpose_2 hy (Rel_nB hR) hR.1.1.1 hR.1.1.2.1 hv.1 hv.2 hok) (Rel_bg hR) rfl
  · exact alk_e (k := 1) (by simp) (fun h n w => s_transpose_1 b1 b2 b3 b4 hv) (fun h n w hy => r_transpose_1 hy b1 b2 b3 b4 hv) (Rel_bg hR) rfl
theorem c_weigh {t v u b : Int} (hR : Rel W M) (b1 : -2147483648 ≤ t ∧ t < 2147483648) (b2 : -2147483648 ≤ v ∧ v < 2147483648) (b3 : -2147483648 ≤ u ∧ u < 2147483648) (b4 : -2147483648 ≤ b ∧ b < 2147483648) : Alk 0 [(eIA, 1)] x y g W M (fun H => aE (d + 12) 45 [.ref x, .int (iI t), .int (iI v), .int (iI u), .int (iI b)] H) (fun H => aE (e + 9) 210 [.ref y, .int (iI t), .int (iI v), .int (iI u), .int (iI b)] H) := by
  have hO := Rel_ok hR
  obtain ⟨u1, u2, u3, -⟩ := Rel_u hR
  by_cases hv : rgOk t v u ∧ 0 ≤ b ∧ b ≤ 400
  · obtain ⟨p, rfl⟩ : ∃ z : Nat, b = z := ⟨b.toNat, by omega⟩
    obtain ⟨c1, c2, c3, c4⟩ := c_map (gg := wgG t v u p) hR (fun i hi => wg_k) (fun i j hi hj he hl => by
      by_cases q : cIn (W.1.1.2 i) t v u
      · have q2 := (in_key he).mp q
        rw [wg_n q, wg_n q2]
        by_cases z : W.1.1.2 i / 128 = W.1.1.2 j / 128
        · have : cF (W.1.1.2 i) ≤ cF (W.1.1.2 j) := by unfold cF; omega
          have z2 : cF (W.1.1.2 i) * p / 100 ≤ cF (W.1.1.2 j) * p / 100 := Nat.div_le_div_right (Nat.mul_le_mul_right _ this)
          omega
        · have : W.1.1.2 i / 128 < W.1.1.2 j / 128 := by omega
          omega
      · unfold wgG
        rw [if_neg q, if_neg (fun z => q ((in_key he).mpr z))]
        exact hl) (fun i hi => by
      refine ⟨wgG_ok (hR.1.1.2.1 i), ?_⟩
      by_cases q : cIn (W.1.1.2 i) t v u
      · obtain ⟨f2, f3, f4, f5, f6⟩ := wgG_f (p := p) (hR.1.1.2.1 i) q
        have vj := hR.1.2.1 i hi
        unfold ntV
        rw [f2, f3, f4, f6]
        omega
      · unfold wgG
        rw [if_neg q]
        exact hR.1.2.1 i hi)
    refine alk_c ⟨_, rfl⟩ hR c2 (Rs_notes (X := M.2.1) hR.2.1 hR.1.1.1 hR.1.1.1 (Rs_X hR.2.1 (Nat.le_refl _))) (fun h n w => s_weigh hO hv.1 (by omega) c2.1) (fun h n w hy => ?_)
    obtain ⟨s, s1, s2⟩ := r_weigh (d := e) (n := n) (w := w) (g := g) (h := h) (p := p) hy (Rel_nB hR) hR.1.1.1 hR.1.1.2.1 hv.1 (by omega) u1 u2 u3
    have := hR.1.1.1
    refine ⟨_, _, s2, by omega, ?_, by omega⟩
    rw [c4]
    omega
  · exact alk_e (k := 1) (by simp) (fun h n w => s_weigh_1 b1 b2 b3 b4 hv) (fun h n w hy => r_weigh_1 hy b1 b2 b3 b4 hv) (Rel_bg hR) rfl
end
