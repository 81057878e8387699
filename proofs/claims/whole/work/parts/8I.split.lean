/-! ===== calls alike: split, paste ===== -/
theorem inv_1 {F : Nat → Nat} {m p : Nat} (hm : m ≤ 60) (h : ∀ j, j < m → j ≠ p → ∀ i, i < j → F i ≤ F j) : ∀ k, k ≤ m → invN F k ≤ k + (if p < k then 60 else 0)
  | 0, _ => Nat.zero_le _
  | k + 1, hk => by
    have ih := inv_1 hm h k (by omega)
    show invN F k + (k + 1 - sk (srtN F k) (F k) k) ≤ _
    by_cases e : k = p
    · rw [if_neg (by omega)] at ih
      rw [if_pos (by omega)]
      omega
    · have st : sk (srtN F k) (F k) k = k := sk_top (srt_al (P := fun z => z ≤ F k) (m := k) (fun i hi => h k (by omega) e i hi) k (Nat.le_refl _))
      rw [st]
      by_cases q : p < k
      · rw [if_pos q] at ih
        rw [if_pos (by omega)]
        omega
      · rw [if_neg q] at ih
        rw [if_neg (by omega)]
        omega
theorem sp1_n {c k : Nat} (h1 : cS c < k) (h2 : k < cS c + cL c) : sp1 c k ≤ c ∧ sp1 c k / 16777216 = c / 16777216 := by
  have a3 := cL_lt c
  unfold sp1
  obtain ⟨l, hl⟩ : ∃ l, l = k - cS c := ⟨_, rfl⟩
  rw [← hl]
  have : l ≤ cL c := by omega
  unfold cO cT cS cP cL cF at *
  omega
theorem sk_cnt {F : Nat → Nat} {c : Nat} : ∀ n, n - sk F c n ≤ sm (fun i => if c < F i then 1 else 0) n
  | 0 => Nat.le_refl _
  | n + 1 => by
    have ih := sk_cnt (F := F) (c := c) n
    show n + 1 - (if c < F n then sk F c n else n + 1) ≤ sm (fun i => if c < F i then 1 else 0) n + if c < F n then 1 else 0
    by_cases q : c < F n
    · rw [if_pos q, if_pos q]
      omega
    · rw [if_neg q, if_neg q]
      omega
theorem psC_n {k c : Nat} (h : k + cS c ≤ 9599) : psC k c = c + k * 16777216 := by
  unfold psC
  unfold cO cT cS cP cL cF at *
  omega
theorem ps_1 {C F : Nat → Nat} {k m : Nat} : ∀ j, (psN C k j (m, F)).1 = m + cntP (ptP k) C j
  | 0 => rfl
  | j + 1 => by
    have ih := ps_1 (C := C) (F := F) (k := k) (m := m) j
    show (if k + cS (C j) ≤ 9599 then nlA (psN C k j (m, F)) (psC k (C j)) else psN C k j (m, F)).1 = m + cntP (ptP k) C (j + 1)
    by_cases q : k + cS (C j) ≤ 9599
    · rw [if_pos q, cntP_t (decide_eq_true q)]
      show (psN C k j (m, F)).1 + 1 = _
      omega
    · rw [if_neg q, cntP_f (fun z => q (of_decide_eq_true z))]
      exact ih
theorem ps_cnt {C F : Nat → Nat} {k m c : Nat} : ∀ j, (∀ i, i < j → k + cS (C i) ≤ 9599 → psC k (C i) ≤ c) → sm (fun i => if c < (psN C k j (m, F)).2 i then 1 else 0) (psN C k j (m, F)).1 = sm (fun i => if c < F i then 1 else 0) m
  | 0, _ => rfl
  | j + 1, h => by
    have ih := ps_cnt (C := C) (F := F) (k := k) (m := m) (c := c) j (fun i hi => h i (by omega))
    show sm (fun i => if c < (if k + cS (C j) ≤ 9599 then nlA (psN C k j (m, F)) (psC k (C j)) else psN C k j (m, F)).2 i then 1 else 0) (if k + cS (C j) ≤ 9599 then nlA (psN C k j (m, F)) (psC k (C j)) else psN C k j (m, F)).1 = _
    by_cases q : k + cS (C j) ≤ 9599
    · rw [if_pos q]
      have z := sm_ins (f := fun a => if c < a then 1 else 0) (F := (psN C k j (m, F)).2) (c := psC k (C j)) (sk_le (psN C k j (m, F)).2 (psC k (C j)) (psN C k j (m, F)).1)
      have := h j (by omega) q
      refine z.trans ?_
      rw [ih, if_neg (by omega)]
      rfl
    · rw [if_neg q]
      exact ih
theorem pc_b {C F : Nat → Nat} {k m cc : Nat} (hs : sor C 0 cc) : ∀ j, j ≤ cc → pcN C k (m, F) j ≤ j + cntP (ptP k) C j * (m + 1)
  | 0, _ => Nat.zero_le _
  | j + 1, hj => by
    have ih := pc_b (F := F) (k := k) (m := m) hs j (by omega)
    show pcN C k (m, F) j + 1 + (if k + cS (C j) ≤ 9599 then (psN C k j (m, F)).1 + 1 - sk (psN C k j (m, F)).2 (psC k (C j)) (psN C k j (m, F)).1 else 0) ≤ _
    by_cases q : k + cS (C j) ≤ 9599
    · rw [if_pos q, cntP_t (decide_eq_true q), Nat.succ_mul]
      have z1 := sk_cnt (F := (psN C k j (m, F)).2) (c := psC k (C j)) (psN C k j (m, F)).1
      have z2 := ps_cnt (C := C) (F := F) (k := k) (m := m) (c := psC k (C j)) j (fun i hi qi => by
        rw [psC_n qi, psC_n q]
        have := hs i j (Nat.zero_le _) hi (by omega)
        omega)
      have z3 := sm_hi (f := fun i => if psC k (C j) < F i then 1 else 0) (b := 1) (m := m) (fun i _ => by
        split <;> omega)
      rw [z2] at z1
      have z4 := sk_le (psN C k j (m, F)).2 (psC k (C j)) (psN C k j (m, F)).1
      omega
    · rw [if_neg q, cntP_f (fun z => q (of_decide_eq_true z))]
      omega
theorem q930 : ∀ m : Fin 61, (60 - m.val) * (m.val + 1) ≤ 930 := by decide
section
variable {d e x y : Nat} {g : Nat × Nat} {W : Dk} {M : Md}
theorem ps_G {C : Nat → Nat} {cc k : Nat} {S : Sg} (hS : sgG S) (hC : ∀ i, cOk (C i)) (hV : alN ntV C cc) : ∀ j, j ≤ cc → S.1.1 + cntP (ptP k) C j ≤ 60 → (∀ i, cOk ((psN C k j S.1).2 i)) ∧ alN ntV (psN C k j S.1).2 (psN C k j S.1).1 ∧ sor (psN C k j S.1).2 0 (psN C k j S.1).1 ∧ sqK S.1.2 S.1.1 + (psN C k j S.1).1 ≤ sqK (psN C k j S.1).2 (psN C k j S.1).1 + S.1.1
  | 0, _, _ => ⟨hS.1.2.1, hS.2.1, hS.2.2.1, Nat.le_refl _⟩
  | j + 1, hj, h60 => by
    have mono := cntP_mono (ptP k) C (show j ≤ j + 1 by omega)
    obtain ⟨i1, i2, i3, i4⟩ := ps_G (k := k) hS hC hV j (by omega) (by omega)
    show (∀ i, cOk ((if k + cS (C j) ≤ 9599 then nlA (psN C k j S.1) (psC k (C j)) else psN C k j S.1).2 i)) ∧ alN ntV (if k + cS (C j) ≤ 9599 then nlA (psN C k j S.1) (psC k (C j)) else psN C k j S.1).2 (if k + cS (C j) ≤ 9599 then nlA (psN C k j S.1) (psC k (C j)) else psN C k j S.1).1 ∧ sor (if k + cS (C j) ≤ 9599 then nlA (psN C k j S.1) (psC k (C j)) else psN C k j S.1).2 0 (if k + cS (C j) ≤ 9599 then nlA (psN C k j S.1) (psC k (C j)) else psN C k j S.1).1 ∧ sqK S.1.2 S.1.1 + (if k + cS (C j) ≤ 9599 then nlA (psN C k j S.1) (psC k (C j)) else psN C k j S.1).1 ≤ sqK (if k + cS (C j) ≤ 9599 then nlA (psN C k j S.1) (psC k (C j)) else psN C k j S.1).2 (if k + cS (C j) ≤ 9599 then nlA (psN C k j S.1) (psC k (C j)) else psN C k j S.1).1 + S.1.1
    by_cases q : k + cS (C j) ≤ 9599
    · rw [if_pos q]
      have a1 := cT_lt (hC j)
      have a3 := cL_lt (C j)
      have a4 := cP_lt (C j)
      have a5 := cF_lt (C j)
      have hc : cOk (psC k (C j)) := cO_ok a1 (by omega) a4 a3 a5
      have vj := hV j (by omega)
      have vc : ntV (psC k (C j)) := by
        unfold ntV at *
        unfold psC
        rw [cT_O (by omega) a4 a3 a5, cS_O (by omega) a4 a3 a5, cL_O a3 a5, cF_O a5]
        omega
      have hp := sk_le (psN C k j S.1).2 (psC k (C j)) (psN C k j S.1).1
      have hq := sq_ins (F := (psN C k j S.1).2) (c := psC k (C j)) hp
      refine ⟨insN_ok (P := cOk) hc i1, ins_al i2 vc hp (Nat.le_refl _), ins_sor i3, ?_⟩
      show sqK S.1.2 S.1.1 + ((psN C k j S.1).1 + 1) ≤ sqK (insN _ _ _ _) ((psN C k j S.1).1 + 1) + S.1.1
      omega
    · rw [if_neg q]
      exact ⟨i1, i2, i3, i4⟩
theorem c_paste {k : Int} (hR : Rel W M) (b1 : -2147483648 ≤ k ∧ k < 2147483648) : Alk 0 [(eIA, 1), (eIS, 2)] x y g W M (fun H => aE (d + 12) 50 [.ref x, .int (iI k)] H) (fun H => aE (e + 9) 215 [.ref y, .int (iI k)] H) := by
  have hO := Rel_ok hR
  obtain ⟨u1, u2, u3, -⟩ := Rel_u hR
  obtain ⟨k1, k2, k3, k4, k5, k6⟩ := hR.2.2.2.2.1
  by_cases hv : 0 ≤ k ∧ k ≤ 9599
  · obtain ⟨k, rfl⟩ : ∃ z : Nat, k = z := ⟨k.toNat, by omega⟩
    by_cases hr : W.1.1.1 + cntP (ptP k) W.2.2.1.2 W.2.2.1.1 ≤ 60
    · obtain ⟨g1, g2, g3, g4⟩ := ps_G (k := k) hR.1 k2 k3 W.2.2.1.1 (Nat.le_refl _) hr
      have n1 := ps_1 (C := W.2.2.1.2) (F := W.1.1.2) (k := k) (m := W.1.1.1) W.2.2.1.1
      have n1' : (psN W.2.2.1.2 k W.2.2.1.1 W.1.1).1 = W.1.1.1 + cntP (ptP k) W.2.2.1.2 W.2.2.1.1 := n1
      have gS : sgG (psN W.2.2.1.2 k W.2.2.1.1 W.1.1, W.1.2) := sg_notes hR.1 (by omega) g1 g2 g3
      refine alk_c ⟨_, rfl⟩ hR gS (Rs_notes (m := (psN W.2.2.1.2 k W.2.2.1.1 W.1.1).1) (F := (psN W.2.2.1.2 k W.2.2.1.1 W.1.1).2) (X := M.2.1) hR.2.1 hR.1.1.1 (by omega) (Rs_X hR.2.1 (by omega))) (fun h n w => s_paste hO (by omega) hr gS.1) (fun h n w hy => ?_)
      obtain ⟨s, s1, s2⟩ := r_paste (d := e) (n := n) (w := w) (g := g) (h := h) hy (Rel_nB hR) hR.1.1.1 (show k ≤ 9599 by omega) k1 k5 k6 k2 hR.1.1.2.1 hr u1 u2 u3
      have pb := pc_b (F := W.1.1.2) (k := k) (m := W.1.1.1) k4 W.2.2.1.1 (Nat.le_refl _)
      have m60 := hR.1.1.1
      have q1 := q930 ⟨W.1.1.1, by omega⟩
      have q2 : cntP (ptP k) W.2.2.1.2 W.2.2.1.1 * (W.1.1.1 + 1) ≤ (60 - W.1.1.1) * (W.1.1.1 + 1) := Nat.mul_le_mul_right _ (by omega)
      have hb := sq_b W.1.1.2 W.1.1.1
      dsimp only at q1
      refine ⟨_, _, s2, by omega, ?_, by omega⟩
      unfold pot
      dsimp only
      omega
    · exact alk_e (k := 2) (by simp) (fun h n w => s_paste_2 hO (by omega) hr) (fun h n w hy => r_paste_2 hy (Rel_nB hR) hR.1.1.1 (by omega) k1 k5 k6 hr) (Rel_bg hR) rfl
  · exact alk_e (k := 1) (by simp) (fun h n w => s_paste_1 b1 hv) (fun h n w hy => r_paste_1 hy b1 hv) (Rel_bg hR) rfl
theorem c_split {p k : Int} (hR : Rel W M) (b1 : -2147483648 ≤ p ∧ p < 2147483648) (b2 : -2147483648 ≤ k ∧ k < 2147483648) : Alk 0 [(eIO, 1), (eIA, 2), (eIS, 3)] x y g W M (fun H => aE (d + 12) 40 [.ref x, .int (iI p), .int (iI k)] H) (fun H => aE (e + 9) 208 [.ref y, .int (iI p), .int (iI k)] H) := by
  have hO := Rel_ok hR
  obtain ⟨u1, u2, u3, -⟩ := Rel_u hR
  have hA := Rel_nB hR
  have m60 := hR.1.1.1
  by_cases hv : 0 ≤ p ∧ p < W.1.1.1
  · obtain ⟨p, rfl⟩ : ∃ z : Nat, p = z := ⟨p.toNat, by omega⟩
    have hp : p < W.1.1.1 := by omega
    by_cases hw : (cS (W.1.1.2 p) : Int) < k ∧ k < (cS (W.1.1.2 p) : Int) + cL (W.1.1.2 p) ∧ 0 ≤ k ∧ k ≤ 9599
    · obtain ⟨k, rfl⟩ : ∃ z : Nat, k = z := ⟨k.toNat, by omega⟩
      have hk : cS (W.1.1.2 p) < k ∧ k < cS (W.1.1.2 p) + cL (W.1.1.2 p) ∧ k ≤ 9599 := by omega
      by_cases hn : W.1.1.1 < 60
      · have hc := hR.1.1.2.1 p
        have vp := hR.1.2.1 p hp
        obtain ⟨t1, t2, t3, t4, t5⟩ := sp1_T hc hk.1 hk.2.1
        obtain ⟨r1, r2, r3, r4, r5⟩ := sp2_T hc hk.1 hk.2.1 hk.2.2
        obtain ⟨k1, k2⟩ := sp1_n hk.1 hk.2.1
        have a1 := cT_lt hc
        have a3 := cL_lt (W.1.1.2 p)
        have a4 := cP_lt (W.1.1.2 p)
        have a5 := cF_lt (W.1.1.2 p)
        have a2 := cS_lt (W.1.1.2 p)
        have o1 : cOk (sp1 (W.1.1.2 p) k) := cO_ok a1 a2 a4 (by omega) a5
        have o2 : cOk (sp2 (W.1.1.2 p) k) := cO_ok a1 (by omega) a4 (by omega) a5
        have v1 : ntV (sp1 (W.1.1.2 p) k) := by
          unfold ntV
          rw [t1, t2, t3, t5]
          omega
        have v2 : ntV (sp2 (W.1.1.2 p) k) := by
          unfold ntV
          rw [r1, r2, r3, r5]
          omega
        generalize hc1 : sp1 (W.1.1.2 p) k = c1 at *
        generalize hc2 : sp2 (W.1.1.2 p) k = c2 at *
        -- the class's notes
        obtain ⟨D, hD⟩ : ∃ D, D = dlN W.1.1.2 p (W.1.1.1 - 1) := ⟨_, rfl⟩
        have d1 : ∀ i, cOk (D i) := by rw [hD]; exact dlN_ok (P := cOk) hR.1.1.2.1
        have d2 : alN ntV D (W.1.1.1 - 1) := by rw [hD]; exact dl_al hR.1.2.1
        have d3 : sor D 0 (W.1.1.1 - 1) := by rw [hD]; exact dl_sor hR.1.2.2.1 hp
        have em : W.1.1.1 - 1 + 1 = W.1.1.1 := by omega
        have p1 := sk_le D c1 (W.1.1.1 - 1)
        obtain ⟨E, hE⟩ : ∃ E, E = insN D (sk D c1 (W.1.1.1 - 1)) (W.1.1.1 - 1) c1 := ⟨_, rfl⟩
        have e1 : ∀ i, cOk (E i) := by rw [hE]; exact insN_ok (P := cOk) o1 d1
        have e2 : alN ntV E W.1.1.1 := by
          have z := ins_al (k := W.1.1.1 - 1) d2 v1 p1 (Nat.le_refl _)
          rw [em] at z
          rw [hE]
          exact z
        have e3 : sor E 0 W.1.1.1 := by
          have z := ins_sor (c := c1) d3
          rw [em] at z
          rw [hE]
          exact z
        have p2 := sk_le E c2 W.1.1.1
        obtain ⟨G, hG⟩ : ∃ G, G = insN E (sk E c2 W.1.1.1) W.1.1.1 c2 := ⟨_, rfl⟩
        have g1 : ∀ i, cOk (G i) := by rw [hG]; exact insN_ok (P := cOk) o2 e1
        have g2 : alN ntV G (W.1.1.1 + 1) := by rw [hG]; exact ins_al e2 v2 p2 (Nat.le_refl _)
        have g3 : sor G 0 (W.1.1.1 + 1) := by rw [hG]; exact ins_sor e3
        have cls : nlA (nlA (nlD W.1.1 p) c1) c2 = (W.1.1.1 + 1, G) := by
          unfold nlA nlD
          dsimp only
          rw [← hD, ← hE, em, hG]
        have gS : sgG ((W.1.1.1 + 1, G), W.1.2) := sg_notes hR.1 (by omega) g1 g2 g3
        -- the reference's
        obtain ⟨H, hH⟩ : ∃ H, H = srtN (upN W.1.1.2 p c1) W.1.1.1 := ⟨_, rfl⟩
        have h3 : sor H 0 W.1.1.1 := by rw [hH]; exact srt_sor _ _
        have q2 := sk_le H c2 W.1.1.1
        have r3' : sor (insN H (sk H c2 W.1.1.1) W.1.1.1 c2) 0 (W.1.1.1 + 1) := ins_sor h3
        have same : ∀ i, i < W.1.1.1 + 1 → insN H (sk H c2 W.1.1.1) W.1.1.1 c2 i = G i := sor_u r3' g3 (fun v => by
          have z1 := sm_ins (f := fun a => if a = v then 1 else 0) (F := H) (c := c2) q2
          have z2 := sm_srt (f := fun a => if a = v then 1 else 0) (F := upN W.1.1.2 p c1) (m := W.1.1.1) W.1.1.1 (Nat.le_refl _)
          have z3 := cn_upN (F := W.1.1.2) (p := p) (c := c1) (v := v) hp
          have z4 := sm_ins (f := fun a => if a = v then 1 else 0) (F := E) (c := c2) p2
          have z5 := sm_ins (f := fun a => if a = v then 1 else 0) (F := D) (c := c1) p1
          have z6 := sm_del (f := fun a => if a = v then 1 else 0) (F := W.1.1.2) hp
          rw [← hH] at z2
          rw [← hE, em] at z5
          rw [← hD] at z6
          rw [hG]
          show sm _ _ = sm _ _
          rw [z1, z4, z2, z5]
          unfold is1 at z3
          change sm (fun i => if upN W.1.1.2 p c1 i = v then 1 else 0) W.1.1.1 + _ = sm (fun i => if W.1.1.2 i = v then 1 else 0) W.1.1.1 + _ at z3
          omega)
        have rA : Rs ((W.1.1.1 + 1, G), W.1.2) (nB (W.1.1.1 + 1) (insN H (sk H c2 W.1.1.1) W.1.1.1 c2) M.2.1) := by
          rw [nB_ext (G := G) (Y := M.2.1) same (fun _ _ => rfl)]
          exact Rs_notes hR.2.1 m60 (by omega) (Rs_X hR.2.1 (by omega))
        have hq := sq_ins (F := H) (c := c2) q2
        have hq2 : sqK H W.1.1.1 = sqK W.1.1.2 W.1.1.1 := by
          rw [hH, sq_srt]
          refine sq_congr (fun i hi => ?_)
          unfold upN
          by_cases z : i = p
          · rw [if_pos z, k2, z]
          · rw [if_neg z]
        have hq3 : sqK (insN H (sk H c2 W.1.1.1) W.1.1.1 c2) (W.1.1.1 + 1) = sqK G (W.1.1.1 + 1) := sq_congr (fun i hi => by rw [same i hi])
        have iv := inv_1 (F := upN W.1.1.2 p c1) (m := W.1.1.1) (p := p) m60 (fun j hj hne i hi => by
          unfold upN
          rw [if_neg hne]
          by_cases z : i = p
          · rw [if_pos z]
            have := hR.1.2.2.1 p j (Nat.zero_le _) (by omega) hj
            omega
          · rw [if_neg z]
            exact hR.1.2.2.1 i j (Nat.zero_le _) hi hj) W.1.1.1 (Nat.le_refl _)
        rw [if_pos hp] at iv
        refine alk_c (v := .int (iI (W.1.1.1 + 1 : Nat))) ⟨_, rfl⟩ hR gS rA (fun h n w => ?_) (fun h n w hy => ?_)
        · have z := s_split (d := d) (h := h) (x := x) (W := W) (n := n) (w := w) (g := g) (p := p) (k := k) hO hp hk hn (by rw [hc1, hc2, cls]; exact gS.1)
          rw [hc1, hc2, cls] at z
          exact z
        · obtain ⟨s, s1, s2⟩ := r_split (d := e) (n := n) (w := w) (g := g) (h := h) (p := p) (k := k) hy hA hn hR.1.1.2.1 hp hk u1 u2 u3
          rw [hc1, hc2, ← hH] at s2
          rw [hc1] at s1
          have hb := sq_b W.1.1.2 W.1.1.1
          refine ⟨_, _, s2, by omega, ?_, by omega⟩
          unfold pot
          dsimp only
          omega
      · have e60 : W.1.1.1 = 60 := by omega
        have hA' := hA
        rw [e60] at hA'
        exact alk_e (k := 3) (by simp) (fun h n w => s_split_3 hO hp hk hn) (fun h n w hy => r_split_3 hy hA' (by omega) hk) (Rel_bg hR) rfl
    · exact alk_e (k := 2) (by simp) (fun h n w => s_split_2 hO hp b2 hw) (fun h n w hy => r_split_2 hy hA m60 hp b2 hw) (Rel_bg hR) rfl
  · exact alk_e (k := 1) (by simp) (fun h n w => s_split_1 hO b1 hv) (fun h n w hy => r_split_1 hy hA m60 b1 hv) (Rel_bg hR) rfl
end
