/-! ===== calls alike: what is played ===== -/
section
variable {d e x y : Nat} {g : Nat × Nat} {W : Dk} {M : Md}
theorem Rel_rd (h : Rel W M) : rdH M W.1.1.1 W.1.1.2 M.2.1 W.1.2.1.1 W.1.2.1.2.1 W.1.2.1.2.2 W.1.2.2.2.2 := by
  have gl := h.1.2.2.2.2.2
  have ol := sgOk_lp h.1.1
  refine ⟨Rel_nB h, h.1.1.1, h.1.1.2.1, fun i hi => by have := (h.1.2.1 i hi).1; omega, h.2.1.2.1, h.1.1.2.2.1, h.1.1.2.2.2.1, h.1.1.2.2.2.2.1, h.2.1.2.2.2.2, ol.2.2, fun z => ?_, ol.2.1, ol.1⟩
  rw [if_neg (by omega)] at gl
  exact gl
/-- what the reference plays, of the class's song -/
def pAW (W : Dk) : PV := pA W.1.1.1 W.1.1.2 W.1.2.1.1 W.1.2.1.2.1 W.1.2.1.2.2 W.1.2.2.2.2
def pTW (W : Dk) (t : Nat) : PV := pT W.1.1.1 W.1.1.2 W.1.2.1.2.1 W.1.2.1.2.2 W.1.2.2.2.2 t
theorem Rel_pA (h : Rel W M) : eqP (plE W) (pAW W) := by
  have r := Rel_rd h
  have e1 : plE W = evS (fun t => decide (hrd W.1.2.1.1 t)) W.1.2.1.2.1 W.1.2.1.2.2 W.1.1.2 W.1.2.2.2.2 W.1.1.1 (0, W.2.2.2.1.2.1) := evP_S (fun i j h1 h2 => Nat.div_le_div_right (h.1.2.2.1 i j (Nat.zero_le _) h1 h2)) r.2.2.2.1
  rw [e1]
  exact eqP_S ⟨rfl, fun j hj => absurd hj (Nat.not_lt_zero j)⟩ rfl r.2.2.2.2.2.2.2.2.2.1 r.2.2.2.2.2.2.2.2.2.2.1 _ h.1.1.1 (fun i hi => (h.1.2.1 i hi).2.2.1.2)
theorem Rel_pT (h : Rel W M) (t : Nat) : eqP (ptE W t) (pTW W t) := by
  have r := Rel_rd h
  have e1 : ptE W t = evS (fun u => decide (u = t)) W.1.2.1.2.1 W.1.2.1.2.2 W.1.1.2 W.1.2.2.2.2 W.1.1.1 (0, W.2.2.2.1.2.1) := evT_S _
  rw [e1]
  exact eqP_S ⟨rfl, fun j hj => absurd hj (Nat.not_lt_zero j)⟩ rfl r.2.2.2.2.2.2.2.2.2.1 r.2.2.2.2.2.2.2.2.2.2.1 _ h.1.1.1 (fun i hi => (h.1.2.1 i hi).2.2.1.2)
theorem Rel_rn (h : Rel W M) {V : Rn} (hV : V.1 ≤ 960 ∧ (∀ i, vOk (V.2.1 i)) ∧ ∀ i, vOk (V.2.2 i)) {k p : Int32} {s : Int64} {Z : Nat → Nat → Int32} {R : Nat → Int64} (hr : rwR R) : Rel (W.1, W.2.1, W.2.2.1, V, W.2.2.2.2) ((k, M.1.2.1, M.1.2.2.1, M.1.2.2.2.1, M.1.2.2.2.2.1, p, s), M.2.1, M.2.2.1, M.2.2.2.1, M.2.2.2.2.1, M.2.2.2.2.2.1, M.2.2.2.2.2.2.1, Z, R) :=
  ⟨h.1, h.2.1, h.2.2.1, h.2.2.2.1, h.2.2.2.2.1, ⟨hV.1, hV.2⟩, hr⟩
theorem c_events (hd : 80 ≤ e) (hR : Rel W M) : Alk 0 [] x y g W M (fun H => aE (d + 12) 71 [.ref x] H) (fun H => aE (e + 9) 245 [.ref y] H) := by
  have hO := Rel_ok hR
  have hN := hR.2.2.2.2.2.1.2
  obtain ⟨A, hA, hB⟩ := hR.2.2.2.2.2.2
  have hk := plE_ok hO.1 hN.1
  have eq := (Rel_pA hR).1
  refine alk_v (W' := plW W) (v := .int (iI (2 * (pAW W).1 : Nat))) ⟨_, rfl⟩ (fun h n w => by rw [s_events hO hN, eq]) (fun h n w hy => ?_) rfl
  obtain ⟨Z, n', w', C, c1, c2, c3, c4, c5, c6, p1⟩ := r_events (d := e + 4) (n := n) (w := w) (g := g) (h := h) (by omega) hy (Rel_rd hR) hA hB
  have b1 := (pA_n (Rel_rd hR)).1
  exact ⟨n', w', _, p1, Rel_rn hR (V := ((plE W).1, (plE W).2, W.2.2.2.1.2.2)) ⟨hk.1, hk.2, hN.2⟩ ⟨C, rfl, c6⟩, rfl, by omega, by omega⟩
theorem c_event {j k : Int} (hd : 80 ≤ e) (hR : Rel W M) (b1 : -2147483648 ≤ j ∧ j < 2147483648) (b2 : -2147483648 ≤ k ∧ k < 2147483648) : Alk 0 [(eIO, 1), (eIA, 2)] x y g W M (fun H => aE (d + 12) 72 [.ref x, .int (iI j), .int (iI k)] H) (fun H => aE (e + 9) 246 [.ref y, .int (iI j), .int (iI k)] H) := by
  have hO := Rel_ok hR
  have hN := hR.2.2.2.2.2.1.2
  obtain ⟨A, hA, hB⟩ := hR.2.2.2.2.2.2
  have hk := plE_ok hO.1 hN.1
  have eqp := Rel_pA hR
  have eq := eqp.1
  have ⟨n1, n2⟩ := pA_n (Rel_rd hR)
  have eN : (plE W).1 = 2 * (pA W.1.1.1 W.1.1.2 W.1.2.1.1 W.1.2.1.2.1 W.1.2.1.2.2 W.1.2.2.2.2).1 := eq
  by_cases hv : 0 ≤ j ∧ j < (plE W).1
  · obtain ⟨j, rfl⟩ : ∃ z : Nat, j = z := ⟨j.toNat, by omega⟩
    by_cases hw : 0 ≤ k ∧ k ≤ 3
    · obtain ⟨k, rfl⟩ : ∃ z : Nat, k = z := ⟨k.toNat, by omega⟩
      intro h n w hx hy hg
      obtain ⟨G, S, s1, s2, s3, s4, s5⟩ := s_event (d := d) (h := mdW h y M) (x := x) (n := n) (w := w) (g := g) (j := j) (k := k) hO hN (by omega) (by omega)
      refine Or.inl ⟨srW W (plE W).1 G S, _, ⟨_, rfl⟩, s5, fun h2 => ?_⟩
      obtain ⟨Z, n', w', C, c1, c2, c3, c4, c5, c6, p1⟩ := r_event (d := e + 4) (n := n) (w := w) (g := g) (h := dkW h2 x (srW W (plE W).1 G S)) (j := j) (k := k) (by omega) hy (Rel_rd hR) hA hB (by omega) (by omega)
      have er := rows_eq eqp n2 s1 s2 c4 c5 j (by show j < 2 * _; omega)
      rw [er, rE_f (by omega)] at p1
      exact ⟨_, n', w', p1, Rel_rn hR ⟨hk.1, s3, s4⟩ ⟨C, rfl, c6⟩, rfl, by omega, by show 40 * n' + 13 * pot W.1 ≤ 40 * n + 46160 + 13 * pot W.1; omega, by omega⟩
    · refine alk_n (k := 2) (by simp) (fun h n w => s_event_2 hO hN (by omega) b2 hw) (fun h n w hy => ?_) (W' := plW W) rfl
      obtain ⟨Z, n', w', C, c1, c2, c3, c4, c5, c6, p1⟩ := r_event_2 (d := e + 4) (n := n) (w := w) (g := g) (h := h) (j := j) (k := k) (by omega) hy (Rel_rd hR) hA hB (by omega) b2 hw
      exact ⟨n', w', _, p1, Rel_rn hR (V := ((plE W).1, (plE W).2, W.2.2.2.1.2.2)) ⟨hk.1, hk.2, hN.2⟩ ⟨C, rfl, c6⟩, rfl, by omega, by omega⟩
  · refine alk_n (k := 1) (by simp) (fun h n w => s_event_1 hO hN b1 hv) (fun h n w hy => ?_) (W' := plW W) rfl
    obtain ⟨Z, n', w', C, c1, c2, c3, c4, c5, c6, p1⟩ := r_event_1 (d := e + 4) (n := n) (w := w) (g := g) (h := h) (j := j) (k := k) (by omega) hy (Rel_rd hR) hA hB b1 (by omega)
    exact ⟨n', w', _, p1, Rel_rn hR (V := ((plE W).1, (plE W).2, W.2.2.2.1.2.2)) ⟨hk.1, hk.2, hN.2⟩ ⟨C, rfl, c6⟩, rfl, by omega, by omega⟩
theorem c_sounding {t : Int} (hR : Rel W M) (b1 : -2147483648 ≤ t ∧ t < 2147483648) : Alk 0 [(eIA, 1)] x y g W M (fun H => aE (d + 12) 73 [.ref x, .int (iI t)] H) (fun H => aE (e + 9) 247 [.ref y, .int (iI t)] H) := by
  have hO := Rel_ok hR
  have hN := hR.2.2.2.2.2.1.2
  have hk := plE_ok hO.1 hN.1
  have eqp := Rel_pA hR
  have ⟨n1, n2⟩ := pA_n (Rel_rd hR)
  by_cases hv : 0 ≤ t ∧ t ≤ 99999
  · obtain ⟨t, rfl⟩ : ∃ z : Nat, t = z := ⟨t.toNat, by omega⟩
    refine alk_v (W' := plW W) (v := .int (iI (sgN (pAW W) t (pAW W).1 : Nat))) ⟨_, rfl⟩ (fun h n w => by rw [s_sounding hO hN (by omega), eqp.1, ct_sg eqp n2 t _ (Nat.le_refl _)]) (fun h n w hy => ?_) rfl
    obtain ⟨Z, hZ, p1⟩ := r_sounding (d := e + 4) (h := h) (r := (n, w, g)) (y := y) (M := M) (t := t) (by omega) (Rel_rd hR)
    exact ⟨n, w, _, p1, Rel_rn hR (V := ((plE W).1, (plE W).2, W.2.2.2.1.2.2)) ⟨hk.1, hk.2, hN.2⟩ hR.2.2.2.2.2.2, rfl, by omega, by omega⟩
  · exact alk_e (k := 1) (by simp) (fun h n w => s_sounding_1 b1 hv) (fun h n w hy => r_sounding_1 (d := e + 4) b1 hv) (Rel_rf hR) rfl
theorem c_most (hd : 80 ≤ e) (hR : Rel W M) : Alk 0 [] x y g W M (fun H => aE (d + 12) 74 [.ref x] H) (fun H => aE (e + 9) 249 [.ref y] H) := by
  have hO := Rel_ok hR
  have hN := hR.2.2.2.2.2.1.2
  obtain ⟨A, hA, hB⟩ := hR.2.2.2.2.2.2
  have hk := plE_ok hO.1 hN.1
  have eqp := Rel_pA hR
  have ⟨n1, n2⟩ := pA_n (Rel_rd hR)
  intro h n w hx hy hg
  obtain ⟨G, S, s1, s2, s3, s4, s5⟩ := s_most (d := d) (h := mdW h y M) (x := x) (n := n) (w := w) (g := g) hO hN
  refine Or.inl ⟨srW W (plE W).1 G S, _, ⟨_, rfl⟩, s5, fun h2 => ?_⟩
  obtain ⟨Z, n', w', C, c1, c2, c3, c4, c5, c6, p1⟩ := r_most (d := e + 3) (n := n) (w := w) (g := g) (h := dkW h2 x (srW W (plE W).1 G S)) (by omega) hy (Rel_rd hR) hA hB
  have ge : gtI (hv C) (2 * (pA W.1.1.1 W.1.1.2 W.1.2.1.1 W.1.2.1.2.1 W.1.2.1.2.2 W.1.2.2.2.2).1) = gtI G (plE W).1 := by
    rw [eqp.1]
    exact gt_rE (rows_eq eqp n2 s1 s2 c4 c5) _ (Nat.le_refl _)
  rw [ge] at p1
  exact ⟨_, n', w', p1, Rel_rn hR (V := ((plE W).1, G, S)) ⟨hk.1, s3, s4⟩ ⟨C, rfl, c6⟩, rfl, by omega, by show 40 * n' + 13 * pot W.1 ≤ 40 * n + 46160 + 13 * pot W.1; omega, by omega⟩
theorem c_playedTo (hd : 80 ≤ e) (hR : Rel W M) : Alk 0 [] x y g W M (fun H => aE (d + 12) 75 [.ref x] H) (fun H => aE (e + 9) 251 [.ref y] H) := by
  have hO := Rel_ok hR
  have hN := hR.2.2.2.2.2.1.2
  obtain ⟨A, hA, hB⟩ := hR.2.2.2.2.2.2
  have hk := plE_ok hO.1 hN.1
  have eqp := Rel_pA hR
  have ⟨n1, n2⟩ := pA_n (Rel_rd hR)
  refine alk_v (W' := plW W) ⟨_, rfl⟩ (fun h n w => s_playedTo hO hN) (fun h n w hy => ?_) rfl
  obtain ⟨Z, n', w', C, c1, c2, c3, c4, c5, c6, p1⟩ := r_playedTo (d := e + 3) (n := n) (w := w) (g := g) (h := h) (by omega) hy (Rel_rd hR) hA hB
  have gs : sor (srtN (plE W).2 (plE W).1) 0 (plE W).1 := srt_sor _ _
  have gc : ∀ v, cn (srtN (plE W).2 (plE W).1) v (plE W).1 = cn (plE W).2 v (plE W).1 := fun v => sm_srt (f := fun a => if a = v then 1 else 0) _ (Nat.le_refl _)
  have er := rows_eq eqp n2 gs gc c4 c5
  have e9 : (plE W).1 = 2 * (pAW W).1 := eqp.1
  have la := (la_rE (E := (plE W).2) er (by rw [← e9]; exact gs) (fun v => by rw [← e9]; exact gc v)).1
  have ea : laT C (2 * (pA W.1.1.1 W.1.1.2 W.1.2.1.1 W.1.2.1.2.1 W.1.2.1.2.2 W.1.2.2.2.2).1) = ltN (plE W).2 (plE W).1 := by
    rw [e9]
    exact la
  rw [ea] at p1
  exact ⟨n', w', _, p1, Rel_rn hR (V := ((plE W).1, (plE W).2, W.2.2.2.1.2.2)) ⟨hk.1, hk.2, hN.2⟩ ⟨C, rfl, c6⟩, rfl, by omega, by omega⟩
theorem c_meanForce (hR : Rel W M) : Alk 3 [] x y g W M (fun H => aE (d + 12) 76 [.ref x] H) (fun H => aE (e + 9) 252 [.ref y] H) := by
  have hO := Rel_ok hR
  have hN := hR.2.2.2.2.2.1.2
  have hk := plE_ok hO.1 hN.1
  have eqp := Rel_pA hR
  have ⟨n1, n2⟩ := pA_n (Rel_rd hR)
  have ⟨m1, m2⟩ := mf_eq eqp n2 (pAW W).1 (Nat.le_refl _)
  rw [← eqp.1] at m1 m2
  refine alk_v (W' := plW W) (v := .double (mnD (mfP (pAW W) (pAW W).1) (pAW W).1)) ⟨_, rfl, mn_cmp n1⟩ (fun h n w => by rw [s_meanForce hO hN (by rw [m2]; exact n1), m1, m2]) (fun h n w hy => ?_) rfl
  obtain ⟨Z, hZ, p1⟩ := r_meanForce (d := e + 4) (h := h) (r := (n, w, g)) (y := y) (M := M) (Rel_rd hR)
  exact ⟨n, w, _, p1, Rel_rn hR (V := ((plE W).1, (plE W).2, W.2.2.2.1.2.2)) ⟨hk.1, hk.2, hN.2⟩ hR.2.2.2.2.2.2, rfl, by omega, by omega⟩
theorem c_eventsAlone {t : Int} (hR : Rel W M) (b1 : -2147483648 ≤ t ∧ t < 2147483648) : Alk 0 [(eIO, 1)] x y g W M (fun H => aE (d + 12) 79 [.ref x, .int (iI t)] H) (fun H => aE (e + 9) 256 [.ref y, .int (iI t)] H) := by
  have hO := Rel_ok hR
  have hN := hR.2.2.2.2.2.1.2
  by_cases hv : 0 ≤ t ∧ t ≤ 5
  · obtain ⟨t, rfl⟩ : ∃ z : Nat, t = z := ⟨t.toNat, by omega⟩
    have hk := ptE_ok (t := t) hO.1 hN.1
    have eqp := Rel_pT hR t
    refine alk_v (W' := ptW W t) (v := .int (iI (2 * (pTW W t).1 : Nat))) ⟨_, rfl⟩ (fun h n w => by rw [s_eventsAlone hO hN (by omega), eqp.1]) (fun h n w hy => ?_) rfl
    obtain ⟨Z, hZ, p1⟩ := r_eventsAlone (d := e + 4) (h := h) (r := (n, w, g)) (y := y) (M := M) (t := t) (by omega) (Rel_rd hR)
    exact ⟨n, w, _, p1, Rel_rn hR (V := ((ptE W t).1, (ptE W t).2, W.2.2.2.1.2.2)) ⟨hk.1, hk.2, hN.2⟩ hR.2.2.2.2.2.2, rfl, by omega, by omega⟩
  · exact alk_e (k := 1) (by simp) (fun h n w => s_eventsAlone_1 b1 hv) (fun h n w hy => r_eventsAlone_1 (d := e + 4) b1 hv) (Rel_rf hR) rfl
end
