/-! ===== calls alike: what is asked ===== -/
section
variable {d e x y : Nat} {g : Nat × Nat} {W : Dk} {M : Md}
theorem c_notes (hR : Rel W M) : Alk 0 [] x y g W M (fun H => aE (d + 12) 51 [.ref x] H) (fun H => aE (e + 9) 216 [.ref y] H) :=
  alk_r (W' := W) (M' := rfM 0 M) ⟨_, rfl⟩ (fun h n w => s_notes) (fun h n w => r_notes (d := e + 8) (Rel_nB hR)) hR rfl rfl

theorem c_timeOf {t : Int} (hR : Rel W M) (b1 : -2147483648 ≤ t ∧ t < 2147483648) : Alk 0 [(eIA, 1)] x y g W M (fun H => aE (d + 12) 64 [.ref x, .int (iI t)] H) (fun H => aE (e + 9) 225 [.ref y, .int (iI t)] H) := by
  have hO := Rel_ok hR
  by_cases hv : 0 ≤ t ∧ t ≤ 99999
  · obtain ⟨t, rfl⟩ : ∃ z : Nat, t = z := ⟨t.toNat, by omega⟩
    exact alk_r (W' := W) (M' := rfM 0 M) ⟨_, rfl⟩ (fun h n w => s_timeOf hO (by omega)) (fun h n w => r_timeOf (d := e + 6) hR.2.1.2.2.1.1 hR.1.1.2.2.2.2.2.1 (fun i hi => by have := (hR.1.2.2.2.1 i hi).1; omega) (by omega)) hR rfl rfl
  · exact alk_e (k := 1) (by simp) (fun h n w => s_timeOf_1 b1 hv) (fun h n w hy => r_timeOf_1 (d := e + 6) b1 hv) (Rel_rf hR) rfl
theorem c_tickOf {t : Int} (hR : Rel W M) (b1 : -2147483648 ≤ t ∧ t < 2147483648) : Alk 0 [(eIA, 1)] x y g W M (fun H => aE (d + 12) 65 [.ref x, .int (iI t)] H) (fun H => aE (e + 9) 227 [.ref y, .int (iI t)] H) := by
  have hO := Rel_ok hR
  by_cases hv : 0 ≤ t
  · obtain ⟨t, rfl⟩ : ∃ z : Nat, t = z := ⟨t.toNat, by omega⟩
    exact alk_r (W' := W) (M' := rfM 0 M) ⟨_, rfl⟩ (fun h n w => s_tickOf hO (tm_ok hR.1) (by omega)) (fun h n w => r_tickOf (d := e + 5) hR.2.1.2.2.1.1 hR.1.1.2.2.2.2.2.1 (fun i hi => by have := (hR.1.2.2.2.1 i hi).1; omega) (by omega) (tm_ok hR.1)) hR rfl rfl
  · exact alk_e (k := 1) (by simp) (fun h n w => s_tickOf_1 b1 hv) (fun h n w hy => r_tickOf_1 (d := e + 5) b1 hv) (Rel_rf hR) rfl
theorem c_barOf {t : Int} (hR : Rel W M) (b1 : -2147483648 ≤ t ∧ t < 2147483648) : Alk 0 [(eIA, 1)] x y g W M (fun H => aE (d + 12) 66 [.ref x, .int (iI t)] H) (fun H => aE (e + 9) 233 [.ref y, .int (iI t)] H) := by
  have hO := Rel_ok hR
  by_cases hv : 0 ≤ t ∧ t ≤ 99999
  · obtain ⟨t, rfl⟩ : ∃ z : Nat, t = z := ⟨t.toNat, by omega⟩
    exact alk_r (W' := W) (M' := rfM 0 M) ⟨_, rfl⟩ (fun h n w => s_barOf hO (by omega)) (fun h n w => r_barOf (d := e + 4) hR.2.1.2.2.2.1.1 hR.1.1.2.2.2.2.2.2.1 hR.1.2.2.2.2.1.1 hR.1.1.2.2.2.2.2.2.2.1 (by omega)) hR rfl rfl
  · exact alk_e (k := 1) (by simp) (fun h n w => s_barOf_1 b1 hv) (fun h n w hy => r_barOf_1 (d := e + 4) b1 hv) (Rel_rf hR) rfl
theorem c_beatOf {t : Int} (hR : Rel W M) (b1 : -2147483648 ≤ t ∧ t < 2147483648) : Alk 0 [(eIA, 1)] x y g W M (fun H => aE (d + 12) 67 [.ref x, .int (iI t)] H) (fun H => aE (e + 9) 235 [.ref y, .int (iI t)] H) := by
  have hO := Rel_ok hR
  by_cases hv : 0 ≤ t ∧ t ≤ 99999
  · obtain ⟨t, rfl⟩ : ∃ z : Nat, t = z := ⟨t.toNat, by omega⟩
    exact alk_r (W' := W) (M' := rfM 0 M) ⟨_, rfl⟩ (fun h n w => s_beatOf hO (by omega)) (fun h n w => r_beatOf (d := e + 3) hR.2.1.2.2.2.1.1 hR.1.1.2.2.2.2.2.2.1 hR.1.2.2.2.2.1.1 hR.1.1.2.2.2.2.2.2.2.1 (by omega)) hR rfl rfl
  · exact alk_e (k := 1) (by simp) (fun h n w => s_beatOf_1 b1 hv) (fun h n w hy => r_beatOf_1 (d := e + 3) b1 hv) (Rel_rf hR) rfl
theorem c_tickOfBar {t : Int} (hR : Rel W M) (b1 : -2147483648 ≤ t ∧ t < 2147483648) : Alk 0 [(eIA, 1)] x y g W M (fun H => aE (d + 12) 68 [.ref x, .int (iI t)] H) (fun H => aE (e + 9) 236 [.ref y, .int (iI t)] H) := by
  have hO := Rel_ok hR
  by_cases hv : 0 ≤ t ∧ t ≤ 999
  · obtain ⟨t, rfl⟩ : ∃ z : Nat, t = z := ⟨t.toNat, by omega⟩
    exact alk_r (W' := W) (M' := rfM 0 M) ⟨_, rfl⟩ (fun h n w => s_tickOfBar hO (by omega)) (fun h n w => r_tickOfBar (d := e + 4) hR.2.1.2.2.2.1.1 hR.1.1.2.2.2.2.2.2.1 hR.1.2.2.2.2.1.1 (by omega)) hR rfl rfl
  · exact alk_e (k := 1) (by simp) (fun h n w => s_tickOfBar_1 b1 hv) (fun h n w hy => r_tickOfBar_1 (d := e + 4) b1 hv) (Rel_rf hR) rfl
theorem c_note {p v : Int} (hR : Rel W M) (b1 : -2147483648 ≤ p ∧ p < 2147483648) (b2 : -2147483648 ≤ v ∧ v < 2147483648) : Alk 0 [(eIO, 1), (eIA, 2)] x y g W M (fun H => aE (d + 12) 52 [.ref x, .int (iI p), .int (iI v)] H) (fun H => aE (e + 9) 217 [.ref y, .int (iI p), .int (iI v)] H) := by
  have hO := Rel_ok hR
  by_cases hv : 0 ≤ p ∧ p < W.1.1.1
  · obtain ⟨p, rfl⟩ : ∃ z : Nat, p = z := ⟨p.toNat, by omega⟩
    by_cases hw : 0 ≤ v ∧ v ≤ 4
    · obtain ⟨v, rfl⟩ : ∃ z : Nat, v = z := ⟨v.toNat, by omega⟩
      exact alk_r (W' := W) (M' := rfM 0 M) ⟨_, rfl⟩ (fun h n w => s_note hO (by omega) (by omega)) (fun h n w => r_note (d := e + 6) (Rel_nB hR) hR.1.1.1 (by omega) (by omega)) hR rfl rfl
    · exact alk_e (k := 2) (by simp) (fun h n w => s_note_2 hO (by omega) b2 hw) (fun h n w hy => r_note_2 (d := e + 6) (Rel_nB hR) hR.1.1.1 (by omega) b2 hw) (Rel_rf hR) rfl
  · exact alk_e (k := 1) (by simp) (fun h n w => s_note_1 hO b1 hv) (fun h n w hy => r_note_1 (d := e + 6) (Rel_nB hR) hR.1.1.1 b1 hv) (Rel_rf hR) rfl
theorem c_chordAt {t : Int} (hR : Rel W M) (b1 : -2147483648 ≤ t ∧ t < 2147483648) : Alk 0 [(eIA, 1)] x y g W M (fun H => aE (d + 12) 69 [.ref x, .int (iI t)] H) (fun H => aE (e + 9) 242 [.ref y, .int (iI t)] H) := by
  have hO := Rel_ok hR
  by_cases hv : 0 ≤ t ∧ t ≤ 9599
  · obtain ⟨t, rfl⟩ : ∃ z : Nat, t = z := ⟨t.toNat, by omega⟩
    exact alk_r (W' := W) (M' := rfM 0 M) ⟨_, rfl⟩ (fun h n w => s_chordAt hO (by omega)) (fun h n w => r_chordAt (d := e + 6) (Rel_nB hR) hR.1.1.1 hR.1.1.2.1 (by omega)) hR rfl rfl
  · exact alk_e (k := 1) (by simp) (fun h n w => s_chordAt_1 b1 hv) (fun h n w hy => r_chordAt_1 (d := e + 6) b1 hv) (Rel_rf hR) rfl
theorem c_clashes (hR : Rel W M) : Alk 0 [] x y g W M (fun H => aE (d + 12) 70 [.ref x] H) (fun H => aE (e + 9) 244 [.ref y] H) :=
  alk_r (W' := W) (M' := rfM 0 M) ⟨_, rfl⟩ (fun h n w => s_clashesD (Rel_ok hR)) (fun h n w => r_clashes (d := e + 5) (Rel_nB hR) hR.1.1.1 hR.1.1.2.1) hR rfl rfl
theorem Rel_nt (hR : Rel W M) : ntOk W.1.1.2 W.1.1.1 := fun i hi => (hR.1.2.1 i hi).2.1
theorem c_wouldMove {t v u s : Int} (hR : Rel W M) (b1 : -2147483648 ≤ t ∧ t < 2147483648) (b2 : -2147483648 ≤ v ∧ v < 2147483648) (b3 : -2147483648 ≤ u ∧ u < 2147483648) (b4 : -2147483648 ≤ s ∧ s < 2147483648) : Alk 0 [(eIA, 1)] x y g W M (fun H => aE (d + 12) 78 [.ref x, .int (iI t), .int (iI v), .int (iI u), .int (iI s)] H) (fun H => aE (e + 9) 254 [.ref y, .int (iI t), .int (iI v), .int (iI u), .int (iI s)] H) := by
  have hO := Rel_ok hR
  by_cases hv : rgOk t v u ∧ 1 ≤ s ∧ s ≤ 384
  · obtain ⟨s, rfl⟩ : ∃ z : Nat, s = z := ⟨s.toNat, by omega⟩
    exact alk_r (W' := W) (M' := rfM 0 M) ⟨_, rfl⟩ (fun h n w => s_wouldMove hO hv.1 (by omega)) (fun h n w => r_wouldMove (d := e + 5) (Rel_nB hR) hR.1.1.1 hR.1.1.2.1 (Rel_nt hR) hv.1 (by omega)) hR rfl rfl
  · exact alk_e (k := 1) (by simp) (fun h n w => s_wouldMove_1 b1 b2 b3 b4 hv) (fun h n w hy => r_wouldMove_1 (d := e + 5) b1 b2 b3 b4 hv) (Rel_rf hR) rfl
theorem g_out {h : aHf} (hg : gSt h g x y) : ∃ f, (∀ W' : Dk, dkW (mdW h y M) x W' g.1 = some (aI .float 8 f)) ∧ ∀ j, j < 8 → f j = st_f j := by
  obtain ⟨⟨f, h1, h2⟩, h3, h4⟩ := hg
  refine ⟨f, fun W' => ?_, h2⟩
  exact (rg_o (by omega)).trans ((rg_o (by omega)).trans h1)
theorem c_bestStep {t v u : Int} (hR : Rel W M) (b1 : -2147483648 ≤ t ∧ t < 2147483648) (b2 : -2147483648 ≤ v ∧ v < 2147483648) (b3 : -2147483648 ≤ u ∧ u < 2147483648) : Alk 0 [(eIA, 1)] x y g W M (fun H => aE (d + 12) 81 [.ref x, .int (iI t), .int (iI v), .int (iI u)] H) (fun H => aE (e + 9) 258 [.ref y, .int (iI t), .int (iI v), .int (iI u)] H) := by
  have hO := Rel_ok hR
  by_cases hv : rgOk t v u
  · intro h n w hx hy hg
    obtain ⟨f, z1, z2⟩ := g_out (M := M) hg
    exact Or.inl ⟨W, _, ⟨_, rfl⟩, s_bestStep hO hv (z1 W) z2, fun h2 => ⟨rfM 0 M, n + 1, w + 8, r_bestStep (d := e + 4) hy (Rel_nB hR) hR.1.1.1 hR.1.1.2.1 (Rel_nt hR) hv, hR, rfl, by omega, by omega, by omega⟩⟩
  · exact alk_e (k := 1) (by simp) (fun h n w => s_bestStep_1 b1 b2 b3 hv) (fun h n w hy => r_bestStep_1 (d := e + 4) b1 b2 b3 hv) (Rel_rf hR) rfl
end
