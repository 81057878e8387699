/-! ===== calls alike: groups, history ===== -/
section
variable {d e x y : Nat} {g : Nat × Nat} {W : Dk} {M : Md}
theorem tyB {p : Prop} [Decidable p] : tyV 1 (.int (bI p)) := by
  by_cases q : p
  · exact Or.inr (congrArg Value.int (if_pos q))
  · exact Or.inl (congrArg Value.int (if_neg q))
theorem alk_p {T : Nat} {L : List (String × Nat)} {W' : Dk} {M' : Md} {C D : aH → aR} {v : Value} (hv : tyV T v) (hC : ∀ h n w, C (dkW h x W, n, w, g) = some (.inl (some v), (dkW h x W', n, w, g))) (hD : ∀ h n w, D (mdW h y M, n, w, g) = some (.inl (some v), (mdW h y M', n, w, g))) (hR : Rel W' M') (ht : M'.1.1 = iI 0) (hm : W.1.1.1 ≤ 60) : Alk T L x y g W M C D := fun h n w hx hy hg => by
  have := pot_b hm
  exact Or.inl ⟨W', v, hv, hC _ n w, fun h2 => ⟨M', n, w, hD _ n w, hR, ht, Nat.le_refl _, by omega, by omega⟩⟩
theorem c_openGroup (hR : Rel W M) : Alk 0 [(eIS, 1)] x y g W M (fun H => aE (d + 12) 57 [.ref x] H) (fun H => aE (e + 9) 191 [.ref y] H) := by
  obtain ⟨u1, u2, u3, -⟩ := Rel_u hR
  obtain ⟨a1, a2, a3, ⟨a4, a5⟩, a6, a7, a8⟩ := id hR
  by_cases q : W.2.2.2.2 = true
  · exact alk_e (k := 1) (by simp) (fun h n w => s_openGroup_1 q) (fun h n w hy => r_openGroup_1 (d := e + 7) (a4.trans q)) hR rfl
  · have q0 : W.2.2.2.2 = false := by
      cases z : W.2.2.2.2
      · rfl
      · exact absurd z q
    rw [if_neg q] at a5
    have gK := Rel_kn hR
    refine alk_r (W' := (W.1, W.2.1, W.2.2.1, W.2.2.2.1, true)) (M' := ogM M) ⟨_, rfl⟩ (fun h n w => s_openGroup q0) (fun h n w => ?_) ⟨a1, a2, a3, ⟨rfl, ?_⟩, a6, a7, a8⟩ rfl rfl
    · have z := r_openGroup (d := e + 7) (n := n) (w := w) (g := g) (h := h) (y := y) (M := M) (a4.trans q0)
      rw [u1] at z
      exact z
    · exact cpy_385 a5 gK.1
theorem c_closeGroup (hR : Rel W M) : Alk 1 [(eIS, 1)] x y g W M (fun H => aE (d + 12) 58 [.ref x] H) (fun H => aE (e + 9) 192 [.ref y] H) := by
  have hO := Rel_ok hR
  obtain ⟨u1, u2, u3, -⟩ := Rel_u hR
  have gK := Rel_kn hR
  obtain ⟨a1, a2, a3, ⟨a4, a5⟩, a6, a7, a8⟩ := id hR
  by_cases q : W.2.2.2.2 = true
  · rw [if_pos q] at a5
    have lk := Rs_lk a5 a2 gK a1
    have hv : bI (¬ lkS (W.2.1.2.2.2 W.2.1.1) W.1) = bI (¬ eqA M.2.2.2.2.2.1 M.2.1) := bI_c (not_congr lk).symm
    refine alk_r (W' := seW (W.1, W.2.1, W.2.2.1, W.2.2.2.1, false)) (M' := if eqA M.2.2.2.2.2.1 M.2.1 then cgM M else chM (cgM M) W.2.1.2.1 M.2.2.2.2.2.1) tyB (fun h n w => by rw [s_closeGroup hO q, hv]) (fun h n w => r_closeGroup (d := e + 2) (a4.trans q) u1 u2 u3) ?_ ?_ se_1
    · unfold seW
      by_cases q2 : eqA M.2.2.2.2.2.1 M.2.1
      · rw [if_pos q2]
        show Rel (if false = true ∨ lkS (W.2.1.2.2.2 W.2.1.1) W.1 then (W.1, W.2.1, W.2.2.1, W.2.2.2.1, false) else kpW (W.1, W.2.1, W.2.2.1, W.2.2.2.1, false)) _
        rw [if_pos (Or.inr (lk.mp q2))]
        refine ⟨a1, a2, a3, ⟨rfl, ?_⟩, a6, a7, a8⟩
        exact Rs_c a5 gK.1 (fun k hk => (eqA_iff.mp q2 k hk).symm)
      · rw [if_neg q2]
        show Rel (if false = true ∨ lkS (W.2.1.2.2.2 W.2.1.1) W.1 then (W.1, W.2.1, W.2.2.1, W.2.2.2.1, false) else kpW (W.1, W.2.1, W.2.2.1, W.2.2.2.1, false)) _
        rw [if_neg (fun z => z.elim (fun z => Bool.noConfusion z) (fun z => q2 (lk.mpr z)))]
        refine ⟨a1, a2, hs_keep a3 a1 a5, ⟨rfl, ?_⟩, a6, a7, a8⟩
        show Rs (upS _ _ _ ((W.2.1.1 + 1) % 21)) M.2.1
        unfold upS
        rw [if_pos rfl]
        exact Rs_tk a1 a2
    · split
      · rfl
      · rfl
  · have q0 : W.2.2.2.2 = false := by
      cases z : W.2.2.2.2
      · rfl
      · exact absurd z q
    exact alk_e (k := 1) (by simp) (fun h n w => s_closeGroup_1 q0) (fun h n w hy => r_closeGroup_1 (d := e + 7) (a4.trans q0)) hR rfl
theorem c_undo (hR : Rel W M) : Alk 0 [(eIS, 1)] x y g W M (fun H => aE (d + 12) 59 [.ref x] H) (fun H => aE (e + 9) 193 [.ref y] H) := by
  have hO := Rel_ok hR
  obtain ⟨u1, u2, u3, v1, v2, v3⟩ := Rel_u hR
  obtain ⟨a1, a2, a3, ⟨a4, a5⟩, a6, a7, a8⟩ := id hR
  by_cases q : W.2.2.2.2 = true ∨ W.2.1.2.1 = 0
  · exact alk_e (k := 1) (by simp) (fun h n w => s_undo_1 hO q) (fun h n w hy => r_undo_1 (d := e + 7) u1 u2 (q.imp (fun z => a4.trans z) id)) hR rfl
  · have q1 : ¬ W.2.2.2.2 = true := fun z => q (Or.inl z)
    have q0 : W.2.2.2.2 = false := by
      cases z : W.2.2.2.2
      · rfl
      · exact absurd z q1
    have hb : 0 < W.2.1.2.1 := by
      have : ¬ W.2.1.2.1 = 0 := fun z => q (Or.inr z)
      omega
    rw [if_neg q1] at a5
    have g' := a3.2.1 ((W.2.1.1 + 20) % 21) (by omega)
    have k1 := a3.2.2.2.2.2.2.2.1 (W.2.1.2.1 - 1) (by omega)
    rw [show (W.2.1.1 + 21 - (W.2.1.2.1 - (W.2.1.2.1 - 1))) % 21 = (W.2.1.1 + 20) % 21 by omega] at k1
    have rA : Rs (W.2.1.2.2.2 ((W.2.1.1 + 20) % 21)) (va_cpy (M.2.2.2.1.2 (M.2.2.2.1.1 (W.2.1.2.1 - 1))) M.2.1 0 0 385) := cpy_385 k1 g'.1
    refine alk_p (W' := bkW W) (M' := unM M (W.2.1.2.1 - 1) W.2.1.2.2.1) ⟨_, rfl⟩ (fun h n w => s_undo hO q0 hb) (fun h n w => r_undo (d := e + 5) (a4.trans q0) (by rw [u1, show W.2.1.2.1 - 1 + 1 = W.2.1.2.1 by omega]) v1 (by omega) u3 v3) ⟨tkS_G a1.1 g', Rs_tk g' rA, hs_back a3 hb a5, ⟨a4, ?_⟩, a6, a7, a8⟩ rfl a1.1.1
    show Rs (W.2.1.2.2.2 ((W.2.1.1 + 20) % 21)) (if W.2.2.2.2 = true then M.2.2.2.2.2.1 else _)
    rw [if_neg q1]
    exact rA
theorem c_redo (hR : Rel W M) : Alk 0 [(eIS, 1)] x y g W M (fun H => aE (d + 12) 60 [.ref x] H) (fun H => aE (e + 9) 194 [.ref y] H) := by
  have hO := Rel_ok hR
  obtain ⟨u1, u2, u3, v1, v2, v3⟩ := Rel_u hR
  obtain ⟨a1, a2, a3, ⟨a4, a5⟩, a6, a7, a8⟩ := id hR
  by_cases q : W.2.2.2.2 = true ∨ W.2.1.2.2.1 = 0
  · exact alk_e (k := 1) (by simp) (fun h n w => s_redo_1 hO q) (fun h n w hy => r_redo_1 (d := e + 7) v1 v2 (q.imp (fun z => a4.trans z) id)) hR rfl
  · have q1 : ¬ W.2.2.2.2 = true := fun z => q (Or.inl z)
    have q0 : W.2.2.2.2 = false := by
      cases z : W.2.2.2.2
      · rfl
      · exact absurd z q1
    have hb : 0 < W.2.1.2.2.1 := by
      have : ¬ W.2.1.2.2.1 = 0 := fun z => q (Or.inr z)
      omega
    rw [if_neg q1] at a5
    have g' := a3.2.1 ((W.2.1.1 + 1) % 21) (by omega)
    have k1 := a3.2.2.2.2.2.2.2.2 (W.2.1.2.2.1 - 1) (by omega)
    rw [show (W.2.1.1 + (W.2.1.2.2.1 - (W.2.1.2.2.1 - 1))) % 21 = (W.2.1.1 + 1) % 21 by omega] at k1
    have rA : Rs (W.2.1.2.2.2 ((W.2.1.1 + 1) % 21)) (va_cpy (M.2.2.2.2.1.2 (M.2.2.2.2.1.1 (W.2.1.2.2.1 - 1))) M.2.1 0 0 385) := cpy_385 k1 g'.1
    refine alk_p (W' := fwW W) (M' := reM M W.2.1.2.1 (W.2.1.2.2.1 - 1)) ⟨_, rfl⟩ (fun h n w => s_redo hO q0 hb) (fun h n w => r_redo (d := e + 5) (a4.trans q0) u1 (by rw [v1, show W.2.1.2.2.1 - 1 + 1 = W.2.1.2.2.1 by omega]) (by omega) u3 v3) ⟨tkS_G a1.1 g', Rs_tk g' rA, hs_fwd a3 hb a5, ⟨a4, ?_⟩, a6, a7, a8⟩ rfl a1.1.1
    show Rs (W.2.1.2.2.2 ((W.2.1.1 + 1) % 21)) (if W.2.2.2.2 = true then M.2.2.2.2.2.1 else _)
    rw [if_neg q1]
    exact rA
theorem c_undos (hR : Rel W M) : Alk 0 [] x y g W M (fun H => aE (d + 12) 61 [.ref x] H) (fun H => aE (e + 9) 195 [.ref y] H) := by
  obtain ⟨u1, u2, u3, v1, v2, v3⟩ := Rel_u hR
  refine alk_r (W' := W) (M' := rfM 0 M) ⟨_, rfl⟩ (fun h n w => s_undos) (fun h n w => ?_) hR rfl rfl
  have z := r_undos (d := e + 8) (r := (n, w, g)) (h := h) (y := y) (M := M)
  rw [u1] at z
  exact z
theorem c_redos (hR : Rel W M) : Alk 0 [] x y g W M (fun H => aE (d + 12) 62 [.ref x] H) (fun H => aE (e + 9) 196 [.ref y] H) := by
  obtain ⟨u1, u2, u3, v1, v2, v3⟩ := Rel_u hR
  refine alk_r (W' := W) (M' := rfM 0 M) ⟨_, rfl⟩ (fun h n w => s_redos) (fun h n w => ?_) hR rfl rfl
  have z := r_redos (d := e + 8) (r := (n, w, g)) (h := h) (y := y) (M := M)
  rw [v1] at z
  exact z
end
