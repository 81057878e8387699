/-! ===== calls alike: remove, tracks, loop, groups, history ===== -/
theorem sm_del {f F : Nat → Nat} {p m : Nat} (hp : p < m) : sm (fun i => f (dlN F p (m - 1) i)) (m - 1) + f (F p) = sm (fun i => f (F i)) m := by
  have key : ∀ s, p + s ≤ m - 1 → sm (fun i => f (dlN F p (m - 1) i)) (p + s) + f (F p) = sm (fun i => f (F i)) (p + s + 1) := by
    intro s
    induction s with
    | zero =>
      intro _
      show sm (fun i => f (dlN F p (m - 1) i)) p + f (F p) = sm (fun i => f (F i)) p + f (F p)
      rw [sm_congr (f := fun i => f (dlN F p (m - 1) i)) (g := fun i => f (F i)) (fun i hi => by rw [dlN_o (by omega)])]
    | succ s ih =>
      intro hs
      have i1 := ih (by omega)
      show sm (fun i => f (dlN F p (m - 1) i)) (p + s) + f (dlN F p (m - 1) (p + s)) + f (F p) = sm (fun i => f (F i)) (p + s + 1) + f (F (p + s + 1))
      rw [dlN_i ⟨by omega, by omega⟩, ← i1]
      omega
  have z := key (m - 1 - p) (by omega)
  rw [show p + (m - 1 - p) = m - 1 by omega, show m - 1 + 1 = m by omega] at z
  exact z
theorem sq_del {F : Nat → Nat} {p m : Nat} (hp : p < m) : sqK F m ≤ sqK (dlN F p (m - 1)) (m - 1) + 2 * m := by
  unfold sqK
  have e1 : ∀ a, sm (fun j => ek a (F j)) m = sm (fun j => ek a (dlN F p (m - 1) j)) (m - 1) + ek a (F p) := fun a => (sm_del (f := ek a) hp).symm
  have e2 := sm_del (f := fun a => sm (fun j => ek a (F j)) m) (F := F) hp
  have e3 : sm (fun i => sm (fun j => ek (dlN F p (m - 1) i) (F j)) m) (m - 1) = sm (fun i => sm (fun j => ek (dlN F p (m - 1) i) (dlN F p (m - 1) j)) (m - 1) + ek (dlN F p (m - 1) i) (F p)) (m - 1) := sm_congr (fun i _ => e1 _)
  have le1 : ∀ a b, ek a b ≤ 1 := fun a b => by
    unfold ek
    split <;> omega
  have e5 : sm (fun i => sm (fun j => ek (dlN F p (m - 1) i) (dlN F p (m - 1) j)) (m - 1) + ek (dlN F p (m - 1) i) (F p)) (m - 1) = sm (fun i => sm (fun j => ek (dlN F p (m - 1) i) (dlN F p (m - 1) j)) (m - 1)) (m - 1) + sm (fun i => ek (dlN F p (m - 1) i) (F p)) (m - 1) := by
    have key : ∀ (u v : Nat → Nat) k, sm (fun i => u i + v i) k = sm u k + sm v k := by
      intro u v k
      induction k with
      | zero => rfl
      | succ k ih =>
        show sm (fun i => u i + v i) k + (u k + v k) = sm u k + u k + (sm v k + v k)
        omega
    exact key _ _ _
  have e6 : sm (fun i => ek (dlN F p (m - 1) i) (F p)) (m - 1) ≤ (m - 1) * 1 := sm_hi (fun i _ => le1 _ _)
  have e7 : sm (fun j => ek (F p) (F j)) m ≤ m * 1 := sm_hi (fun j _ => le1 _ _)
  omega
section
variable {d e x y : Nat} {g : Nat × Nat} {W : Dk} {M : Md}
theorem c_remove {p : Int} (hR : Rel W M) (b1 : -2147483648 ≤ p ∧ p < 2147483648) : Alk 0 [(eIO, 1)] x y g W M (fun H => aE (d + 12) 39 [.ref x, .int (iI p)] H) (fun H => aE (e + 9) 207 [.ref y, .int (iI p)] H) := by
  have hO := Rel_ok hR
  obtain ⟨u1, u2, u3, -⟩ := Rel_u hR
  have hA := Rel_nB hR
  by_cases hv : 0 ≤ p ∧ p < W.1.1.1
  · obtain ⟨p, rfl⟩ : ∃ z : Nat, p = z := ⟨p.toNat, by omega⟩
    have hp : p < W.1.1.1 := by omega
    have m60 := hR.1.1.1
    have gS : sgG ((W.1.1.1 - 1, dlN W.1.1.2 p (W.1.1.1 - 1)), W.1.2) := sg_notes hR.1 (by omega) (dlN_ok (P := cOk) hR.1.1.2.1) (dl_al hR.1.2.1) (dl_sor hR.1.2.2.1 hp)
    refine alk_c ⟨_, rfl⟩ hR gS (Rs_notes (X := tkX W.1.1.1 M.2.1) hR.2.1 m60 (by omega) (Rs_tkX hR.2.1 m60)) (fun h n w => s_remove hO hp gS.1) (fun h n w hy => ⟨n, w, r_remove (d := e) hy hA m60 hp u1 u2 u3, by omega, ?_, by omega⟩)
    have hq := sq_del (F := W.1.1.2) hp
    have hb := sq_b W.1.1.2 W.1.1.1
    unfold pot
    dsimp only
    omega
  · exact alk_e (k := 1) (by simp) (fun h n w => s_remove_1 hO b1 hv) (fun h n w hy => r_remove_1 hy hA hR.1.1.1 b1 hv) (Rel_bg hR) rfl
theorem sgG_t {S : Sg} {T : TSv} (h : sgG S) (h1 : ∀ t, T.1 t < 4) (h2 : ∀ t, -24 ≤ T.2.1 t ∧ T.2.1 t ≤ 24) (h3 : ∀ t, -48 ≤ T.2.2 t ∧ T.2.2 t ≤ 48) : sgG (S.1, T, S.2.2) := ⟨⟨h.1.1, h.1.2.1, h1, h2, h3, h.1.2.2.2.2.2⟩, h.2⟩
theorem upI_a {P : Int → Prop} {F : Nat → Int} {k : Nat} {c : Int} (hc : P c) (hF : ∀ i, P (F i)) : ∀ i, P (upI F k c i) := fun i => by
  unfold upI
  split
  · exact hc
  · exact hF i
theorem c_setTrack {t u v : Int} {p q : Prop} [Decidable p] [Decidable q] (hR : Rel W M) (b1 : -2147483648 ≤ t ∧ t < 2147483648) (b2 : -2147483648 ≤ u ∧ u < 2147483648) (b3 : -2147483648 ≤ v ∧ v < 2147483648) :
    Alk 0 [(eIO, 1), (eIA, 2)] x y g W M (fun H => aE (d + 12) 53 [.ref x, .int (iI t), .int (bI p), .int (bI q), .int (iI u), .int (iI v)] H) (fun H => aE (e + 9) 219 [.ref y, .int (iI t), .int (bI p), .int (bI q), .int (iI u), .int (iI v)] H) := by
  have hO := Rel_ok hR
  obtain ⟨u1, u2, u3, -⟩ := Rel_u hR
  have bp : ∀ (s : Prop) [Decidable s], ∃ z : Int, bI s = iI z := fun s _ => by
    by_cases c : s
    · exact ⟨1, if_pos c⟩
    · exact ⟨0, if_neg c⟩
  by_cases ht : 0 ≤ t ∧ t ≤ 5
  · by_cases hv : (-24 ≤ u ∧ u ≤ 24) ∧ (-48 ≤ v ∧ v ≤ 48)
    · obtain ⟨t, rfl⟩ : ∃ z : Nat, t = z := ⟨t.toNat, by omega⟩
      have gS : sgG (tkT W t p q u v).1 := sgG_t hR.1 (upN_ok (P := fun z => z < 4) (by split <;> split <;> omega) hR.1.1.2.2.1) (upI_a (P := fun z => -24 ≤ z ∧ z ≤ 24) hv.1 hR.1.1.2.2.2.1) (upI_a (P := fun z => -48 ≤ z ∧ z ≤ 48) hv.2 hR.1.1.2.2.2.2.1)
      have sh : M.2.1 (301 + 4 * t + 2) = iI (W.1.2.1.2.1 t) := by
        rw [show 301 + 4 * t + 2 = 303 + 4 * t by omega]
        exact (hR.2.1.2.1 t (by omega)).2.2.1
      refine alk_c ⟨_, rfl⟩ hR gS (Rs_tr hR.2.1 hR.1.1 (by omega)) (fun h n w => s_setTrack hO (by omega) hv.1 hv.2 gS.1) (fun h n w hy => ⟨n + 1, w + 4, ?_, by omega, ?_, by omega⟩)
      · have z := r_setTrack (d := e) (n := n) (w := w) (g := g) (h := h) (t := t) (s := p) (a := q) (f := u) (e := v) hy (by omega) hv.1 hv.2 u1 u2 u3
        rw [sh] at z
        exact z
      · show 40 * (n + 1) + 13 * pot W.1 ≤ 40 * n + 46160 + 13 * (sqK W.1.1.2 W.1.1.1 - W.1.1.1)
        unfold pot
        omega
    · obtain ⟨z1, e1⟩ := bp p
      obtain ⟨z2, e2⟩ := bp q
      obtain ⟨t, rfl⟩ : ∃ z : Nat, t = z := ⟨t.toNat, by omega⟩
      refine alk_e (k := 2) (by simp) (fun h n w => s_setTrack_2 (by omega) b2 b3 hv) (fun h n w hy => ?_) (Rel_bg hR) rfl
      rw [e1, e2]
      exact r_setTrack_2 hy ht b2 b3 hv
  · obtain ⟨z1, e1⟩ := bp p
    obtain ⟨z2, e2⟩ := bp q
    refine alk_e (k := 1) (by simp) (fun h n w => s_setTrack_1 b1 ht) (fun h n w hy => ?_) (Rel_bg hR) rfl
    rw [e1, e2]
    exact r_setTrack_1 hy b1 ht
theorem c_setLoop {f t k : Int} (hR : Rel W M) (b1 : -2147483648 ≤ f ∧ f < 2147483648) (b2 : -2147483648 ≤ t ∧ t < 2147483648) (b3 : -2147483648 ≤ k ∧ k < 2147483648) :
    Alk 0 [(eIA, 1)] x y g W M (fun H => aE (d + 12) 56 [.ref x, .int (iI f), .int (iI t), .int (iI k)] H) (fun H => aE (e + 9) 223 [.ref y, .int (iI f), .int (iI t), .int (iI k)] H) := by
  have hO := Rel_ok hR
  obtain ⟨u1, u2, u3, -⟩ := Rel_u hR
  by_cases hv : (0 ≤ f ∧ f < t ∧ t ≤ 9600) ∧ 0 ≤ k ∧ k ≤ 8
  · obtain ⟨f, rfl⟩ : ∃ z : Nat, f = z := ⟨f.toNat, by omega⟩
    obtain ⟨t, rfl⟩ : ∃ z : Nat, t = z := ⟨t.toNat, by omega⟩
    obtain ⟨k, rfl⟩ : ∃ z : Nat, k = z := ⟨k.toNat, by omega⟩
    have gS : sgG (lpT W f t k).1 := by
      obtain ⟨⟨a1, a2, a3, a4, a5, a6, a7, a8, a9⟩, g1, g2, g3, g4, g5⟩ := hR.1
      refine ⟨⟨a1, a2, a3, a4, a5, a6, a7, a8, ?_, ?_, by show k ≤ 8; omega⟩, g1, g2, g3, g4, ?_⟩
      · show (if k = 0 then 0 else f) ≤ 9600
        split <;> omega
      · show (if k = 0 then 0 else t) ≤ 9600
        split <;> omega
      · show if k = 0 then (if k = 0 then 0 else f) = 0 ∧ (if k = 0 then 0 else t) = 0 else (if k = 0 then 0 else f) < (if k = 0 then 0 else t)
        by_cases c : k = 0
        · rw [if_pos c, if_pos c, if_pos c]
          exact ⟨rfl, rfl⟩
        · rw [if_neg c, if_neg c, if_neg c]
          omega
    have old : M.2.1 384 = iI W.1.2.2.2.2.2.2 := hR.2.1.2.2.2.2.2.2
    refine alk_c ⟨_, rfl⟩ hR gS (Rs_lp hR.2.1 hR.1.1) (fun h n w => s_setLoop hO (by omega) (by omega) (by omega) gS.1) (fun h n w hy => ⟨n + 1, w + 3, ?_, by omega, ?_, by omega⟩)
    · have z := r_setLoop (d := e) (n := n) (w := w) (g := g) (h := h) (v := f) (x := t) (k := k) hy (by omega) (by omega) (by omega) u1 u2 u3
      rw [old] at z
      exact z
    · show 40 * (n + 1) + 13 * pot W.1 ≤ 40 * n + 46160 + 13 * (sqK W.1.1.2 W.1.1.1 - W.1.1.1)
      unfold pot
      omega
  · exact alk_e (k := 1) (by simp) (fun h n w => s_setLoop_1 b1 b2 b3 hv) (fun h n w hy => r_setLoop_1 hy b1 b2 b3 (by omega)) (Rel_bg hR) rfl
end
