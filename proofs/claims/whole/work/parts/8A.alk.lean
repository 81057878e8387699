/-! ===== a call alike on both ===== -/
def gSt (h : aHf) (g : Nat × Nat) (x y : Nat) : Prop := (∃ f, h g.1 = some (aI .float 8 f) ∧ ∀ j, j < 8 → f j = st_f j) ∧ (g.1 < x ∨ x + 404 ≤ g.1) ∧ (g.1 < y ∨ y + 531 ≤ g.1)
def bndC (n n' w w' : Nat) (S S' : Sg) : Prop := n ≤ n' ∧ 40 * n' + 13 * pot S ≤ 40 * n + 46160 + 13 * pot S' ∧ w' ≤ w + 12000
/-- of which kind a value is: int, boolean, long, a double that equals itself -/
def tyV (T : Nat) (v : Value) : Prop := match T with
  | 0 => ∃ i, v = .int i
  | 1 => v = .int (iI 0) ∨ v = .int (iI 1)
  | 2 => ∃ l, v = .long l
  | _ => ∃ D, v = .double D ∧ FP.dcmp D D = some .eq
def Alk (T : Nat) (L : List (String × Nat)) (x y : Nat) (g : Nat × Nat) (W : Dk) (M : Md) (C D : aH → aR) : Prop := ∀ (h : aHf) (n w : Nat), x + 404 ≤ y → y + 531 ≤ n → gSt h g x y →
  (∃ W' v, tyV T v ∧ C (dkW (mdW h y M) x W, n, w, g) = some (.inl (some v), (dkW (mdW h y M) x W', n, w, g)) ∧ ∀ h2, ∃ M' n' w', D (mdW (dkW h2 x W') y M, n, w, g) = some (.inl (some v), (mdW (dkW h2 x W') y M', n', w', g)) ∧ Rel W' M' ∧ M'.1.1 = iI 0 ∧ bndC n n' w w' W.1 W'.1) ∨
  (∃ W' E k, (E, k) ∈ L ∧ C (dkW (mdW h y M) x W, n, w, g) = some (.inr E, (dkW (mdW h y M) x W', n + 1, w + 6, g)) ∧ ∀ h2, ∃ M' n' w', D (mdW (dkW h2 x W') y M, n + 1, w + 6, g) = some (.inl (some (.int (iI 0))), (mdW (dkW h2 x W') y M', n', w', g)) ∧ Rel W' M' ∧ M'.1.1 = iI k ∧ bndC n n' w w' W.1 W'.1)
abbrev eIA : String := "java/lang/IllegalArgumentException"
abbrev eIS : String := "java/lang/IllegalStateException"
abbrev eIO : String := "java/lang/IndexOutOfBoundsException"
section
variable {T : Nat} {L : List (String × Nat)} {d e x y : Nat} {g : Nat × Nat} {W W' : Dk} {M M' : Md} {C D : aH → aR}
theorem alk_v {v : Value} (hv : tyV T v) (hC : ∀ h n w, C (dkW h x W, n, w, g) = some (.inl (some v), (dkW h x W', n, w, g))) (hD : ∀ h n w, y + 531 ≤ n → ∃ n' w' M', D (mdW h y M, n, w, g) = some (.inl (some v), (mdW h y M', n', w', g)) ∧ Rel W' M' ∧ M'.1.1 = iI 0 ∧ (n ≤ n' ∧ n' ≤ n + 8) ∧ w' ≤ w + 11000) (hS : W'.1 = W.1) : Alk T L x y g W M C D := fun h n w hx hy hg => by
  refine Or.inl ⟨W', v, hv, hC _ n w, fun h2 => ?_⟩
  obtain ⟨n', w', M', z1, z2, z3, z4, z5⟩ := hD (dkW h2 x W') n w hy
  refine ⟨M', n', w', z1, z2, z3, z4.1, ?_, by omega⟩
  rw [hS]
  omega
theorem alk_r {v : Value} (hv : tyV T v) (hC : ∀ h n w, C (dkW h x W, n, w, g) = some (.inl (some v), (dkW h x W', n, w, g))) (hD : ∀ h n w, D (mdW h y M, n, w, g) = some (.inl (some v), (mdW h y M', n, w, g))) (hR : Rel W' M') (ht : M'.1.1 = iI 0) (hS : W'.1 = W.1) : Alk T L x y g W M C D :=
  alk_v hv hC (fun h n w _ => ⟨n, w, M', hD h n w, hR, ht, by omega, by omega⟩) hS
theorem alk_n {E : String} {k : Nat} (hL : (E, k) ∈ L) (hC : ∀ h n w, C (dkW h x W, n, w, g) = some (.inr E, (dkW h x W', n + 1, w + 6, g))) (hD : ∀ h n w, y + 531 ≤ n → ∃ n' w' M', D (mdW h y M, n, w, g) = some (.inl (some (.int (iI 0))), (mdW h y M', n', w', g)) ∧ Rel W' M' ∧ M'.1.1 = iI k ∧ (n ≤ n' ∧ n' ≤ n + 8) ∧ w' ≤ w + 11000) (hS : W'.1 = W.1) : Alk T L x y g W M C D := fun h n w hx hy hg => by
  refine Or.inr ⟨W', E, k, hL, hC _ n w, fun h2 => ?_⟩
  obtain ⟨n', w', M', z1, z2, z3, z4, z5⟩ := hD (dkW h2 x W') (n + 1) (w + 6) (by omega)
  refine ⟨M', n', w', z1, z2, z3, by omega, ?_, by omega⟩
  rw [hS]
  omega
theorem alk_e {E : String} {k : Nat} (hL : (E, k) ∈ L) (hC : ∀ h n w, C (dkW h x W, n, w, g) = some (.inr E, (dkW h x W, n + 1, w + 6, g))) (hD : ∀ h n w, y + 531 ≤ n → D (mdW h y M, n, w, g) = some (.inl (some (.int (iI 0))), (mdW h y M', n, w, g))) (hR : Rel W M') (ht : M'.1.1 = iI k) : Alk T L x y g W M C D :=
  alk_n hL hC (fun h n w hy => ⟨n, w, M', hD h n w hy, hR, ht, by omega, by omega⟩) rfl
theorem se_1 {V : Dk} : (seW V).1 = V.1 := by
  unfold seW
  split
  · rfl
  · rfl
theorem dn_th {A : Nat → Int32} {u : Nat} : (dnM (alM (bgM M) A) u).1.1 = iI 0 := by
  unfold dnM
  split
  · rfl
  · rfl
theorem alk_c {v : Value} {S : Sg} {A : Nat → Int32} (hv : tyV T v) (hR : Rel W M) (gS : sgG S) (hA : Rs S A) (hC : ∀ h n w, C (dkW h x W, n, w, g) = some (.inl (some v), (dkW h x (seW (S, W.2)), n, w, g)))
    (hD : ∀ h n w, y + 531 ≤ n → ∃ n' w', D (mdW h y M, n, w, g) = some (.inl (some v), (mdW h y (dnM (alM (bgM M) A) W.2.1.2.1), n', w', g)) ∧ n ≤ n' ∧ 40 * n' + 13 * pot W.1 ≤ 40 * n + 46160 + 13 * pot S ∧ w' ≤ w + 12000) : Alk T L x y g W M C D := fun h n w hx hy hg => by
  refine Or.inl ⟨seW (S, W.2), v, hv, hC _ n w, fun h2 => ?_⟩
  obtain ⟨n', w', z1, z2, z3, z4⟩ := hD (dkW h2 x (seW (S, W.2))) n w hy
  refine ⟨_, n', w', z1, Rel_done hR gS hA, dn_th, z2, ?_, z4⟩
  rw [se_1]
  exact z3
theorem Rel_bg (h : Rel W M) {k : Int} : Rel W (rfM k (bgM M)) := h
theorem Rel_rf (h : Rel W M) {k : Int} : Rel W (rfM k M) := h
theorem Rel_u (h : Rel W M) : M.1.2.1 = iI W.2.1.2.1 ∧ W.2.1.2.1 ≤ 20 ∧ (∀ i, i < 21 → M.2.2.2.1.1 i < 21) ∧ M.1.2.2.1 = iI W.2.1.2.2.1 ∧ W.2.1.2.2.1 ≤ 20 ∧ (∀ i, i < 21 → M.2.2.2.2.1.1 i < 21) := ⟨h.2.2.1.2.2.1, h.2.2.1.1.2.1, h.2.2.1.2.2.2.2.2.1.1, h.2.2.1.2.2.2.1, h.2.2.1.1.2.2.1, h.2.2.1.2.2.2.2.2.2.1.1⟩
theorem Rel_nB (h : Rel W M) : M.2.1 = nB W.1.1.1 W.1.1.2 M.2.1 := Rs_nB h.2.1
theorem c_write {t k l p f : Int} (hR : Rel W M) (b1 : -2147483648 ≤ t ∧ t < 2147483648) (b2 : -2147483648 ≤ k ∧ k < 2147483648) (b3 : -2147483648 ≤ l ∧ l < 2147483648) (b4 : -2147483648 ≤ p ∧ p < 2147483648) (b5 : -2147483648 ≤ f ∧ f < 2147483648) :
    Alk 0 [(eIA, 1), (eIS, 2)] x y g W M (fun H => aE (d + 12) 38 [.ref x, .int (iI t), .int (iI k), .int (iI l), .int (iI p), .int (iI f)] H) (fun H => aE (e + 9) 206 [.ref y, .int (iI t), .int (iI k), .int (iI l), .int (iI p), .int (iI f)] H) := by
  have hO := Rel_ok hR
  obtain ⟨u1, u2, u3, -⟩ := Rel_u hR
  have hA := Rel_nB hR
  by_cases hv : (0 ≤ t ∧ t ≤ 5) ∧ (0 ≤ k ∧ k ≤ 9599) ∧ (1 ≤ l ∧ l ≤ 960) ∧ (0 ≤ p ∧ p ≤ 127) ∧ (1 ≤ f ∧ f ≤ 127)
  · obtain ⟨t, rfl⟩ : ∃ z : Nat, t = z := ⟨t.toNat, by omega⟩
    obtain ⟨k, rfl⟩ : ∃ z : Nat, k = z := ⟨k.toNat, by omega⟩
    obtain ⟨l, rfl⟩ : ∃ z : Nat, l = z := ⟨l.toNat, by omega⟩
    obtain ⟨p, rfl⟩ : ∃ z : Nat, p = z := ⟨p.toNat, by omega⟩
    obtain ⟨f, rfl⟩ : ∃ z : Nat, f = z := ⟨f.toNat, by omega⟩
    by_cases hn : W.1.1.1 < 60
    · have hc : cOk (cO t k p l f) := cO_ok (by omega) (by omega) (by omega) (by omega) (by omega)
      have hp := sk_le W.1.1.2 (cO t k p l f) W.1.1.1
      have vc : ntV (cO t k p l f) := by
        unfold ntV
        rw [cT_O (by omega) (by omega) (by omega) (by omega), cS_O (by omega) (by omega) (by omega) (by omega), cL_O (by omega) (by omega), cF_O (by omega)]
        omega
      have gS : sgG ((W.1.1.1 + 1, insN W.1.1.2 (sk W.1.1.2 (cO t k p l f) W.1.1.1) W.1.1.1 (cO t k p l f)), W.1.2) := sg_notes hR.1 (by omega) (insN_ok hc hR.1.1.2.1) (ins_al hR.1.2.1 vc hp (Nat.le_refl _)) (ins_sor hR.1.2.2.1)
      refine alk_c ⟨_, rfl⟩ hR gS (Rs_notes (X := M.2.1) hR.2.1 hR.1.1.1 (by omega) (Rs_X hR.2.1 (by omega))) (fun h n w => s_write hO (by omega) (by omega) (by omega) (by omega) (by omega) hn gS.1) (fun h n w hy => ?_)
      obtain ⟨s, s1, s2⟩ := r_write (d := e) (n := n) (w := w) (g := g) (h := h) (t := t) (k := k) (l := l) (p := p) (f := f) hy hA hn hR.1.1.2.1 (by omega) (by omega) (by omega) (by omega) (by omega) u1 u2 u3
      have hq := sq_ins (F := W.1.1.2) (c := cO t k p l f) hp
      have hb := sq_b W.1.1.2 W.1.1.1
      refine ⟨_, _, s2, by omega, ?_, by omega⟩
      unfold pot
      dsimp only
      omega
    · have e60 : W.1.1.1 = 60 := by have := hR.1.1.1; omega
      rw [e60] at hA
      exact alk_e (k := 2) (by simp) (fun h n w => s_write_2 hO (by omega) (by omega) (by omega) (by omega) (by omega) hn) (fun h n w hy => r_write_2 hy hA (by omega) (by omega) (by omega) (by omega) (by omega)) (Rel_bg hR) rfl
  · exact alk_e (k := 1) (by simp) (fun h n w => s_write_1 b1 b2 b3 b4 b5 hv) (fun h n w hy => r_write_1 hy b1 b2 b3 b4 b5 hv) (Rel_bg hR) rfl
end
