/-! ===== the class's desk and the reference ===== -/
theorem rot_in {u : Nat} {U : Nat → Nat} (h : ∀ i j, i < 21 → j < 21 → U i = U j → i = j) : ∀ i j, i < 21 → j < 21 → rot u U i = rot u U j → i = j := by
  intro i j hi hj e
  unfold rot at e
  by_cases c : u = 20
  · rw [if_pos c] at e
    by_cases i1 : i < 19
    · rw [if_pos i1] at e
      by_cases j1 : j < 19
      · rw [if_pos j1] at e
        have := h _ _ (by omega) (by omega) e
        omega
      · rw [if_neg j1] at e
        by_cases j2 : j = 19
        · rw [if_pos j2] at e
          have := h _ _ (by omega) (by omega) e
          omega
        · rw [if_neg j2] at e
          have := h _ _ (by omega) (by omega) e
          omega
    · rw [if_neg i1] at e
      by_cases i2 : i = 19
      · rw [if_pos i2] at e
        by_cases j1 : j < 19
        · rw [if_pos j1] at e
          have := h _ _ (by omega) (by omega) e
          omega
        · rw [if_neg j1] at e
          by_cases j2 : j = 19
          · omega
          · rw [if_neg j2] at e
            have := h _ _ (by omega) (by omega) e
            omega
      · rw [if_neg i2] at e
        by_cases j1 : j < 19
        · rw [if_pos j1] at e
          have := h _ _ (by omega) (by omega) e
          omega
        · rw [if_neg j1] at e
          by_cases j2 : j = 19
          · rw [if_pos j2] at e
            have := h _ _ (by omega) (by omega) e
            omega
          · rw [if_neg j2] at e
            exact h _ _ hi hj e
  · rw [if_neg c] at e
    exact h _ _ hi hj e
/-- the history: of songs, of rows -/
def hsR (V : Hs) (u a : Int32) (U R : (Nat → Nat) × (Nat → Nat → Int32)) : Prop := hsOk V ∧ (∀ i, i < 21 → sgG (V.2.2.2 i)) ∧ u = iI V.2.1 ∧ a = iI V.2.2.1 ∧ V.2.1 + V.2.2.1 ≤ 20 ∧
  ((∀ i, i < 21 → U.1 i < 21) ∧ ∀ i j, i < 21 → j < 21 → U.1 i = U.1 j → i = j) ∧ ((∀ i, i < 21 → R.1 i < 21) ∧ ∀ i j, i < 21 → j < 21 → R.1 i = R.1 j → i = j) ∧
  (∀ j, j < V.2.1 → Rs (V.2.2.2 ((V.1 + 21 - (V.2.1 - j)) % 21)) (U.2 (U.1 j))) ∧ ∀ j, j < V.2.2.1 → Rs (V.2.2.2 ((V.1 + (V.2.2.1 - j)) % 21)) (R.2 (R.1 j))
theorem cpy_385 {S : Sg} {A B : Nat → Int32} (h : Rs S A) (ho : sgOk S) : Rs S (va_cpy A B 0 0 385) := Rs_c h ho (fun k hk => by
  rw [cpy_i (i := k) (by omega) (by omega), Nat.zero_add])
theorem hs_keep {V : Hs} {u a : Int32} {U R : (Nat → Nat) × (Nat → Nat → Int32)} {S : Sg} {B : Nat → Int32} (h : hsR V u a U R) (gS : sgG S) (hB : Rs (V.2.2.2 V.1) B) :
    hsR ((V.1 + 1) % 21, min (V.2.1 + 1) 20, 0, upS V.2.2.2 ((V.1 + 1) % 21) (tkS (V.2.2.2 ((V.1 + 1) % 21)) S)) (iI (min V.2.1 19 + 1 : Nat)) (iI 0) (rot V.2.1 U.1, fun i => if i = rot V.2.1 U.1 (min V.2.1 19) then va_cpy B (U.2 (rot V.2.1 U.1 (min V.2.1 19))) 0 0 385 else U.2 i) R := by
  obtain ⟨⟨h1, h2, h3, h4⟩, g1, e1, e2, hb, ⟨u1, u2⟩, r1, k1, k2⟩ := h
  have gT := tkS_G (S := V.2.2.2 ((V.1 + 1) % 21)) (h4 _) gS
  refine ⟨⟨by show (V.1 + 1) % 21 < 21; omega, by show min (V.2.1 + 1) 20 ≤ 20; omega, by show 0 ≤ 20; omega, fun i => ?_⟩, fun i hi => ?_, ?_, rfl, by show min (V.2.1 + 1) 20 + 0 ≤ 20; omega, ⟨rot_lt u1, rot_in u2⟩, r1, fun j hj => ?_, fun j hj => absurd hj (Nat.not_lt_zero j)⟩
  · show sgOk (upS _ _ _ i)
    unfold upS
    split
    · exact gT.1
    · exact h4 i
  · show sgG (upS _ _ _ i)
    unfold upS
    split
    · exact gT
    · exact g1 i hi
  · show iI ((min V.2.1 19 + 1 : Nat) : Int) = iI ((min (V.2.1 + 1) 20 : Nat) : Int)
    rw [show min V.2.1 19 + 1 = min (V.2.1 + 1) 20 by omega]
  · have hj' : j < min (V.2.1 + 1) 20 := hj
    show Rs (upS V.2.2.2 ((V.1 + 1) % 21) _ (((V.1 + 1) % 21 + 21 - (min (V.2.1 + 1) 20 - j)) % 21)) (if rot V.2.1 U.1 j = rot V.2.1 U.1 (min V.2.1 19) then _ else U.2 (rot V.2.1 U.1 j))
    unfold upS
    rw [if_neg (by omega)]
    by_cases e : j = min V.2.1 19
    · rw [if_pos (by rw [e]), show ((V.1 + 1) % 21 + 21 - (min (V.2.1 + 1) 20 - j)) % 21 = V.1 by omega]
      exact cpy_385 hB (h4 _)
    · rw [if_neg (fun z => e (rot_in u2 _ _ (by omega) (by omega) z))]
      by_cases c : V.2.1 = 20
      · have z := k1 (j + 1) (by omega)
        rw [show (V.1 + 21 - (V.2.1 - (j + 1))) % 21 = ((V.1 + 1) % 21 + 21 - (min (V.2.1 + 1) 20 - j)) % 21 by omega] at z
        unfold rot
        rw [if_pos c]
        rw [if_pos (by omega)]
        exact z
      · have z := k1 j (by omega)
        rw [show (V.1 + 21 - (V.2.1 - j)) % 21 = ((V.1 + 1) % 21 + 21 - (min (V.2.1 + 1) 20 - j)) % 21 by omega] at z
        unfold rot
        rw [if_neg c]
        exact z
theorem hs_back {V : Hs} {u a : Int32} {U R : (Nat → Nat) × (Nat → Nat → Int32)} {A : Nat → Int32} (h : hsR V u a U R) (hb : 0 < V.2.1) (hA : Rs (V.2.2.2 V.1) A) :
    hsR ((V.1 + 20) % 21, V.2.1 - 1, V.2.2.1 + 1, V.2.2.2) (iI (V.2.1 - 1 : Nat)) (iI (min V.2.2.1 19 + 1 : Nat)) U (rot V.2.2.1 R.1, fun i => if i = rot V.2.2.1 R.1 (min V.2.2.1 19) then va_cpy A (R.2 (rot V.2.2.1 R.1 (min V.2.2.1 19))) 0 0 385 else R.2 i) := by
  obtain ⟨⟨h1, h2, h3, h4⟩, g1, e1, e2, hs, u1, ⟨r1, r2⟩, k1, k2⟩ := h
  have er : rot V.2.2.1 R.1 = R.1 := if_neg (by omega)
  have em : min V.2.2.1 19 = V.2.2.1 := by omega
  rw [er, em]
  refine ⟨⟨by show (V.1 + 20) % 21 < 21; omega, by show V.2.1 - 1 ≤ 20; omega, by show V.2.2.1 + 1 ≤ 20; omega, h4⟩, g1, rfl, rfl, by show V.2.1 - 1 + (V.2.2.1 + 1) ≤ 20; omega, u1, ⟨r1, r2⟩, fun j hj => ?_, fun j hj => ?_⟩
  · have hj' : j < V.2.1 - 1 := hj
    have z := k1 j (by omega)
    show Rs (V.2.2.2 (((V.1 + 20) % 21 + 21 - (V.2.1 - 1 - j)) % 21)) _
    rw [show (V.1 + 21 - (V.2.1 - j)) % 21 = ((V.1 + 20) % 21 + 21 - (V.2.1 - 1 - j)) % 21 by omega] at z
    exact z
  · have hj' : j < V.2.2.1 + 1 := hj
    show Rs (V.2.2.2 (((V.1 + 20) % 21 + (V.2.2.1 + 1 - j)) % 21)) (if R.1 j = R.1 V.2.2.1 then _ else R.2 (R.1 j))
    by_cases e : j = V.2.2.1
    · rw [if_pos (by rw [e]), show ((V.1 + 20) % 21 + (V.2.2.1 + 1 - j)) % 21 = V.1 by omega]
      exact cpy_385 hA (h4 _)
    · rw [if_neg (fun z => e (r2 _ _ (by omega) (by omega) z))]
      have z := k2 j (by omega)
      rw [show (V.1 + (V.2.2.1 - j)) % 21 = ((V.1 + 20) % 21 + (V.2.2.1 + 1 - j)) % 21 by omega] at z
      exact z
theorem hs_fwd {V : Hs} {u a : Int32} {U R : (Nat → Nat) × (Nat → Nat → Int32)} {A : Nat → Int32} (h : hsR V u a U R) (hb : 0 < V.2.2.1) (hA : Rs (V.2.2.2 V.1) A) :
    hsR ((V.1 + 1) % 21, V.2.1 + 1, V.2.2.1 - 1, V.2.2.2) (iI (min V.2.1 19 + 1 : Nat)) (iI (V.2.2.1 - 1 : Nat)) (rot V.2.1 U.1, fun i => if i = rot V.2.1 U.1 (min V.2.1 19) then va_cpy A (U.2 (rot V.2.1 U.1 (min V.2.1 19))) 0 0 385 else U.2 i) R := by
  obtain ⟨⟨h1, h2, h3, h4⟩, g1, e1, e2, hs, ⟨u1, u2⟩, r1, k1, k2⟩ := h
  have er : rot V.2.1 U.1 = U.1 := if_neg (by omega)
  have em : min V.2.1 19 = V.2.1 := by omega
  rw [er, em]
  refine ⟨⟨by show (V.1 + 1) % 21 < 21; omega, by show V.2.1 + 1 ≤ 20; omega, by show V.2.2.1 - 1 ≤ 20; omega, h4⟩, g1, rfl, rfl, by show V.2.1 + 1 + (V.2.2.1 - 1) ≤ 20; omega, ⟨u1, u2⟩, r1, fun j hj => ?_, fun j hj => ?_⟩
  · have hj' : j < V.2.1 + 1 := hj
    show Rs (V.2.2.2 (((V.1 + 1) % 21 + 21 - (V.2.1 + 1 - j)) % 21)) (if U.1 j = U.1 V.2.1 then _ else U.2 (U.1 j))
    by_cases e : j = V.2.1
    · rw [if_pos (by rw [e]), show ((V.1 + 1) % 21 + 21 - (V.2.1 + 1 - j)) % 21 = V.1 by omega]
      exact cpy_385 hA (h4 _)
    · rw [if_neg (fun z => e (u2 _ _ (by omega) (by omega) z))]
      have z := k1 j (by omega)
      rw [show (V.1 + 21 - (V.2.1 - j)) % 21 = ((V.1 + 1) % 21 + 21 - (V.2.1 + 1 - j)) % 21 by omega] at z
      exact z
  · have hj' : j < V.2.2.1 - 1 := hj
    have z := k2 j (by omega)
    show Rs (V.2.2.2 (((V.1 + 1) % 21 + (V.2.2.1 - 1 - j)) % 21)) _
    rw [show (V.1 + (V.2.2.1 - j)) % 21 = ((V.1 + 1) % 21 + (V.2.2.1 - 1 - j)) % 21 by omega] at z
    exact z
/-- the clipboard -/
def cbR (e : NLv) (c : Int32) (C : Nat → Int32) : Prop := e.1 ≤ 60 ∧ (∀ i, cOk (e.2 i)) ∧ alN ntV e.2 e.1 ∧ sor e.2 0 e.1 ∧ c = iI e.1 ∧ clpOk C (e.1, e.2)
def rwR (r : Nat → Int64) : Prop := ∃ A : Nat → Nat, r = (fun i => lI (A i)) ∧ ∀ i, bd (A i)
/-- alike -/
def Rel (W : Dk) (M : Md) : Prop := sgG W.1 ∧ Rs W.1 M.2.1 ∧ hsR W.2.1 M.1.2.1 M.1.2.2.1 M.2.2.2.1 M.2.2.2.2.1 ∧ (M.1.2.2.2.1 = W.2.2.2.2 ∧ Rs (W.2.1.2.2.2 W.2.1.1) (if W.2.2.2.2 = true then M.2.2.2.2.2.1 else M.2.1)) ∧ cbR W.2.2.1 M.1.2.2.2.2.1 M.2.2.2.2.2.2.1 ∧ (W.2.2.2.1.1 ≤ 960 ∧ rn2 W) ∧ rwR M.2.2.2.2.2.2.2.2
section
variable {W : Dk} {M : Md}
theorem Rel_ok (h : Rel W M) : dkOk W := ⟨h.1.1, h.2.2.1.1, h.2.2.2.2.1.1, h.2.2.2.2.1.2.1, h.2.2.2.2.2.1.1⟩
theorem Rel_kn (h : Rel W M) : sgG (W.2.1.2.2.2 W.2.1.1) := h.2.2.1.2.1 _ h.2.2.1.1.1
theorem Rel_done {S : Sg} {A : Nat → Int32} (h : Rel W M) (gS : sgG S) (hA : Rs S A) : Rel (seW (S, W.2)) (dnM (alM (bgM M) A) W.2.1.2.1) := by
  have gK := Rel_kn h
  obtain ⟨a1, a2, a3, ⟨a4, a5⟩, a6, a7, a8⟩ := h
  unfold seW dnM
  show Rel (if W.2.2.2.2 = true ∨ lkS (W.2.1.2.2.2 W.2.1.1) S then (S, W.2) else kpW (S, W.2)) (if M.1.2.2.2.1 = true ∨ eqA (va_cpy M.2.1 M.2.2.1 0 0 385) A then alM (bgM M) A else chM (alM (bgM M) A) W.2.1.2.1 (va_cpy M.2.1 M.2.2.1 0 0 385))
  by_cases q : W.2.2.2.2 = true
  · rw [if_pos (Or.inl q), if_pos (Or.inl (show M.1.2.2.2.1 = true from a4.trans q))]
    rw [if_pos q] at a5
    refine ⟨gS, hA, a3, ⟨a4, ?_⟩, a6, a7, a8⟩
    show Rs _ (if W.2.2.2.2 = true then M.2.2.2.2.2.1 else A)
    rw [if_pos q]
    exact a5
  · rw [if_neg q] at a5
    have hB : Rs (W.2.1.2.2.2 W.2.1.1) (va_cpy M.2.1 M.2.2.1 0 0 385) := cpy_385 a5 gK.1
    have lk := Rs_lk hB hA gK gS
    by_cases q2 : lkS (W.2.1.2.2.2 W.2.1.1) S
    · have q3 := lk.mpr q2
      rw [if_pos (Or.inr q2), if_pos (Or.inr q3)]
      refine ⟨gS, hA, a3, ⟨a4, ?_⟩, a6, a7, a8⟩
      show Rs _ (if W.2.2.2.2 = true then M.2.2.2.2.2.1 else A)
      rw [if_neg q]
      exact Rs_c hB gK.1 (fun k hk => (eqA_iff.mp q3 k hk).symm)
    · rw [if_neg (fun z => z.elim q q2), if_neg (fun z => z.elim (fun x => q (a4.symm.trans x)) (fun x => q2 (lk.mp x)))]
      refine ⟨gS, hA, hs_keep a3 gS hB, ⟨a4, ?_⟩, a6, a7, a8⟩
      show Rs (upS _ _ _ ((W.2.1.1 + 1) % 21)) (if W.2.2.2.2 = true then M.2.2.2.2.2.1 else A)
      unfold upS
      rw [if_neg q, if_pos rfl]
      exact Rs_tk gS hA
end
