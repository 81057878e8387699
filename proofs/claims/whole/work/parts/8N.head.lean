/-! ===== the law's loop: what holds at its head ===== -/
def lwI (h : aHf) (b K : Nat) (xs : Nat → Int32) (x y o : Nat) (g : Nat × Nat) : Prop :=
  h b = some (aI .float K xs) ∧ (∃ fo, h o = some (aL 1 fo)) ∧ gSt h g x y ∧ g.1 < x ∧ b < x ∧ x + 404 ≤ y ∧ y + 531 ≤ o
/-- from here the head's end comes, and all holds there -/
def lwE (b K : Nat) (xs : Nat → Int32) (x y o : Nat) (g : Nat × Nat) (i n w : Nat) (W : Dk) (R : aR) : Prop :=
  ∃ (h' : aHf) (W' : Dk) (M' : Md) (n' w' : Nat) (l5 l6 l7 l8 : Option Value), R = L 400 0 2319 [some (.ref b), some (.ref x), some (.ref y), some (.ref o), some (.int (iI i)), l5, l6, l7, l8] [] (dkW (mdW h' y M') x W', n', w', g) ∧ lwI h' b K xs x y o g ∧ Rel W' M' ∧ bndC n n' w w' W.1 W'.1
section
variable {b K x y o i n w : Nat} {xs : Nat → Int32} {g : Nat × Nat} {W : Dk} {M : Md} {h : aHf} {l5 l6 l7 l8 : Option Value}
theorem lwI_aup {f : Nat → Int64} (hI : lwI h b K xs x y o g) : lwI (aup h o (aL 1 f)) b K xs x y o g := by
  obtain ⟨h1, h2, ⟨⟨f1, h3, h4⟩, h5, h6⟩, h7, h8, h9, h10⟩ := hI
  exact ⟨(aup_n (by omega)).trans h1, ⟨f, aup_s⟩, ⟨⟨f1, (aup_n (by omega)).trans h3, h4⟩, h5, h6⟩, h7, h8, h9, h10⟩
theorem dm_comm (hx : x + 404 ≤ y) : dkW (mdW h y M) x W = mdW (dkW h x W) y M := rg_comm (by omega)
theorem lw_b (hI : lwI h b K xs x y o g) : dkW (mdW h y M) x W b = some (aI .float K xs) :=
  (rg_o (by have := hI.2.2.2.2; omega)).trans ((rg_o (by have := hI.2.2.2.2; omega)).trans hI.1)
theorem lw_b2 (hI : lwI h b K xs x y o g) : mdW (dkW h x W) y M b = some (aI .float K xs) :=
  (rg_o (by have := hI.2.2.2.2; omega)).trans ((rg_o (by have := hI.2.2.2.2; omega)).trans hI.1)
theorem lw_oo {fo : Nat → Int64} (hI : lwI h b K xs x y o g) (ho : h o = some (aL 1 fo)) : mdW (dkW h x W) y M o = some (aL 1 fo) :=
  (rg_o (by have := hI.2.2.2.2; omega)).trans ((rg_o (by have := hI.2.2.2.2; omega)).trans ho)
theorem c0_ : ((0 : Nat) : Int) = 0 := rfl
theorem gL_1 {fo : Nat → Int64} : gL (some (aL 1 fo)) (iI 0) = some (fo 0) := gL_L (by decide) (by decide) (by decide)
theorem iI_ex (v : Int32) : ∃ t : Int, v = iI t ∧ -2147483648 ≤ t ∧ t < 2147483648 := ⟨v.toInt, (iI_of v).symm, iI_r v⟩
theorem iI_nz {k : Nat} (h1 : 0 < k) (h2 : k < 4) : (iI k = iI 0) = False := by
  rw [iI_eq (by omega) (by omega) (by omega) (by omega)]
  exact eq_false (by omega)
theorem bkC {k : Nat} {E : String} {l : List (String × Nat)} (hk : (E, k) ∈ l) (hl : l.all (fun z => decide (0 < z.2 ∧ z.2 < 4)) = true) : 0 < k ∧ k < 4 := of_decide_eq_true (List.all_eq_true.mp hl _ hk)
/-- a wrapper's call and the reference's -/
theorem wr_ok {T : Nat} {L : List (String × Nat)} {C D Wr : aH → aR} {P : Int32 → Prop} (hA : Alk T L x y g W M C D) (hI : lwI h b K xs x y o g) (hn : o < n)
    (hT : ∀ v, tyV T v → ∃ z, v = .int z ∧ P z)
    (hL : L.all (fun z => decide (0 < z.2 ∧ z.2 < 4)) = true)
    (hw : ∀ (h' : aHf) (n' w' : Nat) (fo : Nat → Int64) (v : Int32), P v → C (dkW (mdW h y M) x W, n, w, g) = some (.inl (some (.int v)), (h', n', w', g)) → h' o = some (aL 1 fo) → Wr (dkW (mdW h y M) x W, n, w, g) = some (.inl (some (.int (iI 0))), (aup h' o (aL 1 (vp_updL fo 0 v.toInt64)), n', w', g)))
    (he : ∀ (E : String) (k : Nat), (E, k) ∈ L → ∀ (h' : aHf) (n' w' : Nat), C (dkW (mdW h y M) x W, n, w, g) = some (.inr E, (h', n', w', g)) → Wr (dkW (mdW h y M) x W, n, w, g) = some (.inl (some (.int (iI k))), (h', n', w', g))) :
    ∃ (h2 : aHf) (W' : Dk) (M' : Md) (n1 w1 n' w' k : Nat) (v : Int32) (fo : Nat → Int64),
      Wr (dkW (mdW h y M) x W, n, w, g) = some (.inl (some (.int (iI k))), (mdW (dkW h2 x W') y M, n1, w1, g)) ∧
      D (mdW (dkW h2 x W') y M, n1, w1, g) = some (.inl (some (.int v)), (mdW (dkW h2 x W') y M', n', w', g)) ∧
      lwI h2 b K xs x y o g ∧ h2 o = some (aL 1 fo) ∧ Rel W' M' ∧ M'.1.1 = iI k ∧ bndC n n' w w' W.1 W'.1 ∧ (k = 0 ∧ fo 0 = v.toInt64 ∧ P v ∨ 0 < k ∧ k < 4) := by
  have hI2 := hI
  obtain ⟨i1, ⟨fo, i2⟩, i3, i4, i5, i6, i7⟩ := hI2
  rcases hA h n w i6 (by omega) i3 with ⟨W', v, hv, hC, hD⟩ | ⟨W', E, k, hk, hC, hD⟩
  · obtain ⟨z, rfl, hz⟩ := hT v hv
    have ho : dkW (mdW h y M) x W' o = some (aL 1 fo) := (rg_o (by omega)).trans ((rg_o (by omega)).trans i2)
    obtain ⟨M', n', w', d1, d2, d3, d4⟩ := hD (aup h o (aL 1 (vp_updL fo 0 z.toInt64)))
    refine ⟨aup h o (aL 1 (vp_updL fo 0 z.toInt64)), W', M', n, w, n', w', 0, z, _, ?_, d1, lwI_aup hI, aup_s, d2, d3, d4, Or.inl ⟨rfl, rfl, hz⟩⟩
    have q := hw _ _ _ _ _ hz hC ho
    rw [rg_aupo (by omega), rg_aupo (by omega)] at q
    exact q.trans (congrArg (fun z => some (Sum.inl (some (Value.int (iI 0))), z, n, w, g)) (dm_comm i6))
  · obtain ⟨M', n', w', d1, d2, d3, d4⟩ := hD h
    refine ⟨h, W', M', n + 1, w + 6, n', w', k, iI 0, fo, ?_, d1, hI, i2, d2, d3, d4, Or.inr (bkC hk hL)⟩
    have q := he _ _ hk _ _ _ hC
    rw [dm_comm (W := W') i6] at q
    exact q
/-- a call that throws nothing, straight from the law -/
theorem dr_ok {T : Nat} {C D : aH → aR} (hA : Alk T [] x y g W M C D) (hI : lwI h b K xs x y o g) (hn : o < n) :
    ∃ (W' : Dk) (M' : Md) (n' w' : Nat) (v : Value), tyV T v ∧ C (dkW (mdW h y M) x W, n, w, g) = some (.inl (some v), (mdW (dkW h x W') y M, n, w, g)) ∧
      D (mdW (dkW h x W') y M, n, w, g) = some (.inl (some v), (mdW (dkW h x W') y M', n', w', g)) ∧ Rel W' M' ∧ bndC n n' w w' W.1 W'.1 := by
  have hI2 := hI
  obtain ⟨i1, -, i3, i4, i5, i6, i7⟩ := hI2
  rcases hA h n w i6 (by omega) i3 with ⟨W', v, hv, hC, hD⟩ | ⟨W', E, k, hk, -⟩
  · obtain ⟨M', n', w', d1, d2, -, d4⟩ := hD h
    refine ⟨W', M', n', w', v, hv, ?_, d1, d2, d4⟩
    rw [hC, dm_comm i6]
  · exact absurd hk (List.not_mem_nil)
theorem tyT0 (v : Value) (h : tyV 0 v) : ∃ z, v = .int z ∧ True := by
  obtain ⟨z, hz⟩ := h
  exact ⟨z, hz, trivial⟩
theorem tyT1 (v : Value) (h : tyV 1 v) : ∃ z, v = .int z ∧ (z = iI 0 ∨ z = iI 1) := by
  rcases h with h | h
  · exact ⟨_, h, Or.inl rfl⟩
  · exact ⟨_, h, Or.inr rfl⟩
end
