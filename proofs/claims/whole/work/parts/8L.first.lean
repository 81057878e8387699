/-! ===== alike from the start ===== -/
theorem u0 {c b i : Nat} (h : c ≤ b) : upN (fun _ => 0) 0 c i ≤ b := by
  unfold upN
  split
  · exact h
  · exact Nat.zero_le _
theorem S0_ok : sgOk S0 := by
  refine ⟨by decide, fun i => ?_, fun t => ?_, fun t => ?_, fun t => ?_, ⟨by decide, by decide, rfl, fun i hi => ?_, fun i => ?_, fun i => ?_, fun i => ?_⟩, ⟨by decide, by decide, rfl, fun i hi => ?_, fun i => ?_, fun i => ?_, fun i => ?_⟩, fun i => ?_, by decide, by decide, by decide⟩
  · show (0 : Nat) < 2199023255552
    omega
  · show (0 : Nat) < 4
    omega
  · show -24 ≤ (0 : Int) ∧ (0 : Int) ≤ 24
    omega
  · show -48 ≤ (0 : Int) ∧ (0 : Int) ≤ 48
    omega
  · have hi' : i + 1 < 1 := hi
    omega
  · exact u0 (by omega)
  · exact u0 (by omega)
  · exact u0 (by omega)
  · have hi' : i + 1 < 1 := hi
    omega
  · exact u0 (by omega)
  · exact u0 (by omega)
  · exact u0 (by omega)
  · exact u0 (by omega)
theorem S0_G : sgG S0 := by
  refine ⟨S0_ok, fun i hi => absurd hi (Nat.not_lt_zero i), sor_s (by show 0 ≤ 1; omega), fun i hi => ?_, ⟨fun i hi => ?_, fun i hi => ?_⟩, ?_⟩
  · have hi' : i < 1 := hi
    obtain rfl : i = 0 := by omega
    exact ⟨by decide, rfl⟩
  · have hi' : i < 1 := hi
    obtain rfl : i = 0 := by omega
    exact ⟨by decide, by decide, by decide, by decide⟩
  · have hi' : i < 1 := hi
    obtain rfl : i = 0 := by omega
    decide
  · show if (0 : Nat) = 0 then (0 : Nat) = 0 ∧ (0 : Nat) = 0 else _
    rw [if_pos rfl]
    exact ⟨rfl, rfl⟩
theorem S0_R : Rs S0 M0.2.1 := by
  have z : ∀ k, k ≠ 325 → k ≠ 327 → k ≠ 348 → k ≠ 350 → k ≠ 351 → M0.2.1 k = iI 0 := fun k h1 h2 h3 h4 h5 => by
    show upd (upd (upd (upd (upd zI 325 (iI 1)) 327 (iI 1200)) 348 (iI 1)) 350 (iI 4)) 351 (iI 4) k = iI 0
    rw [up_o h5, up_o h4, up_o h3, up_o h2, up_o h1]
    rfl
  refine ⟨⟨z 0 (by omega) (by omega) (by omega) (by omega) (by omega), fun i j hi => absurd hi (Nat.not_lt_zero i), fun k h1 h2 => z k (by omega) (by omega) (by omega) (by omega) (by omega)⟩, fun t ht => ⟨(z (301 + 4 * t) (by omega) (by omega) (by omega) (by omega) (by omega)).trans (by show iI 0 = iI ((0 % 2 : Nat) : Int); rfl), (z (302 + 4 * t) (by omega) (by omega) (by omega) (by omega) (by omega)).trans (by show iI 0 = iI ((0 / 2 : Nat) : Int); rfl), z (303 + 4 * t) (by omega) (by omega) (by omega) (by omega) (by omega), z (304 + 4 * t) (by omega) (by omega) (by omega) (by omega) (by omega)⟩, ⟨⟨rfl, fun i hi => ?_, fun i hi => ?_⟩, fun k h1 h2 => ?_⟩, ⟨⟨rfl, fun i hi => ?_, fun i hi => ?_, fun i hi => ?_⟩, fun k h1 h2 => ?_⟩, z 382 (by omega) (by omega) (by omega) (by omega) (by omega), z 383 (by omega) (by omega) (by omega) (by omega) (by omega), z 384 (by omega) (by omega) (by omega) (by omega) (by omega)⟩
  · have hi' : i < 1 := hi
    obtain rfl : i = 0 := by omega
    rfl
  · have hi' : i < 1 := hi
    obtain rfl : i = 0 := by omega
    rfl
  · have h1' : 326 + 2 * 1 ≤ k := h1
    exact z k (by omega) (by omega) (by omega) (by omega) (by omega)
  · have hi' : i < 1 := hi
    obtain rfl : i = 0 := by omega
    rfl
  · have hi' : i < 1 := hi
    obtain rfl : i = 0 := by omega
    rfl
  · have hi' : i < 1 := hi
    obtain rfl : i = 0 := by omega
    rfl
  · have h1' : 349 + 3 * 1 ≤ k := h1
    exact z k (by omega) (by omega) (by omega) (by omega) (by omega)
theorem Rel_0 : Rel W0 M0 := by
  refine ⟨S0_G, S0_R, ⟨⟨by decide, by decide, by decide, fun i => S0_ok⟩, fun i hi => S0_G, rfl, rfl, by decide, ⟨fun i hi => hi, fun i j _ _ h => h⟩, ⟨fun i hi => hi, fun i j _ _ h => h⟩, fun j hj => absurd hj (Nat.not_lt_zero j), fun j hj => absurd hj (Nat.not_lt_zero j)⟩, ⟨rfl, S0_R⟩, ⟨by decide, fun i => ?_, fun i hi => absurd hi (Nat.not_lt_zero i), sor_s (by show 0 ≤ 1; omega), rfl, fun i j hi => absurd hi (Nat.not_lt_zero i)⟩, ⟨by decide, fun i => ?_, fun i => ?_⟩, ⟨fun _ => 0, rfl, fun i => ?_⟩⟩
  · show (0 : Nat) < 2199023255552
    omega
  · show (0 : Nat) < 1099511627776
    omega
  · show (0 : Nat) < 1099511627776
    omega
  · show (0 : Nat) < 4398046511104
    omega
theorem pot_0 : pot S0 = 0 := rfl
