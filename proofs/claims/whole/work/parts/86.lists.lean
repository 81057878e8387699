/-! ===== tracks, speeds, meters, the loop: in the song and in the row ===== -/
section
variable {S : Sg} {A B : Nat → Int32}
theorem Rs_fr_t {T : TSv} (h : Rs S A) (h60 : S.1.1 ≤ 60) (he : ∀ k, k < 301 ∨ 325 ≤ k → B k = A k) (ht : trA B T.1 T.2.1 T.2.2) (p11 : S.2.2.1.1 ≤ 11) (q11 : S.2.2.2.1.1 ≤ 11) : Rs (S.1, T, S.2.2) B := by
  obtain ⟨⟨a1, a2, a3⟩, a4, ⟨⟨a5, a6, a7⟩, a8⟩, ⟨⟨a9, a10, a11, a12⟩, a13⟩, a14, a15, a16⟩ := h
  refine ⟨⟨by rw [he _ (by omega)]; exact a1, fun i j hi hj => by have hi' : i < S.1.1 := hi; rw [he _ (by omega)]; exact a2 i j hi hj, fun k h1 h2 => by rw [he _ (by omega)]; exact a3 k h1 h2⟩, ht, ⟨⟨by rw [he _ (by omega)]; exact a5, fun i hi => by rw [he _ (by omega)]; exact a6 i hi, fun i hi => by rw [he _ (by omega)]; exact a7 i hi⟩, fun k h1 h2 => by have h1' : 326 + 2 * S.2.2.1.1 ≤ k := h1; rw [he _ (by omega)]; exact a8 k h1 h2⟩, ⟨⟨by rw [he _ (by omega)]; exact a9, fun i hi => by rw [he _ (by omega)]; exact a10 i hi, fun i hi => by rw [he _ (by omega)]; exact a11 i hi, fun i hi => by rw [he _ (by omega)]; exact a12 i hi⟩, fun k h1 h2 => by have h1' : 349 + 3 * S.2.2.2.1.1 ≤ k := h1; rw [he _ (by omega)]; exact a13 k h1 h2⟩, by rw [he _ (by omega)]; exact a14, by rw [he _ (by omega)]; exact a15, by rw [he _ (by omega)]; exact a16⟩
theorem Rs_fr_p {V : MKv} (h : Rs S A) (h60 : S.1.1 ≤ 60) (he : ∀ k, k < 325 ∨ 348 ≤ k → B k = A k) (hs : spA B V.1 V.2.1 V.2.2.1) (hz : ∀ k, 326 + 2 * V.1 ≤ k → k < 348 → B k = iI 0) (q11 : S.2.2.2.1.1 ≤ 11) : Rs (S.1, S.2.1, V, S.2.2.2) B := by
  obtain ⟨⟨a1, a2, a3⟩, a4, -, ⟨⟨a9, a10, a11, a12⟩, a13⟩, a14, a15, a16⟩ := h
  refine ⟨⟨by rw [he _ (by omega)]; exact a1, fun i j hi hj => by have hi' : i < S.1.1 := hi; rw [he _ (by omega)]; exact a2 i j hi hj, fun k h1 h2 => by rw [he _ (by omega)]; exact a3 k h1 h2⟩, fun t ht => by rw [he _ (by omega), he _ (by omega), he _ (by omega), he _ (by omega)]; exact a4 t ht, ⟨hs, hz⟩, ⟨⟨by rw [he _ (by omega)]; exact a9, fun i hi => by rw [he _ (by omega)]; exact a10 i hi, fun i hi => by rw [he _ (by omega)]; exact a11 i hi, fun i hi => by rw [he _ (by omega)]; exact a12 i hi⟩, fun k h1 h2 => by have h1' : 349 + 3 * S.2.2.2.1.1 ≤ k := h1; rw [he _ (by omega)]; exact a13 k h1 h2⟩, by rw [he _ (by omega)]; exact a14, by rw [he _ (by omega)]; exact a15, by rw [he _ (by omega)]; exact a16⟩
theorem Rs_fr_m {V : MKv} (h : Rs S A) (h60 : S.1.1 ≤ 60) (he : ∀ k, k < 348 ∨ 382 ≤ k → B k = A k) (hs : mtA B V.1 V.2.1 V.2.2.1 V.2.2.2) (hz : ∀ k, 349 + 3 * V.1 ≤ k → k < 382 → B k = iI 0) (p11 : S.2.2.1.1 ≤ 11) : Rs (S.1, S.2.1, S.2.2.1, V, S.2.2.2.2) B := by
  obtain ⟨⟨a1, a2, a3⟩, a4, ⟨⟨a5, a6, a7⟩, a8⟩, -, a14, a15, a16⟩ := h
  refine ⟨⟨by rw [he _ (by omega)]; exact a1, fun i j hi hj => by have hi' : i < S.1.1 := hi; rw [he _ (by omega)]; exact a2 i j hi hj, fun k h1 h2 => by rw [he _ (by omega)]; exact a3 k h1 h2⟩, fun t ht => by rw [he _ (by omega), he _ (by omega), he _ (by omega), he _ (by omega)]; exact a4 t ht, ⟨⟨by rw [he _ (by omega)]; exact a5, fun i hi => by have hi' : i < S.2.2.1.1 := hi; rw [he _ (by omega)]; exact a6 i hi, fun i hi => by have hi' : i < S.2.2.1.1 := hi; rw [he _ (by omega)]; exact a7 i hi⟩, fun k h1 h2 => by rw [he _ (by omega)]; exact a8 k h1 h2⟩, ⟨hs, hz⟩, by rw [he _ (by omega)]; exact a14, by rw [he _ (by omega)]; exact a15, by rw [he _ (by omega)]; exact a16⟩
theorem Rs_fr_l {l : LPv} (h : Rs S A) (h60 : S.1.1 ≤ 60) (he : ∀ k, k < 382 → B k = A k) (h1 : B 382 = iI l.1) (h2 : B 383 = iI l.2.1) (h3 : B 384 = iI l.2.2) (p11 : S.2.2.1.1 ≤ 11) (q11 : S.2.2.2.1.1 ≤ 11) : Rs (S.1, S.2.1, S.2.2.1, S.2.2.2.1, l) B := by
  obtain ⟨⟨a1, a2, a3⟩, a4, ⟨⟨a5, a6, a7⟩, a8⟩, ⟨⟨a9, a10, a11, a12⟩, a13⟩, -⟩ := h
  refine ⟨⟨by rw [he _ (by omega)]; exact a1, fun i j hi hj => by have hi' : i < S.1.1 := hi; rw [he _ (by omega)]; exact a2 i j hi hj, fun k h1 h2 => by rw [he _ (by omega)]; exact a3 k h1 h2⟩, fun t ht => by rw [he _ (by omega), he _ (by omega), he _ (by omega), he _ (by omega)]; exact a4 t ht, ⟨⟨by rw [he _ (by omega)]; exact a5, fun i hi => by have hi' : i < S.2.2.1.1 := hi; rw [he _ (by omega)]; exact a6 i hi, fun i hi => by have hi' : i < S.2.2.1.1 := hi; rw [he _ (by omega)]; exact a7 i hi⟩, fun k h1 h2 => by rw [he _ (by omega)]; exact a8 k h1 h2⟩, ⟨⟨by rw [he _ (by omega)]; exact a9, fun i hi => by have hi' : i < S.2.2.2.1.1 := hi; rw [he _ (by omega)]; exact a10 i hi, fun i hi => by have hi' : i < S.2.2.2.1.1 := hi; rw [he _ (by omega)]; exact a11 i hi, fun i hi => by have hi' : i < S.2.2.2.1.1 := hi; rw [he _ (by omega)]; exact a12 i hi⟩, fun k h1 h2 => by rw [he _ (by omega)]; exact a13 k h1 h2⟩, h1, h2, h3⟩
theorem cpy_o {F G : Nat → Int32} {a b m k : Nat} (h : k < b ∨ b + m ≤ k) : va_cpy F G a b m k = G k := if_neg (by omega)
theorem cpy_i {F G : Nat → Int32} {a b m i k : Nat} (h : i < m) (e : k = b + i) : va_cpy F G a b m k = F (a + i) := by
  unfold va_cpy
  rw [if_pos (by omega), show k - b = i by omega]
theorem Rs_tr {t : Nat} {p q : Prop} [Decidable p] [Decidable q] {u v : Int} (h : Rs S A) (ho : sgOk S) (ht : t ≤ 5) : Rs (S.1, (upN S.2.1.1 t ((if p then 1 else 0) + (if q then 2 else 0)), upI S.2.1.2.1 t u, upI S.2.1.2.2 t v), S.2.2) (trR t (bI p) (bI q) (iI u) (iI v) A) := by
  refine Rs_fr_t h ho.1 (fun k hk => cpy_o (by omega)) (fun j hj => ?_) ho.2.2.2.2.2.1.2.1 ho.2.2.2.2.2.2.1.2.1
  dsimp only
  unfold trR
  by_cases e : j = t
  · have e1 : bI p = iI (((((if p then 1 else 0) + (if q then 2 else 0) : Nat)) % 2 : Nat)) := by
      unfold bI
      split <;> split <;> rfl
    have e2 : bI q = iI (((((if p then 1 else 0) + (if q then 2 else 0) : Nat)) / 2 : Nat)) := by
      unfold bI
      split <;> split <;> rfl
    rw [cpy_i (i := 0) (by omega) (by omega), cpy_i (i := 1) (by omega) (by omega), cpy_i (i := 2) (by omega) (by omega), cpy_i (i := 3) (by omega) (by omega), e]
    unfold upI
    rw [upN_at, if_pos rfl, if_pos rfl]
    exact ⟨e1, e2, rfl, rfl⟩
  · rw [cpy_o (by omega), cpy_o (by omega), cpy_o (by omega), cpy_o (by omega)]
    unfold upI
    rw [upN_o e, if_neg e, if_neg e]
    exact h.2.1 j hj
theorem Rs_lp {f t z : Nat} (h : Rs S A) (ho : sgOk S) : Rs (S.1, S.2.1, S.2.2.1, S.2.2.2.1, (if z = 0 then 0 else f, if z = 0 then 0 else t, z)) (lpR (if (z : Int) = 0 then iI 0 else iI f) (if (z : Int) = 0 then iI 0 else iI t) (iI z) A) := by
  refine Rs_fr_l h ho.1 (fun k hk => cpy_o (by omega)) ?_ ?_ ?_ ho.2.2.2.2.2.1.2.1 ho.2.2.2.2.2.2.1.2.1
  · unfold lpR
    rw [cpy_i (i := 0) (by omega) (by omega)]
    show (if (z : Int) = 0 then iI 0 else iI f) = iI ((if z = 0 then 0 else f : Nat))
    by_cases e : z = 0
    · rw [if_pos e, if_pos (by omega)]
      rfl
    · rw [if_neg e, if_neg (by omega)]
  · unfold lpR
    rw [cpy_i (i := 1) (by omega) (by omega)]
    show (if (z : Int) = 0 then iI 0 else iI t) = iI ((if z = 0 then 0 else t : Nat))
    by_cases e : z = 0
    · rw [if_pos e, if_pos (by omega)]
      rfl
    · rw [if_neg e, if_neg (by omega)]
  · unfold lpR
    rw [cpy_i (i := 2) (by omega) (by omega)]
    rfl

theorem fl_i {G : Nat → Int32} {a b k : Nat} {v : Int32} (h : a ≤ k ∧ k < b) : flF G a b v k = v := if_pos h
theorem fl_o {G : Nat → Int32} {a b k : Nat} {v : Int32} (h : ¬ (a ≤ k ∧ k < b)) : flF G a b v k = G k := if_neg h
theorem up_i {G : Nat → Int32} {a : Nat} {v : Int32} : upd G a v a = v := if_pos rfl
theorem up_o {G : Nat → Int32} {a k : Nat} {v : Int32} (h : k ≠ a) : upd G a v k = G k := if_neg h
theorem dlN_i {F : Nat → Nat} {p k i : Nat} (h : p ≤ i ∧ i < k) : dlN F p k i = F (i + 1) := if_pos h
theorem dlN_o {F : Nat → Nat} {p k i : Nat} (h : ¬ (p ≤ i ∧ i < k)) : dlN F p k i = F i := if_neg h
theorem inN_p {F : Nat → Nat} {p k c : Nat} : insN F p k c p = c := if_pos rfl
theorem inN_i {F : Nat → Nat} {p k c i : Nat} (h1 : p < i) (h2 : i ≤ k) : insN F p k c i = F (i - 1) := by
  unfold insN
  rw [if_neg (by omega), if_pos ⟨h1, h2⟩]
theorem inN_o {F : Nat → Nat} {p k c i : Nat} (h : i < p) : insN F p k c i = F i := by
  unfold insN
  rw [if_neg (by omega), if_neg (by omega)]
theorem Rs_del_p {k : Nat} (h : Rs S A) (ho : sgOk S) (hk : k < S.2.2.1.1) : Rs (S.1, S.2.1, (S.2.2.1.1 - 1, dlN S.2.2.1.2.1 k (S.2.2.1.1 - 1), dlN S.2.2.1.2.2.1 k (S.2.2.1.1 - 1), dlN S.2.2.1.2.2.2 k (S.2.2.1.1 - 1)), S.2.2.2) (delR 325 2 k S.2.2.1.1 A) := by
  have n11 := ho.2.2.2.2.2.1.2.1
  obtain ⟨⟨a, a0, a1⟩, az⟩ := h.2.2.1
  refine Rs_fr_p h ho.1 (fun x hx => ?_) ⟨?_, ?_, ?_⟩ (fun x h1 h2 => ?_) ho.2.2.2.2.2.2.1.2.1
  · unfold delR
    rw [up_o (by omega), fl_o (by omega), cpy_o (by omega)]
  · exact up_i
  · intro i hi
    dsimp only
    have hi' : i < S.2.2.1.1 - 1 := hi
    unfold delR
    rw [up_o (by omega), fl_o (by omega)]
    by_cases e : k ≤ i
    · rw [cpy_i (i := 2 * (i - k) + 0) (by omega) (by omega), dlN_i ⟨e, hi'⟩]
      have z := a0 (i + 1) (by omega)
      rw [show 326 + 2 * (i + 1) = 325 + 1 + 2 * k + 2 + (2 * (i - k) + 0) by omega] at z
      exact z
    · rw [cpy_o (by omega), dlN_o (by omega)]
      exact a0 i (by omega)
  · intro i hi
    dsimp only
    have hi' : i < S.2.2.1.1 - 1 := hi
    unfold delR
    rw [up_o (by omega), fl_o (by omega)]
    by_cases e : k ≤ i
    · rw [cpy_i (i := 2 * (i - k) + 1) (by omega) (by omega), dlN_i ⟨e, hi'⟩]
      have z := a1 (i + 1) (by omega)
      rw [show 327 + 2 * (i + 1) = 325 + 1 + 2 * k + 2 + (2 * (i - k) + 1) by omega] at z
      exact z
    · rw [cpy_o (by omega), dlN_o (by omega)]
      exact a1 i (by omega)
  · have h1' : 326 + 2 * (S.2.2.1.1 - 1) ≤ x := h1
    unfold delR
    rw [up_o (by omega)]
    by_cases e : x < 325 + 1 + 2 * S.2.2.1.1
    · rw [fl_i (by omega)]
    · rw [fl_o (by omega), cpy_o (by omega)]
      exact az x (by omega) h2
theorem Rs_ins_p {k v y z : Nat} {R : Nat → Int32} (h : Rs S A) (ho : sgOk S) (hk : k ≤ S.2.2.1.1) (hn : S.2.2.1.1 < 11) (f0 : R (0 + 0) = iI v) (f1 : R (0 + 1) = iI y) : Rs (S.1, S.2.1, (S.2.2.1.1 + 1, insN S.2.2.1.2.1 k S.2.2.1.1 v, insN S.2.2.1.2.2.1 k S.2.2.1.1 y, insN S.2.2.1.2.2.2 k S.2.2.1.1 z), S.2.2.2) (insR 325 2 k S.2.2.1.1 R A) := by
  have n11 := ho.2.2.2.2.2.1.2.1
  obtain ⟨⟨a, a0, a1⟩, az⟩ := h.2.2.1
  refine Rs_fr_p h ho.1 (fun x hx => ?_) ⟨?_, ?_, ?_⟩ (fun x h1 h2 => ?_) ho.2.2.2.2.2.2.1.2.1
  · unfold insR
    rw [cpy_o (by omega), up_o (by omega), cpy_o (by omega)]
  · unfold insR
    rw [cpy_o (by omega)]
    exact up_i
  · intro i hi
    dsimp only
    have hi' : i < S.2.2.1.1 + 1 := hi
    unfold insR
    by_cases e : i = k
    · rw [cpy_i (i := 0) (by omega) (by omega), e, inN_p]
      exact f0
    · rw [cpy_o (by omega), up_o (by omega)]
      by_cases e2 : k < i
      · rw [cpy_i (i := 2 * (i - k - 1) + 0) (by omega) (by omega), inN_i e2 (by omega)]
        have z := a0 (i - 1) (by omega)
        rw [show 326 + 2 * (i - 1) = 325 + 1 + 2 * k + (2 * (i - k - 1) + 0) by omega] at z
        exact z
      · rw [cpy_o (by omega), inN_o (by omega)]
        exact a0 i (by omega)
  · intro i hi
    dsimp only
    have hi' : i < S.2.2.1.1 + 1 := hi
    unfold insR
    by_cases e : i = k
    · rw [cpy_i (i := 1) (by omega) (by omega), e, inN_p]
      exact f1
    · rw [cpy_o (by omega), up_o (by omega)]
      by_cases e2 : k < i
      · rw [cpy_i (i := 2 * (i - k - 1) + 1) (by omega) (by omega), inN_i e2 (by omega)]
        have z := a1 (i - 1) (by omega)
        rw [show 327 + 2 * (i - 1) = 325 + 1 + 2 * k + (2 * (i - k - 1) + 1) by omega] at z
        exact z
      · rw [cpy_o (by omega), inN_o (by omega)]
        exact a1 i (by omega)
  · have h1' : 326 + 2 * (S.2.2.1.1 + 1) ≤ x := h1
    unfold insR
    rw [cpy_o (by omega), up_o (by omega), cpy_o (by omega)]
    exact az x (by omega) h2
theorem Rs_set_p {k v y z : Nat} {R : Nat → Int32} (h : Rs S A) (ho : sgOk S) (hk : k < S.2.2.1.1) (f0 : R (0 + 0) = iI v) (f1 : R (0 + 1) = iI y) : Rs (S.1, S.2.1, (S.2.2.1.1, upN S.2.2.1.2.1 k v, upN S.2.2.1.2.2.1 k y, upN S.2.2.1.2.2.2 k z), S.2.2.2) (setR 325 2 k R A) := by
  have n11 := ho.2.2.2.2.2.1.2.1
  obtain ⟨⟨a, a0, a1⟩, az⟩ := h.2.2.1
  refine Rs_fr_p h ho.1 (fun x hx => ?_) ⟨?_, ?_, ?_⟩ (fun x h1 h2 => ?_) ho.2.2.2.2.2.2.1.2.1
  · unfold setR
    rw [cpy_o (by omega)]
  · unfold setR
    rw [cpy_o (by omega)]
    exact a
  · intro i hi
    dsimp only
    have hi' : i < S.2.2.1.1 := hi
    unfold setR
    by_cases e : i = k
    · rw [cpy_i (i := 0) (by omega) (by omega), e, upN_at]
      exact f0
    · rw [cpy_o (by omega), upN_o e]
      exact a0 i hi'
  · intro i hi
    dsimp only
    have hi' : i < S.2.2.1.1 := hi
    unfold setR
    by_cases e : i = k
    · rw [cpy_i (i := 1) (by omega) (by omega), e, upN_at]
      exact f1
    · rw [cpy_o (by omega), upN_o e]
      exact a1 i hi'
  · have h1' : 326 + 2 * S.2.2.1.1 ≤ x := h1
    unfold setR
    rw [cpy_o (by omega)]
    exact az x (by omega) h2
theorem Rs_del_m {k : Nat} (h : Rs S A) (ho : sgOk S) (hk : k < S.2.2.2.1.1) : Rs (S.1, S.2.1, S.2.2.1, (S.2.2.2.1.1 - 1, dlN S.2.2.2.1.2.1 k (S.2.2.2.1.1 - 1), dlN S.2.2.2.1.2.2.1 k (S.2.2.2.1.1 - 1), dlN S.2.2.2.1.2.2.2 k (S.2.2.2.1.1 - 1)), S.2.2.2.2) (delR 348 3 k S.2.2.2.1.1 A) := by
  have n11 := ho.2.2.2.2.2.2.1.2.1
  obtain ⟨⟨a, a0, a1, a2⟩, az⟩ := h.2.2.2.1
  refine Rs_fr_m h ho.1 (fun x hx => ?_) ⟨?_, ?_, ?_, ?_⟩ (fun x h1 h2 => ?_) ho.2.2.2.2.2.1.2.1
  · unfold delR
    rw [up_o (by omega), fl_o (by omega), cpy_o (by omega)]
  · exact up_i
  · intro i hi
    dsimp only
    have hi' : i < S.2.2.2.1.1 - 1 := hi
    unfold delR
    rw [up_o (by omega), fl_o (by omega)]
    by_cases e : k ≤ i
    · rw [cpy_i (i := 3 * (i - k) + 0) (by omega) (by omega), dlN_i ⟨e, hi'⟩]
      have z := a0 (i + 1) (by omega)
      rw [show 349 + 3 * (i + 1) = 348 + 1 + 3 * k + 3 + (3 * (i - k) + 0) by omega] at z
      exact z
    · rw [cpy_o (by omega), dlN_o (by omega)]
      exact a0 i (by omega)
  · intro i hi
    dsimp only
    have hi' : i < S.2.2.2.1.1 - 1 := hi
    unfold delR
    rw [up_o (by omega), fl_o (by omega)]
    by_cases e : k ≤ i
    · rw [cpy_i (i := 3 * (i - k) + 1) (by omega) (by omega), dlN_i ⟨e, hi'⟩]
      have z := a1 (i + 1) (by omega)
      rw [show 350 + 3 * (i + 1) = 348 + 1 + 3 * k + 3 + (3 * (i - k) + 1) by omega] at z
      exact z
    · rw [cpy_o (by omega), dlN_o (by omega)]
      exact a1 i (by omega)
  · intro i hi
    dsimp only
    have hi' : i < S.2.2.2.1.1 - 1 := hi
    unfold delR
    rw [up_o (by omega), fl_o (by omega)]
    by_cases e : k ≤ i
    · rw [cpy_i (i := 3 * (i - k) + 2) (by omega) (by omega), dlN_i ⟨e, hi'⟩]
      have z := a2 (i + 1) (by omega)
      rw [show 351 + 3 * (i + 1) = 348 + 1 + 3 * k + 3 + (3 * (i - k) + 2) by omega] at z
      exact z
    · rw [cpy_o (by omega), dlN_o (by omega)]
      exact a2 i (by omega)
  · have h1' : 349 + 3 * (S.2.2.2.1.1 - 1) ≤ x := h1
    unfold delR
    rw [up_o (by omega)]
    by_cases e : x < 348 + 1 + 3 * S.2.2.2.1.1
    · rw [fl_i (by omega)]
    · rw [fl_o (by omega), cpy_o (by omega)]
      exact az x (by omega) h2
theorem Rs_ins_m {k v y z : Nat} {R : Nat → Int32} (h : Rs S A) (ho : sgOk S) (hk : k ≤ S.2.2.2.1.1) (hn : S.2.2.2.1.1 < 11) (f0 : R (0 + 0) = iI v) (f1 : R (0 + 1) = iI y) (f2 : R (0 + 2) = iI z) : Rs (S.1, S.2.1, S.2.2.1, (S.2.2.2.1.1 + 1, insN S.2.2.2.1.2.1 k S.2.2.2.1.1 v, insN S.2.2.2.1.2.2.1 k S.2.2.2.1.1 y, insN S.2.2.2.1.2.2.2 k S.2.2.2.1.1 z), S.2.2.2.2) (insR 348 3 k S.2.2.2.1.1 R A) := by
  have n11 := ho.2.2.2.2.2.2.1.2.1
  obtain ⟨⟨a, a0, a1, a2⟩, az⟩ := h.2.2.2.1
  refine Rs_fr_m h ho.1 (fun x hx => ?_) ⟨?_, ?_, ?_, ?_⟩ (fun x h1 h2 => ?_) ho.2.2.2.2.2.1.2.1
  · unfold insR
    rw [cpy_o (by omega), up_o (by omega), cpy_o (by omega)]
  · unfold insR
    rw [cpy_o (by omega)]
    exact up_i
  · intro i hi
    dsimp only
    have hi' : i < S.2.2.2.1.1 + 1 := hi
    unfold insR
    by_cases e : i = k
    · rw [cpy_i (i := 0) (by omega) (by omega), e, inN_p]
      exact f0
    · rw [cpy_o (by omega), up_o (by omega)]
      by_cases e2 : k < i
      · rw [cpy_i (i := 3 * (i - k - 1) + 0) (by omega) (by omega), inN_i e2 (by omega)]
        have z := a0 (i - 1) (by omega)
        rw [show 349 + 3 * (i - 1) = 348 + 1 + 3 * k + (3 * (i - k - 1) + 0) by omega] at z
        exact z
      · rw [cpy_o (by omega), inN_o (by omega)]
        exact a0 i (by omega)
  · intro i hi
    dsimp only
    have hi' : i < S.2.2.2.1.1 + 1 := hi
    unfold insR
    by_cases e : i = k
    · rw [cpy_i (i := 1) (by omega) (by omega), e, inN_p]
      exact f1
    · rw [cpy_o (by omega), up_o (by omega)]
      by_cases e2 : k < i
      · rw [cpy_i (i := 3 * (i - k - 1) + 1) (by omega) (by omega), inN_i e2 (by omega)]
        have z := a1 (i - 1) (by omega)
        rw [show 350 + 3 * (i - 1) = 348 + 1 + 3 * k + (3 * (i - k - 1) + 1) by omega] at z
        exact z
      · rw [cpy_o (by omega), inN_o (by omega)]
        exact a1 i (by omega)
  · intro i hi
    dsimp only
    have hi' : i < S.2.2.2.1.1 + 1 := hi
    unfold insR
    by_cases e : i = k
    · rw [cpy_i (i := 2) (by omega) (by omega), e, inN_p]
      exact f2
    · rw [cpy_o (by omega), up_o (by omega)]
      by_cases e2 : k < i
      · rw [cpy_i (i := 3 * (i - k - 1) + 2) (by omega) (by omega), inN_i e2 (by omega)]
        have z := a2 (i - 1) (by omega)
        rw [show 351 + 3 * (i - 1) = 348 + 1 + 3 * k + (3 * (i - k - 1) + 2) by omega] at z
        exact z
      · rw [cpy_o (by omega), inN_o (by omega)]
        exact a2 i (by omega)
  · have h1' : 349 + 3 * (S.2.2.2.1.1 + 1) ≤ x := h1
    unfold insR
    rw [cpy_o (by omega), up_o (by omega), cpy_o (by omega)]
    exact az x (by omega) h2
theorem Rs_set_m {k v y z : Nat} {R : Nat → Int32} (h : Rs S A) (ho : sgOk S) (hk : k < S.2.2.2.1.1) (f0 : R (0 + 0) = iI v) (f1 : R (0 + 1) = iI y) (f2 : R (0 + 2) = iI z) : Rs (S.1, S.2.1, S.2.2.1, (S.2.2.2.1.1, upN S.2.2.2.1.2.1 k v, upN S.2.2.2.1.2.2.1 k y, upN S.2.2.2.1.2.2.2 k z), S.2.2.2.2) (setR 348 3 k R A) := by
  have n11 := ho.2.2.2.2.2.2.1.2.1
  obtain ⟨⟨a, a0, a1, a2⟩, az⟩ := h.2.2.2.1
  refine Rs_fr_m h ho.1 (fun x hx => ?_) ⟨?_, ?_, ?_, ?_⟩ (fun x h1 h2 => ?_) ho.2.2.2.2.2.1.2.1
  · unfold setR
    rw [cpy_o (by omega)]
  · unfold setR
    rw [cpy_o (by omega)]
    exact a
  · intro i hi
    dsimp only
    have hi' : i < S.2.2.2.1.1 := hi
    unfold setR
    by_cases e : i = k
    · rw [cpy_i (i := 0) (by omega) (by omega), e, upN_at]
      exact f0
    · rw [cpy_o (by omega), upN_o e]
      exact a0 i hi'
  · intro i hi
    dsimp only
    have hi' : i < S.2.2.2.1.1 := hi
    unfold setR
    by_cases e : i = k
    · rw [cpy_i (i := 1) (by omega) (by omega), e, upN_at]
      exact f1
    · rw [cpy_o (by omega), upN_o e]
      exact a1 i hi'
  · intro i hi
    dsimp only
    have hi' : i < S.2.2.2.1.1 := hi
    unfold setR
    by_cases e : i = k
    · rw [cpy_i (i := 2) (by omega) (by omega), e, upN_at]
      exact f2
    · rw [cpy_o (by omega), upN_o e]
      exact a2 i hi'
  · have h1' : 349 + 3 * S.2.2.2.1.1 ≤ x := h1
    unfold setR
    rw [cpy_o (by omega)]
    exact az x (by omega) h2
end
