/-! ===== the desk as one stretch of cells ===== -/
def rgW (h : aHf) (b n : Nat) (c : Nat → aC) : aHf := fun q => if b ≤ q ∧ q < b + n then some (c (q - b)) else h q
theorem rg_at {h : aHf} {b n k : Nat} {c : Nat → aC} (hk : k < n) : rgW h b n c (b + k) = some (c k) := by
  unfold rgW
  rw [if_pos (by omega), Nat.add_sub_cancel_left]
theorem rg_o {h : aHf} {b n q : Nat} {c : Nat → aC} (hq : q < b ∨ b + n ≤ q) : rgW h b n c q = h q := by
  unfold rgW
  rw [if_neg (by omega)]
theorem rg_sub {h : aHf} {b n o m : Nat} {c c' C : Nat → aC} (hm : o + m ≤ n) (h1 : ∀ k, k < m → c' k = C (o + k)) (h2 : ∀ k, k < o ∨ o + m ≤ k → c k = C k) : rgW (rgW h b n c) (b + o) m c' = rgW h b n C := by
  funext q
  unfold rgW
  by_cases e : b + o ≤ q ∧ q < b + o + m
  · rw [if_pos e, if_pos (by omega), h1 (q - (b + o)) (by omega), show o + (q - (b + o)) = q - b by omega]
  · rw [if_neg e]
    by_cases e2 : b ≤ q ∧ q < b + n
    · rw [if_pos e2, if_pos e2, h2 (q - b) (by omega)]
    · rw [if_neg e2, if_neg e2]
abbrev NLv : Type := Nat × (Nat → Nat)
abbrev TSv : Type := (Nat → Nat) × (Nat → Int) × (Nat → Int)
abbrev MKv : Type := Nat × (Nat → Nat) × (Nat → Nat) × (Nat → Nat)
abbrev LPv : Type := Nat × Nat × Nat
/-- notes, tracks, speeds, meters, loop -/
abbrev Sg : Type := NLv × TSv × MKv × MKv × LPv
def nlC (a : Nat) (v : NLv) : Nat → aC
  | 0 => aB 4 [.ref (a + 1), .int (iI v.1)]
  | _ => aL 60 (fun i => lI (v.2 i))
def tsC (a : Nat) (v : TSv) : Nat → aC
  | 0 => aB 8 [.ref (a + 1), .ref (a + 2), .ref (a + 3)]
  | 1 => aI .int 6 (fun i => iI (v.1 i))
  | 2 => aI .int 6 (fun i => iI (v.2.1 i))
  | _ => aI .int 6 (fun i => iI (v.2.2 i))
def mkC (a : Nat) (v : MKv) : Nat → aC
  | 0 => aB 2 [.ref (a + 1), .ref (a + 2), .ref (a + 3), .int (iI v.1)]
  | 1 => aI .int 11 (fun i => iI (v.2.1 i))
  | 2 => aI .int 11 (fun i => iI (v.2.2.1 i))
  | _ => aI .int 11 (fun i => iI (v.2.2.2 i))
def lpC (v : LPv) : aC := aB 1 [.int (iI v.1), .int (iI v.2.1), .int (iI v.2.2)]
def sgC (b : Nat) (S : Sg) (k : Nat) : aC :=
  if k = 0 then aB 6 [.ref (b + 1), .ref (b + 3), .ref (b + 7), .ref (b + 12), .ref (b + 17)]
  else if k < 3 then nlC (b + 1) S.1 (k - 1)
  else if k < 7 then tsC (b + 3) S.2.1 (k - 3)
  else if k = 7 then aB 7 [.ref (b + 7 + 1)]
  else if k < 12 then mkC (b + 8) S.2.2.1 (k - 8)
  else if k = 12 then aB 3 [.ref (b + 12 + 1)]
  else if k < 17 then mkC (b + 13) S.2.2.2.1 (k - 13)
  else lpC S.2.2.2.2
abbrev sgW (h : aHf) (b : Nat) (S : Sg) : aHf := rgW h b 18 (sgC b S)
def sgI (h : aHf) (b : Nat) (S : Sg) : Prop := ∀ k, k < 18 → h (b + k) = some (sgC b S k)
section
variable {h : aHf} {a b : Nat} {S : Sg}
theorem sg_I : sgI (sgW h b S) b S := fun _ hk => rg_at hk
theorem nl_rg {n : Nat} {F : Nat → Nat} : nlW h a n F = rgW h a 2 (nlC a (n, F)) := by
  funext q
  unfold nlW rgW
  by_cases e1 : q = a
  · rw [if_pos e1, if_pos (by omega), show q - a = 0 by omega]
    rfl
  · rw [if_neg e1]
    by_cases e2 : q = a + 1
    · rw [if_pos e2, if_pos (by omega), show q - a = 1 by omega]
      rfl
    · rw [if_neg e2, if_neg (by omega)]
theorem mk_rg {n : Nat} {P A B : Nat → Nat} : mkW h a n P A B = rgW h a 4 (mkC a (n, P, A, B)) := by
  funext q
  unfold mkW rgW
  by_cases e1 : q = a
  · rw [if_pos e1, if_pos (by omega), show q - a = 0 by omega]
    rfl
  · rw [if_neg e1]
    by_cases e2 : q = a + 1
    · rw [if_pos e2, if_pos (by omega), show q - a = 1 by omega]
      rfl
    · rw [if_neg e2]
      by_cases e3 : q = a + 2
      · rw [if_pos e3, if_pos (by omega), show q - a = 2 by omega]
        rfl
      · rw [if_neg e3]
        by_cases e4 : q = a + 3
        · rw [if_pos e4, if_pos (by omega), show q - a = 3 by omega]
          rfl
        · rw [if_neg e4, if_neg (by omega)]
theorem ts_rg {M : Nat → Nat} {S D : Nat → Int} : tsW h a M S D = rgW h a 4 (tsC a (M, S, D)) := by
  funext q
  unfold tsW rgW
  by_cases e1 : q = a
  · rw [if_pos e1, if_pos (by omega), show q - a = 0 by omega]
    rfl
  · rw [if_neg e1]
    by_cases e2 : q = a + 1
    · rw [if_pos e2, if_pos (by omega), show q - a = 1 by omega]
      rfl
    · rw [if_neg e2]
      by_cases e3 : q = a + 2
      · rw [if_pos e3, if_pos (by omega), show q - a = 2 by omega]
        rfl
      · rw [if_neg e3]
        by_cases e4 : q = a + 3
        · rw [if_pos e4, if_pos (by omega), show q - a = 3 by omega]
          rfl
        · rw [if_neg e4, if_neg (by omega)]
theorem up_rg {c : aC} : aup h a c = rgW h a 1 (fun _ => c) := by
  funext q
  unfold aup rgW
  by_cases e1 : q = a
  · rw [if_pos e1, if_pos (by omega)]
  · rw [if_neg e1, if_neg (by omega)]
/-! the parts of a song -/
theorem sgC_nl (k : Nat) (hk : k < 2) : sgC b S (1 + k) = nlC (b + 1) S.1 k := by
  unfold sgC
  rw [if_neg (by omega), if_pos (by omega), Nat.add_sub_cancel_left]
theorem sgC_ts (k : Nat) (hk : k < 4) : sgC b S (3 + k) = tsC (b + 3) S.2.1 k := by
  unfold sgC
  rw [if_neg (by omega), if_neg (by omega), if_pos (by omega), Nat.add_sub_cancel_left]
theorem sgC_sp (k : Nat) (hk : k < 4) : sgC b S (8 + k) = mkC (b + 8) S.2.2.1 k := by
  unfold sgC
  rw [if_neg (by omega), if_neg (by omega), if_neg (by omega), if_neg (by omega), if_pos (by omega), Nat.add_sub_cancel_left]
theorem sgC_mt (k : Nat) (hk : k < 4) : sgC b S (13 + k) = mkC (b + 13) S.2.2.2.1 k := by
  unfold sgC
  rw [if_neg (by omega), if_neg (by omega), if_neg (by omega), if_neg (by omega), if_neg (by omega), if_neg (by omega), if_pos (by omega), Nat.add_sub_cancel_left]
theorem sgC_lp (k : Nat) (hk : 17 ≤ k) : sgC b S k = lpC S.2.2.2.2 := by
  unfold sgC
  rw [if_neg (by omega), if_neg (by omega), if_neg (by omega), if_neg (by omega), if_neg (by omega), if_neg (by omega), if_neg (by omega)]
theorem sgI_o (hI : sgI h b S) : h b = some (aB 6 [.ref (b + 1), .ref (b + 3), .ref (b + 7), .ref (b + 12), .ref (b + 17)]) := hI 0 (by decide)
theorem sgI_nl (hI : sgI h b S) : h (b + 1) = some (aB 4 [.ref (b + 1 + 1), .int (iI S.1.1)]) ∧ h (b + 1 + 1) = some (aL 60 (fun i => lI (S.1.2 i))) := ⟨hI 1 (by decide), hI 2 (by decide)⟩
theorem sgI_ts (hI : sgI h b S) : tsI h (b + 3) S.2.1.1 S.2.1.2.1 S.2.1.2.2 := ⟨hI 3 (by decide), hI 4 (by decide), hI 5 (by decide), hI 6 (by decide)⟩
theorem sgI_7 (hI : sgI h b S) : h (b + 7) = some (aB 7 [.ref (b + 7 + 1)]) := hI 7 (by decide)
theorem sgI_sp (hI : sgI h b S) : mkI h (b + 7 + 1) S.2.2.1.1 S.2.2.1.2.1 S.2.2.1.2.2.1 S.2.2.1.2.2.2 := ⟨hI 8 (by decide), hI 9 (by decide), hI 10 (by decide), hI 11 (by decide)⟩
theorem sgI_12 (hI : sgI h b S) : h (b + 12) = some (aB 3 [.ref (b + 12 + 1)]) := hI 12 (by decide)
theorem sgI_mt (hI : sgI h b S) : mkI h (b + 12 + 1) S.2.2.2.1.1 S.2.2.2.1.2.1 S.2.2.2.1.2.2.1 S.2.2.2.1.2.2.2 := ⟨hI 13 (by decide), hI 14 (by decide), hI 15 (by decide), hI 16 (by decide)⟩
theorem sgI_lp (hI : sgI h b S) : h (b + 17) = some (aB 1 [.int (iI S.2.2.2.2.1), .int (iI S.2.2.2.2.2.1), .int (iI S.2.2.2.2.2.2)]) := hI 17 (by decide)
theorem sgC_k {S' : Sg} {o m : Nat} (h1 : (o = 1 ∧ m = 2) ∨ S.1 = S'.1) (h2 : (o = 3 ∧ m = 4) ∨ S.2.1 = S'.2.1) (h3 : (o = 8 ∧ m = 4) ∨ S.2.2.1 = S'.2.2.1) (h4 : (o = 13 ∧ m = 4) ∨ S.2.2.2.1 = S'.2.2.2.1) (h5 : (o = 17 ∧ m = 1) ∨ S.2.2.2.2 = S'.2.2.2.2) (k : Nat) (hk : k < 18) (ho : k < o ∨ o + m ≤ k) : sgC b S k = sgC b S' k := by
  unfold sgC
  by_cases e0 : k = 0
  · rw [if_pos e0, if_pos e0]
  · rw [if_neg e0, if_neg e0]
    by_cases e1 : k < 3
    · rw [if_pos e1, if_pos e1, h1.resolve_left (by omega)]
    · rw [if_neg e1, if_neg e1]
      by_cases e2 : k < 7
      · rw [if_pos e2, if_pos e2, h2.resolve_left (by omega)]
      · rw [if_neg e2, if_neg e2]
        by_cases e3 : k = 7
        · rw [if_pos e3, if_pos e3]
        · rw [if_neg e3, if_neg e3]
          by_cases e4 : k < 12
          · rw [if_pos e4, if_pos e4, h3.resolve_left (by omega)]
          · rw [if_neg e4, if_neg e4]
            by_cases e5 : k = 12
            · rw [if_pos e5, if_pos e5]
            · rw [if_neg e5, if_neg e5]
              by_cases e6 : k < 17
              · rw [if_pos e6, if_pos e6, h4.resolve_left (by omega)]
              · rw [if_neg e6, if_neg e6, h5.resolve_left (by omega)]
theorem rg_sub2 {n o m : Nat} {c c' C : Nat → aC} (hm : o + m ≤ n) (h1 : ∀ k, k < m → c' k = C (o + k)) (h2 : ∀ k, k < n → k < o ∨ o + m ≤ k → c k = C k) : rgW (rgW h b n c) (b + o) m c' = rgW h b n C := by
  funext q
  unfold rgW
  by_cases e : b + o ≤ q ∧ q < b + o + m
  · rw [if_pos e, if_pos (by omega), h1 (q - (b + o)) (by omega), show o + (q - (b + o)) = q - b by omega]
  · rw [if_neg e]
    by_cases e2 : b ≤ q ∧ q < b + n
    · rw [if_pos e2, if_pos e2, h2 (q - b) (by omega) (by omega)]
    · rw [if_neg e2, if_neg e2]
theorem sg_nl {n : Nat} {F : Nat → Nat} : nlW (sgW h b S) (b + 1) n F = sgW h b ((n, F), S.2) := by
  rw [nl_rg]
  exact rg_sub2 (by decide) (fun k hk => (sgC_nl (b := b) (S := ((n, F), S.2)) k hk).symm) (sgC_k (Or.inl ⟨rfl, rfl⟩) (Or.inr rfl) (Or.inr rfl) (Or.inr rfl) (Or.inr rfl))
theorem sg_ts {M : Nat → Nat} {X D : Nat → Int} : tsW (sgW h b S) (b + 3) M X D = sgW h b (S.1, (M, X, D), S.2.2) := by
  rw [ts_rg]
  exact rg_sub2 (by decide) (fun k hk => (sgC_ts (b := b) (S := (S.1, (M, X, D), S.2.2)) k hk).symm) (sgC_k (Or.inr rfl) (Or.inl ⟨rfl, rfl⟩) (Or.inr rfl) (Or.inr rfl) (Or.inr rfl))
theorem sg_sp {n : Nat} {P A B : Nat → Nat} : mkW (sgW h b S) (b + 7 + 1) n P A B = sgW h b (S.1, S.2.1, (n, P, A, B), S.2.2.2) := by
  rw [mk_rg]
  exact rg_sub2 (o := 8) (by decide) (fun k hk => (sgC_sp (b := b) (S := (S.1, S.2.1, (n, P, A, B), S.2.2.2)) k hk).symm) (sgC_k (Or.inr rfl) (Or.inr rfl) (Or.inl ⟨rfl, rfl⟩) (Or.inr rfl) (Or.inr rfl))
theorem sg_mt {n : Nat} {P A B : Nat → Nat} : mkW (sgW h b S) (b + 12 + 1) n P A B = sgW h b (S.1, S.2.1, S.2.2.1, (n, P, A, B), S.2.2.2.2) := by
  rw [mk_rg]
  exact rg_sub2 (o := 13) (by decide) (fun k hk => (sgC_mt (b := b) (S := (S.1, S.2.1, S.2.2.1, (n, P, A, B), S.2.2.2.2)) k hk).symm) (sgC_k (Or.inr rfl) (Or.inr rfl) (Or.inr rfl) (Or.inl ⟨rfl, rfl⟩) (Or.inr rfl))
theorem sg_lp {f t x : Nat} : aup (sgW h b S) (b + 17) (aB 1 [.int (iI f), .int (iI t), .int (iI x)]) = sgW h b (S.1, S.2.1, S.2.2.1, S.2.2.2.1, (f, t, x)) := by
  rw [up_rg]
  exact rg_sub2 (o := 17) (by decide) (fun k hk => (sgC_lp (b := b) (S := (S.1, S.2.1, S.2.2.1, S.2.2.2.1, (f, t, x))) (17 + k) (by omega)).symm) (sgC_k (Or.inr rfl) (Or.inr rfl) (Or.inr rfl) (Or.inr rfl) (Or.inl ⟨rfl, rfl⟩))
end
/-- a song in its bounds -/
def sgOk (S : Sg) : Prop := S.1.1 ≤ 60 ∧ (∀ i, cOk (S.1.2 i)) ∧ (∀ t, S.2.1.1 t < 4) ∧ (∀ t, -24 ≤ S.2.1.2.1 t ∧ S.2.1.2.1 t ≤ 24) ∧ (∀ t, -48 ≤ S.2.1.2.2 t ∧ S.2.1.2.2 t ≤ 48) ∧ mkOk S.2.2.1.1 S.2.2.1.2.1 S.2.2.1.2.2.1 S.2.2.1.2.2.2 ∧ mkOk S.2.2.2.1.1 S.2.2.2.1.2.1 S.2.2.2.1.2.2.1 S.2.2.2.1.2.2.2 ∧ (∀ i, S.2.2.2.1.2.2.1 i ≤ 16) ∧ S.2.2.2.2.1 ≤ 9600 ∧ S.2.2.2.2.2.1 ≤ 9600 ∧ S.2.2.2.2.2.2 ≤ 8
/-- a song taken from another -/
def tkS (S T : Sg) : Sg := ((T.1.1, mixN S.1.2 T.1.2 T.1.1), (mixN S.2.1.1 T.2.1.1 6, mixI S.2.1.2.1 T.2.1.2.1 6, mixI S.2.1.2.2 T.2.1.2.2 6),
  (T.2.2.1.1, mixN S.2.2.1.2.1 T.2.2.1.2.1 T.2.2.1.1, mixN S.2.2.1.2.2.1 T.2.2.1.2.2.1 T.2.2.1.1, mixN S.2.2.1.2.2.2 T.2.2.1.2.2.2 T.2.2.1.1),
  (T.2.2.2.1.1, mixN S.2.2.2.1.2.1 T.2.2.2.1.2.1 T.2.2.2.1.1, mixN S.2.2.2.1.2.2.1 T.2.2.2.1.2.2.1 T.2.2.2.1.1, mixN S.2.2.2.1.2.2.2 T.2.2.2.1.2.2.2 T.2.2.2.1.1),
  (if T.2.2.2.2.2.2 = 0 then 0 else T.2.2.2.2.1, if T.2.2.2.2.2.2 = 0 then 0 else T.2.2.2.2.2.1, T.2.2.2.2.2.2))
/-- two songs alike -/
abbrev lkN (S T : Sg) : Prop := S.1.1 = T.1.1 ∧ alR (fun j => S.1.2 j == T.1.2 j) 0 S.1.1 = true
abbrev lkT (S T : Sg) : Prop := alR (ts1 S.2.1.1 S.2.1.2.1 S.2.1.2.2 T.2.1.1 T.2.1.2.1 T.2.1.2.2) 0 6 = true
abbrev lkP (S T : Sg) : Prop := S.2.2.1.1 = T.2.2.1.1 ∧ alR (mk1 S.2.2.1.2.1 S.2.2.1.2.2.1 S.2.2.1.2.2.2 T.2.2.1.2.1 T.2.2.1.2.2.1 T.2.2.1.2.2.2) 0 S.2.2.1.1 = true
abbrev lkM (S T : Sg) : Prop := S.2.2.2.1.1 = T.2.2.2.1.1 ∧ alR (mk1 S.2.2.2.1.2.1 S.2.2.2.1.2.2.1 S.2.2.2.1.2.2.2 T.2.2.2.1.2.1 T.2.2.2.1.2.2.1 T.2.2.2.1.2.2.2) 0 S.2.2.2.1.1 = true
abbrev lkL (S T : Sg) : Prop := S.2.2.2.2.1 = T.2.2.2.2.1 ∧ S.2.2.2.2.2.1 = T.2.2.2.2.2.1 ∧ S.2.2.2.2.2.2 = T.2.2.2.2.2.2
abbrev lkS (S T : Sg) : Prop := lkN S T ∧ lkT S T ∧ lkP S T ∧ lkM S T ∧ lkL S T
section
variable {d : Nat} {h : aHf} {r : Nat × Nat × Nat × Nat} {b o : Nat} {S T : Sg}
theorem mkOk_b {n : Nat} {P A B : Nat → Nat} (hM : mkOk n P A B) : (∀ i, P i < 2147483648) ∧ (∀ i, A i < 2147483648) ∧ (∀ i, B i < 2147483648) :=
  ⟨fun i => by have := hM.2.2.2.2.1 i; omega, fun i => by have := hM.2.2.2.2.2.1 i; omega, fun i => by have := hM.2.2.2.2.2.2 i; omega⟩
theorem s_slike (hI : sgI h b S) (hJ : sgI h o T) (hS : sgOk S) (hT : sgOk T) : aE (d + 4) 167 [.ref b, .ref o] (h, r) = some (.inl (some (.int (bI (lkS S T)))), (h, r)) := by
  obtain ⟨a1, a2, a3, a4, a5, a6, a7, a8, a9, a10, a11⟩ := hS
  obtain ⟨b1, b2, b3, b4, b5, b6, b7, b8, b9, b10, b11⟩ := hT
  have g1 := s_nlike (d := d) (r := r) (sgI_nl hI).1 (sgI_nl hI).2 (sgI_nl hJ).1 (sgI_nl hJ).2 a1 b1 a2 b2
  have g2 := s_tlike (d := d) (r := r) (sgI_ts hI) (sgI_ts hJ) a3 a4 a5 b3 b4 b5
  have g3 := s_mlike (d := d) (r := r) (sgI_sp hI) (sgI_sp hJ) a6.2.1 b6.2.1 (mkOk_b a6).1 (mkOk_b a6).2.1 (mkOk_b a6).2.2 (mkOk_b b6).1 (mkOk_b b6).2.1 (mkOk_b b6).2.2
  have g4 := s_mlike (d := d) (r := r) (sgI_mt hI) (sgI_mt hJ) a7.2.1 b7.2.1 (mkOk_b a7).1 (mkOk_b a7).2.1 (mkOk_b a7).2.2 (mkOk_b b7).1 (mkOk_b b7).2.1 (mkOk_b b7).2.2
  have g5 := s_llike (d := d + 2) (r := r) (sgI_lp hI) (sgI_lp hJ) a9 a10 a11 b9 b10 b11
  simp only [e167, r167_0, r167_1, r167_4, r167_5, r167_8, r167_11, r167_14, r167_15, r167_18, r167_19, r167_22, r167_25, r167_28, r167_29, r167_32, r167_35, r167_36, r167_39, r167_42, r167_45, r167_48, r167_49, r167_52, r167_55, r167_56, r167_59, r167_62, r167_65, r167_68, r167_69, r167_72, r167_73, r167_76, r167_79, r167_82, r167_83, r167_86, r167_87, sgI_o hI, sgI_o hJ, (sgI_nl hI).1, (sgI_ts hI).1, sgI_7 hI, sgI_7 hJ, (sgI_sp hI).1, sgI_12 hI, sgI_12 hJ, (sgI_mt hI).1, sgI_lp hI, g1, g2, g3, g4, g5, kl_n, kl_i, kl_r, kl_z, kl_l, kl_d, catS_0, catS_c, cat_i, cat_l, cat_d, cat_r, cat_n, kC_r, kC_x, Option.bind_some, Option.toList_some, Option.toList_none, List.cons_append, List.nil_append, gB0, gB1, gB2, gB3, gB4, rvB, nI_iI, i0, i1, l0_, wr_s, aup_s, and_true, true_and, and_self, eq_self, if_true, if_false, Nat.zero_le, Nat.reduceAdd, Nat.reduceLeDiff, gN_I, gN_L, gN_P, bI_0, bI_ok, z0, z1, Bool.true_eq, Bool.false_eq_true, not_true_eq_false, not_false_eq_true]
  by_cases q1 : lkN S T
  · by_cases q2 : lkT S T
    · by_cases q3 : lkP S T
      · by_cases q4 : lkM S T
        · by_cases q5 : lkL S T
          · rw [if_neg (fun z => z q1), if_neg (fun z => z q2), if_neg (fun z => z q3), if_neg (fun z => z q4), if_neg (fun z => z q5)]
            exact fin_T ⟨q1, q2, q3, q4, q5⟩
          · rw [if_neg (fun z => z q1), if_neg (fun z => z q2), if_neg (fun z => z q3), if_neg (fun z => z q4), if_pos q5]
            exact fin_F (fun z => q5 z.2.2.2.2)
        · rw [if_neg (fun z => z q1), if_neg (fun z => z q2), if_neg (fun z => z q3), if_pos q4]
          exact fin_F (fun z => q4 z.2.2.2.1)
      · rw [if_neg (fun z => z q1), if_neg (fun z => z q2), if_pos q3]
        exact fin_F (fun z => q3 z.2.2.1)
    · rw [if_neg (fun z => z q1), if_pos q2]
      exact fin_F (fun z => q2 z.2.1)
  · rw [if_pos q1]
    exact fin_F (fun z => q1 z.1)
theorem sgI_keep (hJ : sgI h o T) (ho : o + 18 ≤ b ∨ b + 18 ≤ o) : sgI (sgW h b S) o T := fun k hk => (rg_o (by omega)).trans (hJ k hk)
theorem s_stake (hJ : sgI h o T) (ho : o + 18 ≤ b ∨ b + 18 ≤ o) (hT : sgOk T) : aE (d + 4) 168 [.ref b, .ref o] (sgW h b S, r) = some (.inl none, (sgW h b (tkS S T), r)) := by
  obtain ⟨b1, b2, b3, b4, b5, b6, b7, b8, b9, b10, b11⟩ := hT
  have hK := fun S : Sg => sgI_keep (S := S) hJ ho
  have g1 : ∀ S : Sg, aE (d + 3) 141 [.ref (b + 1), .ref (o + 1)] (sgW h b S, r) = some (.inl none, (sgW h b ((T.1.1, mixN S.1.2 T.1.2 T.1.1), S.2), r)) := fun S => by
    have e := s_ntake (d := d) (a := b + 1) (n := S.1.1) (F := S.1.2) (r := r) (h := sgW h b S) (sgI_nl (hK S)).1 (sgI_nl (hK S)).2 b1 (by omega) (by omega) (by omega)
    rw [sg_nl, sg_nl] at e
    exact e
  have g2 : ∀ S : Sg, aE (d + 3) 176 [.ref (b + 3), .ref (o + 3)] (sgW h b S, r) = some (.inl none, (sgW h b (S.1, (mixN S.2.1.1 T.2.1.1 6, mixI S.2.1.2.1 T.2.1.2.1 6, mixI S.2.1.2.2 T.2.1.2.2 6), S.2.2), r)) := fun S => by
    have e := s_ttake (d := d) (a := b + 3) (M := S.2.1.1) (S := S.2.1.2.1) (D := S.2.1.2.2) (r := r) (h := sgW h b S) (sgI_ts (hK S)) (by omega)
    rw [sg_ts, sg_ts] at e
    exact e
  have g3 : ∀ S : Sg, aE (d + 3) 120 [.ref (b + 7 + 1), .ref (o + 7 + 1)] (sgW h b S, r) = some (.inl none, (sgW h b (S.1, S.2.1, (T.2.2.1.1, mixN S.2.2.1.2.1 T.2.2.1.2.1 T.2.2.1.1, mixN S.2.2.1.2.2.1 T.2.2.1.2.2.1 T.2.2.1.1, mixN S.2.2.1.2.2.2 T.2.2.1.2.2.2 T.2.2.1.1), S.2.2.2), r)) := fun S => by
    have e := s_mtake (d := d) (a := b + 7 + 1) (n := S.2.2.1.1) (P := S.2.2.1.2.1) (A := S.2.2.1.2.2.1) (B := S.2.2.1.2.2.2) (r := r) (h := sgW h b S) (sgI_sp (hK S)) b6.2.1 (by omega)
    rw [sg_sp, sg_sp] at e
    exact e
  have g4 : ∀ S : Sg, aE (d + 3) 120 [.ref (b + 12 + 1), .ref (o + 12 + 1)] (sgW h b S, r) = some (.inl none, (sgW h b (S.1, S.2.1, S.2.2.1, (T.2.2.2.1.1, mixN S.2.2.2.1.2.1 T.2.2.2.1.2.1 T.2.2.2.1.1, mixN S.2.2.2.1.2.2.1 T.2.2.2.1.2.2.1 T.2.2.2.1.1, mixN S.2.2.2.1.2.2.2 T.2.2.2.1.2.2.2 T.2.2.2.1.1), S.2.2.2.2), r)) := fun S => by
    have e := s_mtake (d := d) (a := b + 12 + 1) (n := S.2.2.2.1.1) (P := S.2.2.2.1.2.1) (A := S.2.2.2.1.2.2.1) (B := S.2.2.2.1.2.2.2) (r := r) (h := sgW h b S) (sgI_mt (hK S)) b7.2.1 (by omega)
    rw [sg_mt, sg_mt] at e
    exact e
  have g5 : ∀ S : Sg, aE (d + 3) 113 [.ref (b + 17), .int (iI T.2.2.2.2.1), .int (iI T.2.2.2.2.2.1), .int (iI T.2.2.2.2.2.2)] (sgW h b S, r) = some (.inl none, (sgW h b (S.1, S.2.1, S.2.2.1, S.2.2.2.1, (if T.2.2.2.2.2.2 = 0 then 0 else T.2.2.2.2.1, if T.2.2.2.2.2.2 = 0 then 0 else T.2.2.2.2.2.1, T.2.2.2.2.2.2)), r)) := fun S => by
    have e := s_lput (d := d + 2) (r := r) (f' := T.2.2.2.2.1) (t' := T.2.2.2.2.2.1) (x' := T.2.2.2.2.2.2) (sgI_lp (sg_I (h := h) (b := b) (S := S))) (by omega)
    rw [sg_lp] at e
    exact e
  have k0 := fun S : Sg => sgI_o (sg_I (h := h) (b := b) (S := S))
  have k1 := fun S : Sg => (sgI_nl (sg_I (h := h) (b := b) (S := S))).1
  have k2 := fun S : Sg => (sgI_ts (sg_I (h := h) (b := b) (S := S))).1
  have k3 := fun S : Sg => sgI_7 (sg_I (h := h) (b := b) (S := S))
  have k4 := fun S : Sg => (sgI_sp (sg_I (h := h) (b := b) (S := S))).1
  have k5 := fun S : Sg => sgI_12 (sg_I (h := h) (b := b) (S := S))
  have k6 := fun S : Sg => (sgI_mt (sg_I (h := h) (b := b) (S := S))).1
  have k7 := fun S : Sg => sgI_lp (sg_I (h := h) (b := b) (S := S))
  have j0 := fun S : Sg => sgI_o (hK S)
  have j3 := fun S : Sg => sgI_7 (hK S)
  have j5 := fun S : Sg => sgI_12 (hK S)
  have j7 := fun S : Sg => sgI_lp (hK S)
  simp only [e168, r168_0, r168_1, r168_4, r168_5, r168_8, r168_11, r168_12, r168_15, r168_16, r168_19, r168_22, r168_23, r168_26, r168_29, r168_30, r168_33, r168_36, r168_39, r168_40, r168_43, r168_46, r168_47, r168_50, r168_53, r168_56, r168_57, r168_60, r168_61, r168_64, r168_67, r168_68, r168_71, r168_74, r168_75, r168_78, r168_81, r168_84, k0, k1, k2, k3, k4, k5, k6, k7, j0, j3, j5, j7, g1, g2, g3, g4, g5, kl_n, kl_i, kl_r, kl_z, kl_l, kl_d, catS_0, catS_c, cat_i, cat_l, cat_d, cat_r, cat_n, kC_r, kC_x, Option.bind_some, Option.toList_some, Option.toList_none, List.cons_append, List.nil_append, gB0, gB1, gB2, gB3, gB4, rvB, nI_iI, i0, i1, l0_, wr_s, aup_s, and_true, true_and, and_self, eq_self, if_true, if_false, Nat.zero_le, Nat.reduceAdd, Nat.reduceLeDiff, gN_I, gN_L, gN_P, bI_0, bI_ok, z0, z1, Bool.true_eq, Bool.false_eq_true, not_true_eq_false, not_false_eq_true]
  rfl
end
