/-! ===== a song as the document has it ===== -/
abbrev mtOk (n : Nat) (Q B : Nat → Nat) : Prop := ∀ i, i < n → 0 < Q i ∧ Q i ≤ 16 ∧ 0 < B i ∧ B i ≤ 16
def sgG (S : Sg) : Prop := sgOk S ∧ (∀ i, i < S.1.1 → cT (S.1.2 i) ≤ 5 ∧ cS (S.1.2 i) ≤ 9599 ∧ (1 ≤ cL (S.1.2 i) ∧ cL (S.1.2 i) ≤ 960) ∧ 1 ≤ cF (S.1.2 i)) ∧ sor S.1.2 0 S.1.1 ∧
  (∀ i, i < S.2.2.1.1 → 200 ≤ S.2.2.1.2.2.1 i ∧ S.2.2.1.2.2.2 i = 0) ∧ (mtOk S.2.2.2.1.1 S.2.2.2.1.2.2.1 S.2.2.2.1.2.2.2 ∧ ∀ i, i < S.2.2.2.1.1 → S.2.2.2.1.2.1 i ≤ 99) ∧
  (if S.2.2.2.2.2.2 = 0 then S.2.2.2.2.1 = 0 ∧ S.2.2.2.2.2.1 = 0 else S.2.2.2.2.1 < S.2.2.2.2.2.1)
theorem iI_inj {a b : Int} (h : iI a = iI b) (h1 : -2147483648 ≤ a) (h2 : a < 2147483648) (h3 : -2147483648 ≤ b) (h4 : b < 2147483648) : a = b := by
  have e := iI_eq h1 h2 h3 h4
  rw [h] at e
  exact e.mp rfl
theorem iN_inj {a b : Nat} (h : iI (a : Int) = iI (b : Int)) (h2 : a < 2147483648) (h4 : b < 2147483648) : a = b := by
  have := iI_inj h (by omega) (by omega) (by omega) (by omega)
  omega
theorem code_ext {c e : Nat} (hc : cOk c) (he : cOk e) (h : ∀ j, j < 5 → cFact c j = cFact e j) : c = e := by
  have h0 : cT c = cT e := h 0 (by omega)
  have h1 : cS c = cS e := h 1 (by omega)
  have h2 : cL c = cL e := h 2 (by omega)
  have h3 : cP c = cP e := h 3 (by omega)
  have h4 : cF c = cF e := h 4 (by omega)
  unfold cT at h0
  unfold cS at h1
  unfold cL at h2
  unfold cP at h3
  unfold cF at h4
  omega
def alN (P : Nat → Prop) (F : Nat → Nat) (m : Nat) : Prop := ∀ i, i < m → P (F i)
theorem sk_lo {F : Nat → Nat} {c : Nat} : ∀ {k}, sor F 0 k → ∀ i, i < sk F c k → F i ≤ c
  | 0, _, i, h => absurd h (Nat.not_lt_zero i)
  | k + 1, hs, i, h => by
    unfold sk at h
    by_cases q : c < F k
    · rw [if_pos q] at h
      exact sk_lo (sor_m hs (Nat.le_refl _) (by omega)) i h
    · by_cases e : i = k
      · rw [e]
        omega
      · rw [if_neg q] at h
        have := hs i k (Nat.zero_le _) (by omega) (by omega)
        omega
theorem sk_hi {F : Nat → Nat} {c : Nat} : ∀ {k} i, sk F c k ≤ i → i < k → c < F i
  | 0, i, _, h => absurd h (Nat.not_lt_zero i)
  | k + 1, i, h1, h2 => by
    unfold sk at h1
    by_cases q : c < F k
    · rw [if_pos q] at h1
      by_cases e : i = k
      · rw [e]
        exact q
      · exact sk_hi i h1 (by omega)
    · rw [if_neg q] at h1
      omega
theorem ins_sor {F : Nat → Nat} {c m : Nat} (h : sor F 0 m) : sor (insN F (sk F c m) m c) 0 (m + 1) := by
  have hp := sk_le F c m
  intro i j _ hij hj
  unfold insN
  by_cases e1 : i = sk F c m
  · rw [if_pos e1, if_neg (by omega), if_pos (by omega)]
    exact Nat.le_of_lt (sk_hi (k := m) (j - 1) (by omega) (by omega))
  · rw [if_neg e1]
    by_cases e2 : sk F c m < i ∧ i ≤ m
    · rw [if_pos e2, if_neg (by omega), if_pos (by omega)]
      exact h (i - 1) (j - 1) (Nat.zero_le _) (by omega) (by omega)
    · rw [if_neg e2]
      by_cases e3 : j = sk F c m
      · rw [if_pos e3]
        exact sk_lo h i (by omega)
      · rw [if_neg e3]
        by_cases e4 : sk F c m < j ∧ j ≤ m
        · rw [if_pos e4]
          by_cases e5 : i = j - 1
          · omega
          · exact h i (j - 1) (Nat.zero_le _) (by omega) (by omega)
        · rw [if_neg e4]
          exact h i j (Nat.zero_le _) hij (by omega)
theorem ins_al {P : Nat → Prop} {F : Nat → Nat} {p m k c : Nat} (h : alN P F m) (hc : P c) (hp : p ≤ k) (hk : k ≤ m) : alN P (insN F p k c) (k + 1) := fun i hi => by
  unfold insN
  split
  · exact hc
  · split
    · exact h _ (by omega)
    · rename_i q1 q2
      have e : i ≤ p := by
        by_cases e : i ≤ p
        · exact e
        · exact absurd ⟨by omega, by omega⟩ q2
      exact h i (by omega)
theorem dl_sor {F : Nat → Nat} {p m : Nat} (h : sor F 0 m) (hp : p < m) : sor (dlN F p (m - 1)) 0 (m - 1) := by
  intro i j _ hij hj
  unfold dlN
  by_cases e1 : p ≤ i ∧ i < m - 1
  · rw [if_pos e1, if_pos (by omega)]
    exact h (i + 1) (j + 1) (Nat.zero_le _) (by omega) (by omega)
  · rw [if_neg e1]
    by_cases e2 : p ≤ j ∧ j < m - 1
    · rw [if_pos e2]
      exact h i (j + 1) (Nat.zero_le _) (by omega) (by omega)
    · rw [if_neg e2]
      exact h i j (Nat.zero_le _) hij (by omega)
theorem dl_al {P : Nat → Prop} {F : Nat → Nat} {p m : Nat} (h : alN P F m) : alN P (dlN F p (m - 1)) (m - 1) := fun i hi => by
  unfold dlN
  split
  · exact h _ (by omega)
  · exact h _ (by omega)
theorem srt_sor (F : Nat → Nat) : ∀ k, sor (srtN F k) 0 k
  | 0 => sor_s (by omega)
  | k + 1 => ins_sor (srt_sor F k)
theorem srt_al {P : Nat → Prop} {F : Nat → Nat} {m : Nat} (h : alN P F m) : ∀ k, k ≤ m → alN P (srtN F k) m
  | 0, _ => h
  | k + 1, hk => fun i hi => by
    have ih := srt_al h k (by omega)
    show P (insN (srtN F k) _ k (srtN F k k) i)
    unfold insN
    split
    · exact ih k (by omega)
    · split
      · exact ih _ (by omega)
      · exact ih i hi
theorem map_al {P : Nat → Prop} {F gg : Nat → Nat} {m : Nat} (h : ∀ i, i < m → P (gg (F i))) : alN P (mapN F gg m) m := fun i hi => by
  unfold mapN
  rw [if_pos hi]
  exact h i hi
def ntV (c : Nat) : Prop := cT c ≤ 5 ∧ cS c ≤ 9599 ∧ (1 ≤ cL c ∧ cL c ≤ 960) ∧ 1 ≤ cF c
theorem sg_notes {S : Sg} {m : Nat} {F : Nat → Nat} (hS : sgG S) (hm : m ≤ 60) (hF : ∀ i, cOk (F i)) (hV : alN ntV F m) (hs : sor F 0 m) : sgG ((m, F), S.2) :=
  ⟨⟨hm, hF, hS.1.2.2⟩, hV, hs, hS.2.2.2⟩
theorem tkS_lk {S T : Sg} (hc : T.2.2.2.2.2.2 = 0 → T.2.2.2.2.1 = 0 ∧ T.2.2.2.2.2.1 = 0) : lkS T (tkS S T) := by
  have m1 : ∀ (F G : Nat → Nat) (m i : Nat), i < m → mixN F G m i = G i := fun F G m i h => if_pos h
  have m2 : ∀ (F G : Nat → Int) (m i : Nat), i < m → mixI F G m i = G i := fun F G m i h => if_pos h
  refine ⟨⟨rfl, (alR_0 _ _).mpr (fun i hi => beq_iff_eq.mpr (m1 _ _ _ _ hi).symm)⟩, (alR_0 _ _).mpr (fun i hi => ?_), ⟨rfl, (alR_0 _ _).mpr (fun i hi => ?_)⟩, ⟨rfl, (alR_0 _ _).mpr (fun i hi => ?_)⟩, ?_, ?_, rfl⟩
  · unfold ts1
    rw [Bool.and_eq_true, Bool.and_eq_true, beq_iff_eq, beq_iff_eq, beq_iff_eq]
    exact ⟨(m1 _ _ _ _ hi).symm, (m2 _ _ _ _ hi).symm, (m2 _ _ _ _ hi).symm⟩
  · unfold mk1
    rw [Bool.and_eq_true, Bool.and_eq_true, beq_iff_eq, beq_iff_eq, beq_iff_eq]
    exact ⟨(m1 _ _ _ _ hi).symm, (m1 _ _ _ _ hi).symm, (m1 _ _ _ _ hi).symm⟩
  · unfold mk1
    rw [Bool.and_eq_true, Bool.and_eq_true, beq_iff_eq, beq_iff_eq, beq_iff_eq]
    exact ⟨(m1 _ _ _ _ hi).symm, (m1 _ _ _ _ hi).symm, (m1 _ _ _ _ hi).symm⟩
  · show T.2.2.2.2.1 = if T.2.2.2.2.2.2 = 0 then 0 else T.2.2.2.2.1
    split
    · exact (hc (by assumption)).1
    · rfl
  · show T.2.2.2.2.2.1 = if T.2.2.2.2.2.2 = 0 then 0 else T.2.2.2.2.2.1
    split
    · exact (hc (by assumption)).2
    · rfl
theorem alN_e {P : Nat → Prop} {F G : Nat → Nat} {m : Nat} (h : alN P F m) (e : ∀ i, i < m → G i = F i) : alN P G m := fun i hi => by
  rw [e i hi]
  exact h i hi
theorem lk_n {S T : Sg} (h : lkS S T) : ∀ i, i < S.1.1 → T.1.2 i = S.1.2 i := fun i hi => (beq_iff_eq.mp ((alR_0 _ _).mp h.1.2 i hi)).symm
theorem lk_t {S T : Sg} (h : lkS S T) : ∀ i, i < 6 → T.2.1.1 i = S.2.1.1 i ∧ T.2.1.2.1 i = S.2.1.2.1 i ∧ T.2.1.2.2 i = S.2.1.2.2 i := fun i hi => by
  have z := (alR_0 _ _).mp h.2.1 i hi
  unfold ts1 at z
  rw [Bool.and_eq_true, Bool.and_eq_true, beq_iff_eq, beq_iff_eq, beq_iff_eq] at z
  exact ⟨z.1.symm, z.2.1.symm, z.2.2.symm⟩
theorem lk_p {S T : Sg} (h : lkS S T) : ∀ i, i < S.2.2.1.1 → T.2.2.1.2.1 i = S.2.2.1.2.1 i ∧ T.2.2.1.2.2.1 i = S.2.2.1.2.2.1 i ∧ T.2.2.1.2.2.2 i = S.2.2.1.2.2.2 i := fun i hi => by
  have z := (alR_0 _ _).mp h.2.2.1.2 i hi
  unfold mk1 at z
  rw [Bool.and_eq_true, Bool.and_eq_true, beq_iff_eq, beq_iff_eq, beq_iff_eq] at z
  exact ⟨z.1.symm, z.2.1.symm, z.2.2.symm⟩
theorem lk_m {S T : Sg} (h : lkS S T) : ∀ i, i < S.2.2.2.1.1 → T.2.2.2.1.2.1 i = S.2.2.2.1.2.1 i ∧ T.2.2.2.1.2.2.1 i = S.2.2.2.1.2.2.1 i ∧ T.2.2.2.1.2.2.2 i = S.2.2.2.1.2.2.2 i := fun i hi => by
  have z := (alR_0 _ _).mp h.2.2.2.1.2 i hi
  unfold mk1 at z
  rw [Bool.and_eq_true, Bool.and_eq_true, beq_iff_eq, beq_iff_eq, beq_iff_eq] at z
  exact ⟨z.1.symm, z.2.1.symm, z.2.2.symm⟩
theorem sgG_l {S T : Sg} (hS : sgG S) (hT : sgOk T) (h : lkS S T) : sgG T := by
  have n1 := lk_n h
  have p1 := lk_p h
  have m1 := lk_m h
  obtain ⟨⟨c1, -⟩, -, ⟨c2, -⟩, ⟨c3, -⟩, l1, l2, l3⟩ := h
  obtain ⟨-, g1, g2, g3, ⟨g4, g5⟩, g6⟩ := hS
  refine ⟨hT, fun i hi => ?_, ?_, fun i hi => ?_, ⟨fun i hi => ?_, fun i hi => ?_⟩, ?_⟩
  · rw [n1 i (by omega)]
    exact g1 i (by omega)
  · rw [← c1]
    exact sor_e g2 (fun i _ hi => n1 i hi)
  · rw [(p1 i (by omega)).2.1, (p1 i (by omega)).2.2]
    exact g3 i (by omega)
  · rw [(m1 i (by omega)).2.1, (m1 i (by omega)).2.2]
    exact g4 i (by omega)
  · rw [(m1 i (by omega)).1]
    exact g5 i (by omega)
  · rw [← l1, ← l2, ← l3]
    exact g6
theorem mixN_a {F G : Nat → Nat} {m : Nat} {P : Nat → Prop} (hF : ∀ i, P (F i)) (hG : ∀ i, P (G i)) : ∀ i, P (mixN F G m i) := fun i => by
  unfold mixN
  split
  · exact hG i
  · exact hF i
theorem mixI_a {F G : Nat → Int} {m : Nat} {P : Int → Prop} (hF : ∀ i, P (F i)) (hG : ∀ i, P (G i)) : ∀ i, P (mixI F G m i) := fun i => by
  unfold mixI
  split
  · exact hG i
  · exact hF i
theorem mkOk_t {n n' : Nat} {P A B P' A' B' : Nat → Nat} (h : mkOk n P A B) (h' : mkOk n' P' A' B') : mkOk n' (mixN P P' n') (mixN A A' n') (mixN B B' n') := by
  obtain ⟨a1, a2, a3, a4, a5, a6, a7⟩ := h
  obtain ⟨b1, b2, b3, b4, b5, b6, b7⟩ := h'
  have m1 : ∀ (F G : Nat → Nat) (m i : Nat), i < m → mixN F G m i = G i := fun F G m i h => if_pos h
  refine ⟨b1, b2, by rw [m1 _ _ _ _ b1, b3], fun i hi => ?_, mixN_a (P := fun z => z ≤ 9599) a5 b5, mixN_a (P := fun z => z ≤ 3000) a6 b6, mixN_a (P := fun z => z ≤ 16) a7 b7⟩
  rw [m1 _ _ _ _ (by omega), m1 _ _ _ _ hi]
  exact b4 i hi
theorem tkS_ok {S T : Sg} (hS : sgOk S) (hT : sgOk T) : sgOk (tkS S T) := by
  obtain ⟨a1, a2, a3, a4, a5, a6, a7, a8, a9, a10, a11⟩ := hS
  obtain ⟨b1, b2, b3, b4, b5, b6, b7, b8, b9, b10, b11⟩ := hT
  refine ⟨b1, mixN_a (P := cOk) a2 b2, mixN_a (P := fun z => z < 4) a3 b3, mixI_a (P := fun z => -24 ≤ z ∧ z ≤ 24) a4 b4, mixI_a (P := fun z => -48 ≤ z ∧ z ≤ 48) a5 b5, mkOk_t a6 b6, mkOk_t a7 b7, mixN_a (P := fun z => z ≤ 16) a8 b8, ?_, ?_, b11⟩
  · show (if T.2.2.2.2.2.2 = 0 then 0 else T.2.2.2.2.1) ≤ 9600
    split <;> omega
  · show (if T.2.2.2.2.2.2 = 0 then 0 else T.2.2.2.2.2.1) ≤ 9600
    split <;> omega
theorem sgG_c {T : Sg} (h : sgG T) : T.2.2.2.2.2.2 = 0 → T.2.2.2.2.1 = 0 ∧ T.2.2.2.2.2.1 = 0 := fun z => by
  have g := h.2.2.2.2.2
  rw [if_pos z] at g
  exact g
theorem tkS_G {S T : Sg} (hS : sgOk S) (hT : sgG T) : sgG (tkS S T) := sgG_l hT (tkS_ok hS hT.1) (tkS_lk (sgG_c hT))
theorem tm_ok {S : Sg} (h : sgG S) : tmOk S.2.2.1 := by
  have n11 := h.1.2.2.2.2.2.1.2.1
  intro t ht
  have key : ∀ k, k ≤ S.2.2.1.1 → sm (tmT S.2.2.1.2.1 S.2.2.1.2.2.1 S.2.2.1.1 t) k ≤ k * 40960000 := by
    intro k
    induction k with
    | zero => exact fun _ => Nat.le_refl 0
    | succ k ih =>
      intro hk
      have i1 := ih (by omega)
      have v := (h.2.2.2.1 k (by omega)).1
      have e : sm (tmT S.2.2.1.2.1 S.2.2.1.2.2.1 S.2.2.1.1 t) (k + 1) = sm (tmT S.2.2.1.2.1 S.2.2.1.2.2.1 S.2.2.1.1 t) k + tmT S.2.2.1.2.1 S.2.2.1.2.2.1 S.2.2.1.1 t k := rfl
      have le : tmT S.2.2.1.2.1 S.2.2.1.2.2.1 S.2.2.1.1 t k ≤ 40960000 := by
        unfold tmT
        split
        · have l1 := tmTo_le S.2.2.1.2.1 S.2.2.1.1 t k
          have l2 : (tmTo S.2.2.1.2.1 S.2.2.1.1 t k - S.2.2.1.2.1 k) * 62500 ≤ 131072 * 62500 := Nat.mul_le_mul_right _ (by omega)
          exact Nat.le_trans (Nat.div_le_div_left v (by omega)) (by omega)
        · omega
      omega
  have := key S.2.2.1.1 (Nat.le_refl _)
  omega
theorem dlN_i {F : Nat → Nat} {p k i : Nat} (h : p ≤ i ∧ i < k) : dlN F p k i = F (i + 1) := if_pos h
theorem dlN_o {F : Nat → Nat} {p k i : Nat} (h : ¬ (p ≤ i ∧ i < k)) : dlN F p k i = F i := if_neg h
theorem inN_p {F : Nat → Nat} {p k c : Nat} : insN F p k c p = c := if_pos rfl
theorem inN_i {F : Nat → Nat} {p k c i : Nat} (h1 : p < i) (h2 : i ≤ k) : insN F p k c i = F (i - 1) := by
  unfold insN
  rw [if_neg (by omega), if_pos ⟨h1, h2⟩]
theorem inN_o {F : Nat → Nat} {p k c i : Nat} (h : i < p) : insN F p k c i = F i := by
  unfold insN
  rw [if_neg (by omega), if_neg (by omega)]
theorem lu_hi {P : Nat → Nat} {v : Nat} : ∀ {k i : Nat}, lu P v k < i → i < k → v < P i
  | 0, i, _, h => absurd h (Nat.not_lt_zero i)
  | k + 1, i, h1, h2 => by
    unfold lu at h1
    by_cases q : P k ≤ v
    · rw [if_pos q] at h1
      omega
    · rw [if_neg q] at h1
      by_cases e : i = k
      · rw [e]
        omega
      · exact lu_hi h1 (by omega)
theorem inc_lt {P : Nat → Nat} {n : Nat} (h : ∀ i, i + 1 < n → P i < P (i + 1)) : ∀ s i, i + s + 1 < n → P i < P (i + s + 1)
  | 0, i, hi => h i hi
  | s + 1, i, hi => Nat.lt_trans (inc_lt h s i (by omega)) (h (i + s + 1) (by omega))
theorem inc {P : Nat → Nat} {n i j : Nat} (h : ∀ i, i + 1 < n → P i < P (i + 1)) (hij : i < j) (hj : j < n) : P i < P j := by
  have z := inc_lt h (j - i - 1) i (by omega)
  rw [show i + (j - i - 1) + 1 = j by omega] at z
  exact z
section
variable {V : MKv} {v y z : Nat} {S : Sg}
def luK (V : MKv) (v : Nat) : Nat := if V.2.1 (lu V.2.1 v V.1) = v then lu V.2.1 v V.1 else lu V.2.1 v V.1 + 1
theorem luK_k (hM : mkOk V.1 V.2.1 V.2.2.1 V.2.2.2) : luK V v ≤ V.1 ∧ (∀ i, i < luK V v → V.2.1 i < v) ∧ (luK V v = V.1 ∨ v ≤ V.2.1 (luK V v)) ∧ ((luK V v < V.1 ∧ V.2.1 (luK V v) = v) ↔ V.2.1 (lu V.2.1 v V.1) = v) := by
  obtain ⟨m1, m2, m3, m4, m5, m6, m7⟩ := hM
  have g1 := lu_lt V.2.1 v m1
  have g2 := lu_le (P := V.2.1) (v := v) (by omega) V.1
  unfold luK
  by_cases q : V.2.1 (lu V.2.1 v V.1) = v
  · rw [if_pos q]
    refine ⟨by omega, fun i hi => ?_, Or.inr (by omega), ⟨fun z => z.2, fun z => ⟨g1, z⟩⟩⟩
    have := inc m4 hi g1
    omega
  · rw [if_neg q]
    refine ⟨by omega, fun i hi => ?_, ?_, ⟨fun z => ?_, fun z => absurd z q⟩⟩
    · by_cases e : i = lu V.2.1 v V.1
      · rw [e]
        omega
      · have := inc m4 (show i < lu V.2.1 v V.1 by omega) g1
        omega
    · by_cases e : lu V.2.1 v V.1 + 1 = V.1
      · exact Or.inl e
      · exact Or.inr (Nat.le_of_lt (lu_hi (k := V.1) (by omega) (by omega)))
    · have := lu_hi (P := V.2.1) (v := v) (k := V.1) (i := lu V.2.1 v V.1 + 1) (by omega) z.1
      omega
theorem mkD_ok (hM : mkOk V.1 V.2.1 V.2.2.1 V.2.2.2) (hc : 0 < v ∧ V.2.1 (lu V.2.1 v V.1) = v) : mkOk (mkD V v).1 (mkD V v).2.1 (mkD V v).2.2.1 (mkD V v).2.2.2 := by
  obtain ⟨m1, m2, m3, m4, m5, m6, m7⟩ := hM
  have g1 := lu_lt V.2.1 v m1
  have h0 : lu V.2.1 v V.1 ≠ 0 := fun e => by
    rw [e] at hc
    omega
  refine ⟨by show 0 < V.1 - 1; omega, by show V.1 - 1 ≤ 11; omega, ?_, fun i hi => ?_, dlN_ok (P := fun z => z ≤ 9599) m5, dlN_ok (P := fun z => z ≤ 3000) m6, dlN_ok (P := fun z => z ≤ 16) m7⟩
  · show dlN V.2.1 _ _ 0 = 0
    rw [dlN_o (by omega), m3]
  · have hi' : i + 1 < V.1 - 1 := hi
    show dlN V.2.1 _ _ i < dlN V.2.1 _ _ (i + 1)
    by_cases e : lu V.2.1 v V.1 ≤ i
    · rw [dlN_i ⟨e, by omega⟩, dlN_i ⟨by omega, by omega⟩]
      exact m4 _ (by omega)
    · rw [dlN_o (by omega)]
      by_cases e2 : lu V.2.1 v V.1 ≤ i + 1
      · rw [dlN_i ⟨e2, by omega⟩]
        exact inc m4 (by omega) (by omega)
      · rw [dlN_o (by omega)]
        exact m4 i (by omega)
theorem mkD_al {R : Nat → Nat → Nat → Prop} (h : ∀ i, i < V.1 → R (V.2.1 i) (V.2.2.1 i) (V.2.2.2 i)) : ∀ i, i < (mkD V v).1 → R ((mkD V v).2.1 i) ((mkD V v).2.2.1 i) ((mkD V v).2.2.2 i) := fun i hi => by
  have hi' : i < V.1 - 1 := hi
  show R (dlN _ _ _ i) (dlN _ _ _ i) (dlN _ _ _ i)
  by_cases e : lu V.2.1 v V.1 ≤ i
  · rw [dlN_i ⟨e, hi'⟩, dlN_i ⟨e, hi'⟩, dlN_i ⟨e, hi'⟩]
    exact h _ (by omega)
  · rw [dlN_o (fun z => e z.1), dlN_o (fun z => e z.1), dlN_o (fun z => e z.1)]
    exact h i (by omega)
theorem mkA_ok (hM : mkOk V.1 V.2.1 V.2.2.1 V.2.2.2) (hv : v ≤ 9599) (hy : y ≤ 3000) (hz : z ≤ 16) (hc : V.1 < 11 ∨ V.2.1 (lu V.2.1 v V.1) = v) : mkOk (mkA V v y z).1 (mkA V v y z).2.1 (mkA V v y z).2.2.1 (mkA V v y z).2.2.2 := by
  obtain ⟨m1, m2, m3, m4, m5, m6, m7⟩ := hM
  have g1 := lu_lt V.2.1 v m1
  have g2 := lu_le (P := V.2.1) (v := v) (by omega) V.1
  unfold mkA
  by_cases q : V.2.1 (lu V.2.1 v V.1) = v
  · rw [if_pos q]
    have e : upN V.2.1 (lu V.2.1 v V.1) v = V.2.1 := by
      funext i
      unfold upN
      split
      · rename_i e
        rw [e, q]
      · rfl
    dsimp only
    rw [e]
    exact ⟨m1, m2, m3, m4, m5, upN_ok (P := fun z => z ≤ 3000) hy m6, upN_ok (P := fun z => z ≤ 16) hz m7⟩
  · rw [if_neg q]
    have hn := hc.resolve_right q
    refine ⟨by show 0 < V.1 + 1; omega, by show V.1 + 1 ≤ 11; omega, ?_, fun i hi => ?_, insN_ok (P := fun z => z ≤ 9599) hv m5, insN_ok (P := fun z => z ≤ 3000) hy m6, insN_ok (P := fun z => z ≤ 16) hz m7⟩
    · dsimp only
      rw [inN_o (by omega), m3]
    · have hi' : i + 1 < V.1 + 1 := hi
      show insN V.2.1 _ _ _ i < insN V.2.1 _ _ _ (i + 1)
      by_cases e1 : i + 1 < lu V.2.1 v V.1 + 1
      · rw [inN_o (by omega), inN_o (by omega)]
        exact m4 i (by omega)
      · by_cases e2 : i + 1 = lu V.2.1 v V.1 + 1
        · rw [inN_o (by omega), e2, inN_p, show i = lu V.2.1 v V.1 by omega]
          omega
        · by_cases e3 : i = lu V.2.1 v V.1 + 1
          · rw [e3, inN_p, inN_i (by omega) (by omega)]
            exact lu_hi (k := V.1) (by omega) (by omega)
          · rw [inN_i (by omega) (by omega), inN_i (by omega) (by omega)]
            exact inc m4 (by omega) (by omega)
theorem mkA_al {R : Nat → Nat → Nat → Prop} (hM : mkOk V.1 V.2.1 V.2.2.1 V.2.2.2) (h : ∀ i, i < V.1 → R (V.2.1 i) (V.2.2.1 i) (V.2.2.2 i)) (hn : R v y z) : ∀ i, i < (mkA V v y z).1 → R ((mkA V v y z).2.1 i) ((mkA V v y z).2.2.1 i) ((mkA V v y z).2.2.2 i) := by
  have g1 := lu_lt V.2.1 v hM.1
  unfold mkA
  by_cases q : V.2.1 (lu V.2.1 v V.1) = v
  · rw [if_pos q]
    intro i hi
    have hi' : i < V.1 := hi
    show R (upN _ _ _ i) (upN _ _ _ i) (upN _ _ _ i)
    by_cases e : i = lu V.2.1 v V.1
    · rw [e, upN_at, upN_at, upN_at]
      exact hn
    · rw [upN_o e, upN_o e, upN_o e]
      exact h i hi'
  · rw [if_neg q]
    intro i hi
    have hi' : i < V.1 + 1 := hi
    show R (insN _ _ _ _ i) (insN _ _ _ _ i) (insN _ _ _ _ i)
    by_cases e1 : i < lu V.2.1 v V.1 + 1
    · rw [inN_o e1, inN_o e1, inN_o e1]
      exact h i (by omega)
    · by_cases e2 : i = lu V.2.1 v V.1 + 1
      · rw [e2, inN_p, inN_p, inN_p]
        exact hn
      · rw [inN_i (by omega) (by omega), inN_i (by omega) (by omega), inN_i (by omega) (by omega)]
        exact h _ (by omega)
theorem sgG_p {V : MKv} (h : sgG S) (hM : mkOk V.1 V.2.1 V.2.2.1 V.2.2.2) (ha : ∀ i, i < V.1 → 200 ≤ V.2.2.1 i ∧ V.2.2.2 i = 0) : sgG (S.1, S.2.1, V, S.2.2.2) := by
  obtain ⟨⟨a1, a2, a3, a4, a5, a6, a7⟩, g1, g2, g3, g4⟩ := h
  exact ⟨⟨a1, a2, a3, a4, a5, hM, a7⟩, g1, g2, ha, g4⟩
theorem sgG_m {V : MKv} (h : sgG S) (hM : mkOk V.1 V.2.1 V.2.2.1 V.2.2.2) (h16 : ∀ i, V.2.2.1 i ≤ 16) (ha : ∀ i, i < V.1 → V.2.1 i ≤ 99 ∧ (0 < V.2.2.1 i ∧ V.2.2.1 i ≤ 16 ∧ 0 < V.2.2.2 i ∧ V.2.2.2 i ≤ 16)) : sgG (S.1, S.2.1, S.2.2.1, V, S.2.2.2.2) := by
  obtain ⟨⟨a1, a2, a3, a4, a5, a6, a7, a8, a9⟩, g1, g2, g3, g4, g5⟩ := h
  exact ⟨⟨a1, a2, a3, a4, a5, a6, hM, h16, a9⟩, g1, g2, g3, ⟨fun i hi => (ha i hi).2, fun i hi => (ha i hi).1⟩, g5⟩
theorem sgG_pD (h : sgG S) (hc : 0 < v ∧ S.2.2.1.2.1 (lu S.2.2.1.2.1 v S.2.2.1.1) = v) : sgG (S.1, S.2.1, mkD S.2.2.1 v, S.2.2.2) :=
  sgG_p h (mkD_ok h.1.2.2.2.2.2.1 hc) (mkD_al (R := fun _ a b => 200 ≤ a ∧ b = 0) h.2.2.2.1)
theorem sgG_pA (h : sgG S) (hv : v ≤ 9599) (hy : 200 ≤ y ∧ y ≤ 3000) (hc : S.2.2.1.1 < 11 ∨ S.2.2.1.2.1 (lu S.2.2.1.2.1 v S.2.2.1.1) = v) : sgG (S.1, S.2.1, mkA S.2.2.1 v y 0, S.2.2.2) :=
  sgG_p h (mkA_ok h.1.2.2.2.2.2.1 hv hy.2 (by omega) hc) (mkA_al (R := fun _ a b => 200 ≤ a ∧ b = 0) h.1.2.2.2.2.2.1 h.2.2.2.1 ⟨hy.1, rfl⟩)
theorem sgG_mD (h : sgG S) (hc : 0 < v ∧ S.2.2.2.1.2.1 (lu S.2.2.2.1.2.1 v S.2.2.2.1.1) = v) : sgG (S.1, S.2.1, S.2.2.1, mkD S.2.2.2.1 v, S.2.2.2.2) :=
  sgG_m h (mkD_ok h.1.2.2.2.2.2.2.1 hc) (dlN_ok (P := fun z => z ≤ 16) h.1.2.2.2.2.2.2.2.1) (mkD_al (R := fun p a b => p ≤ 99 ∧ (0 < a ∧ a ≤ 16 ∧ 0 < b ∧ b ≤ 16)) (fun i hi => ⟨h.2.2.2.2.1.2 i hi, h.2.2.2.2.1.1 i hi⟩))
theorem sgG_mA (h : sgG S) (hv : v ≤ 99) (hy : 1 ≤ y ∧ y ≤ 16) (hz : 1 ≤ z ∧ z ≤ 16) (hc : S.2.2.2.1.1 < 11 ∨ S.2.2.2.1.2.1 (lu S.2.2.2.1.2.1 v S.2.2.2.1.1) = v) : sgG (S.1, S.2.1, S.2.2.1, mkA S.2.2.2.1 v y z, S.2.2.2.2) := by
  refine sgG_m h (mkA_ok h.1.2.2.2.2.2.2.1 (by omega) (by omega) hz.2 hc) ?_ (mkA_al (R := fun p a b => p ≤ 99 ∧ (0 < a ∧ a ≤ 16 ∧ 0 < b ∧ b ≤ 16)) h.1.2.2.2.2.2.2.1 (fun i hi => ⟨h.2.2.2.2.1.2 i hi, h.2.2.2.2.1.1 i hi⟩) ⟨hv, by omega⟩)
  unfold mkA
  split
  · exact upN_ok (P := fun z => z ≤ 16) hy.2 h.1.2.2.2.2.2.2.2.1
  · exact insN_ok (P := fun z => z ≤ 16) hy.2 h.1.2.2.2.2.2.2.2.1
end
theorem sgG_t {S : Sg} {T : TSv} (h : sgG S) (h1 : ∀ t, T.1 t < 4) (h2 : ∀ t, -24 ≤ T.2.1 t ∧ T.2.1 t ≤ 24) (h3 : ∀ t, -48 ≤ T.2.2 t ∧ T.2.2 t ≤ 48) : sgG (S.1, T, S.2.2) := ⟨⟨h.1.1, h.1.2.1, h1, h2, h3, h.1.2.2.2.2.2⟩, h.2⟩
theorem upI_a {P : Int → Prop} {F : Nat → Int} {k : Nat} {c : Int} (hc : P c) (hF : ∀ i, P (F i)) : ∀ i, P (upI F k c i) := fun i => by
  unfold upI
  split
  · exact hc
  · exact hF i
theorem u0 {c b i : Nat} (h : c ≤ b) : upN (fun _ => 0) 0 c i ≤ b := by
  unfold upN
  split
  · exact h
  · exact Nat.zero_le _
theorem S0_ok : sgOk S0 := by
  refine ⟨by decide, fun i => ?_, fun t => ?_, fun t => ?_, fun t => ?_, ⟨by decide, by decide, rfl, fun i hi => ?_, fun i => ?_, fun i => ?_, fun i => ?_⟩, ⟨by decide, by decide, rfl, fun i hi => ?_, fun i => ?_, fun i => ?_, fun i => ?_⟩, fun i => ?_, by decide, by decide, by decide⟩
  · show (0 : Nat) < 2199023255552
    omega
  · show (0 : Nat) < 4
    omega
  · show -24 ≤ (0 : Int) ∧ (0 : Int) ≤ 24
    omega
  · show -48 ≤ (0 : Int) ∧ (0 : Int) ≤ 48
    omega
  · have hi' : i + 1 < 1 := hi
    omega
  · exact u0 (by omega)
  · exact u0 (by omega)
  · exact u0 (by omega)
  · have hi' : i + 1 < 1 := hi
    omega
  · exact u0 (by omega)
  · exact u0 (by omega)
  · exact u0 (by omega)
  · exact u0 (by omega)
theorem S0_G : sgG S0 := by
  refine ⟨S0_ok, fun i hi => absurd hi (Nat.not_lt_zero i), sor_s (by show 0 ≤ 1; omega), fun i hi => ?_, ⟨fun i hi => ?_, fun i hi => ?_⟩, ?_⟩
  · have hi' : i < 1 := hi
    obtain rfl : i = 0 := by omega
    exact ⟨by decide, rfl⟩
  · have hi' : i < 1 := hi
    obtain rfl : i = 0 := by omega
    exact ⟨by decide, by decide, by decide, by decide⟩
  · have hi' : i < 1 := hi
    obtain rfl : i = 0 := by omega
    decide
  · show if (0 : Nat) = 0 then (0 : Nat) = 0 ∧ (0 : Nat) = 0 else _
    rw [if_pos rfl]
    exact ⟨rfl, rfl⟩
theorem sp1_T {c k : Nat} (hc : cOk c) (h1 : cS c < k) (h2 : k < cS c + cL c) : cT (sp1 c k) = cT c ∧ cS (sp1 c k) = cS c ∧ cL (sp1 c k) = k - cS c ∧ cP (sp1 c k) = cP c ∧ cF (sp1 c k) = cF c := by
  have a2 := cS_lt c
  have a3 := cL_lt c
  have a4 := cP_lt c
  have a5 := cF_lt c
  unfold sp1
  exact ⟨cT_O a2 a4 (by omega) a5, cS_O a2 a4 (by omega) a5, cL_O (by omega) a5, cP_O a4 (by omega) a5, cF_O a5⟩
theorem sp2_T {c k : Nat} (hc : cOk c) (h1 : cS c < k) (h2 : k < cS c + cL c) (h3 : k ≤ 9599) : cT (sp2 c k) = cT c ∧ cS (sp2 c k) = k ∧ cL (sp2 c k) = cS c + cL c - k ∧ cP (sp2 c k) = cP c ∧ cF (sp2 c k) = cF c := by
  have a2 := cS_lt c
  have a3 := cL_lt c
  have a4 := cP_lt c
  have a5 := cF_lt c
  unfold sp2
  exact ⟨cT_O (by omega) a4 (by omega) a5, cS_O (by omega) a4 (by omega) a5, cL_O (by omega) a5, cP_O a4 (by omega) a5, cF_O a5⟩
theorem tpG_f {t v u b : Int} {c : Nat} (hc : cOk c) (h : cIn c t v u) (hb : 0 ≤ (cP c : Int) + b ∧ (cP c : Int) + b ≤ 127) : cOk (tpG t v u b c) ∧ cT (tpG t v u b c) = cT c ∧ cS (tpG t v u b c) = cS c ∧ cL (tpG t v u b c) = cL c ∧ cP (tpG t v u b c) = ((cP c : Int) + b).toNat ∧ cF (tpG t v u b c) = cF c := by
  have a1 := cT_lt hc
  have a2 := cS_lt c
  have a3 := cL_lt c
  have a5 := cF_lt c
  unfold tpG
  rw [if_pos h]
  exact ⟨cO_ok a1 a2 (by omega) a3 a5, cT_O a2 (by omega) a3 a5, cS_O a2 (by omega) a3 a5, cL_O a3 a5, cP_O (by omega) a3 a5, cF_O a5⟩
theorem wgG_f {t v u : Int} {p c : Nat} (hc : cOk c) (h : cIn c t v u) : cT (wgG t v u p c) = cT c ∧ cS (wgG t v u p c) = cS c ∧ cL (wgG t v u p c) = cL c ∧ cP (wgG t v u p c) = cP c ∧ cF (wgG t v u p c) = max 1 (min 127 (cF c * p / 100)) := by
  have a1 := cT_lt hc
  have a2 := cS_lt c
  have a3 := cL_lt c
  have a4 := cP_lt c
  unfold wgG
  rw [if_pos h]
  generalize cF c * p / 100 = z
  exact ⟨cT_O a2 a4 a3 (by omega), cS_O a2 a4 a3 (by omega), cL_O a3 (by omega), cP_O a4 a3 (by omega), cF_O (by omega)⟩
theorem cbC_f {v : Int} {c : Nat} (hc : cOk c) (hv : 0 ≤ v) : cT (cbC v c) = cT c ∧ cS (cbC v c) = ((cS c : Int) - v).toNat ∧ cL (cbC v c) = cL c ∧ cP (cbC v c) = cP c ∧ cF (cbC v c) = cF c := by
  have a2 := cS_lt c
  have a3 := cL_lt c
  have a4 := cP_lt c
  have a5 := cF_lt c
  unfold cbC
  exact ⟨cT_O (by omega) a4 a3 a5, cS_O (by omega) a4 a3 a5, cL_O a3 a5, cP_O a4 a3 a5, cF_O a5⟩
theorem sm_hi {f : Nat → Nat} {b : Nat} : ∀ {m}, (∀ i, i < m → f i ≤ b) → sm f m ≤ m * b
  | 0, _ => Nat.zero_le _
  | m + 1, h => by
    have h1 := sm_hi (m := m) (fun i hi => h i (by omega))
    have h2 := h m (by omega)
    show sm f m + f m ≤ (m + 1) * b
    rw [Nat.succ_mul]
    omega
theorem sp1_n {c k : Nat} (h1 : cS c < k) (h2 : k < cS c + cL c) : sp1 c k ≤ c ∧ sp1 c k / 16777216 = c / 16777216 := by
  have a3 := cL_lt c
  unfold sp1
  obtain ⟨l, hl⟩ : ∃ l, l = k - cS c := ⟨_, rfl⟩
  rw [← hl]
  have : l ≤ cL c := by omega
  unfold cO cT cS cP cL cF at *
  omega
theorem psC_n {k c : Nat} (h : k + cS c ≤ 9599) : psC k c = c + k * 16777216 := by
  unfold psC
  unfold cO cT cS cP cL cF at *
  omega
theorem ps_1 {C F : Nat → Nat} {k m : Nat} : ∀ j, (psN C k j (m, F)).1 = m + cntP (ptP k) C j
  | 0 => rfl
  | j + 1 => by
    have ih := ps_1 (C := C) (F := F) (k := k) (m := m) j
    show (if k + cS (C j) ≤ 9599 then nlA (psN C k j (m, F)) (psC k (C j)) else psN C k j (m, F)).1 = m + cntP (ptP k) C (j + 1)
    by_cases q : k + cS (C j) ≤ 9599
    · rw [if_pos q, cntP_t (decide_eq_true q)]
      show (psN C k j (m, F)).1 + 1 = _
      omega
    · rw [if_neg q, cntP_f (fun z => q (of_decide_eq_true z))]
      exact ih
theorem sk_top {F : Nat → Nat} {c : Nat} : ∀ {k}, (∀ i, i < k → F i ≤ c) → sk F c k = k
  | 0, _ => rfl
  | k + 1, h => if_neg (by have := h k (by omega); omega)
def mpK (gg : Nat → Nat) (c : Nat) : Prop := gg c / 16777216 = c / 16777216
theorem c_key {c c' : Nat} (h : c / 16777216 = c' / 16777216) : cT c = cT c' ∧ cS c = cS c' := by
  unfold cT cS
  omega
theorem in_key {c c' : Nat} {t v u : Int} (h : c / 16777216 = c' / 16777216) : cIn c t v u ↔ cIn c' t v u := by
  obtain ⟨h1, h2⟩ := c_key h
  unfold cIn
  rw [h1, h2]
theorem tp_n {t v u b : Int} {c : Nat} (h : cIn c t v u) (hb : 0 ≤ (cP c : Int) + b ∧ (cP c : Int) + b ≤ 127) : (tpG t v u b c : Int) = c + b * 131072 := by
  unfold tpG
  rw [if_pos h]
  have e : ((((cP c : Int) + b).toNat : Nat) : Int) = (cP c : Int) + b := by omega
  generalize ((cP c : Int) + b).toNat = z at *
  unfold cO cT cS cP cL cF at *
  omega
theorem tp_k {t v u b : Int} {c : Nat} (hb : tpOk t v u b c) : mpK (tpG t v u b) c := by
  unfold mpK
  by_cases h : cIn c t v u
  · have e := tp_n h (hb h)
    have hb2 := hb h
    have e3 : (cP c : Int) = c / 131072 % 128 := by unfold cP; omega
    omega
  · unfold tpG
    rw [if_neg h]
theorem wg_n {t v u : Int} {p c : Nat} (h : cIn c t v u) : wgG t v u p c = c / 128 * 128 + max 1 (min 127 (cF c * p / 100)) := by
  unfold wgG
  rw [if_pos h]
  generalize max 1 (min 127 (cF c * p / 100)) = z
  unfold cO cT cS cP cL
  omega
theorem wg_k {t v u : Int} {p c : Nat} : mpK (wgG t v u p) c := by
  unfold mpK
  by_cases h : cIn c t v u
  · rw [wg_n h]
    have : max 1 (min 127 (cF c * p / 100)) ≤ 127 := by omega
    generalize max 1 (min 127 (cF c * p / 100)) = z at *
    omega
  · unfold wgG
    rw [if_neg h]
theorem qn_v {c D : Nat} (h : ntV c) (hc : cOk c) (hD : D ≤ 9599) : ntV ((cT c * 16384 + D) * 16777216 + c % 16777216) := by
  obtain ⟨h1, h2, h3, h4⟩ := h
  have e1 : cT ((cT c * 16384 + D) * 16777216 + c % 16777216) = cT c := by
    generalize cT c = T
    unfold cT
    omega
  have e2 : cS ((cT c * 16384 + D) * 16777216 + c % 16777216) = D := by
    generalize cT c = T
    unfold cS
    omega
  have e3 : cL ((cT c * 16384 + D) * 16777216 + c % 16777216) = cL c := by
    generalize cT c = T
    unfold cL
    omega
  have e4 : cF ((cT c * 16384 + D) * 16777216 + c % 16777216) = cF c := by
    generalize cT c = T
    unfold cF
    omega
  unfold ntV
  rw [e1, e2, e3, e4]
  exact ⟨h1, hD, h3, h4⟩
theorem qn_o {t v u : Int} {s p q c : Nat} (h : ¬ cIn c t v u) : qnG t v u s p q c = c := if_neg (fun z => h (of_decide_eq_true z).1)
