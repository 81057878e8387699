/-! ===== what is told of songs alike is alike ===== -/
theorem lk_tr {S T U : Sg} (h : lkS S T) (h' : lkS T U) : lkS S U := by
  have n1 := lk_n h
  have t1 := lk_t h
  have p1 := lk_p h
  have m1 := lk_m h
  have n2 := lk_n h'
  have t2 := lk_t h'
  have p2 := lk_p h'
  have m2 := lk_m h'
  obtain ⟨⟨c1, -⟩, -, ⟨c2, -⟩, ⟨c3, -⟩, l1, l2, l3⟩ := h
  obtain ⟨⟨e1, -⟩, -, ⟨e2, -⟩, ⟨e3, -⟩, k1, k2, k3⟩ := h'
  refine ⟨⟨c1.trans e1, (alR_0 _ _).mpr fun i hi => beq_iff_eq.mpr ((n2 i (by omega)).trans (n1 i hi)).symm⟩, (alR_0 _ _).mpr fun i hi => ?_, ⟨c2.trans e2, (alR_0 _ _).mpr fun i hi => ?_⟩, ⟨c3.trans e3, (alR_0 _ _).mpr fun i hi => ?_⟩, l1.trans k1, l2.trans k2, l3.trans k3⟩
  · unfold ts1
    rw [Bool.and_eq_true, Bool.and_eq_true, beq_iff_eq, beq_iff_eq, beq_iff_eq]
    obtain ⟨a1, a2, a3⟩ := t1 i hi
    obtain ⟨b1, b2, b3⟩ := t2 i hi
    exact ⟨(b1.trans a1).symm, (b2.trans a2).symm, (b3.trans a3).symm⟩
  · unfold mk1
    rw [Bool.and_eq_true, Bool.and_eq_true, beq_iff_eq, beq_iff_eq, beq_iff_eq]
    obtain ⟨a1, a2, a3⟩ := p1 i hi
    obtain ⟨b1, b2, b3⟩ := p2 i (by omega)
    exact ⟨(b1.trans a1).symm, (b2.trans a2).symm, (b3.trans a3).symm⟩
  · unfold mk1
    rw [Bool.and_eq_true, Bool.and_eq_true, beq_iff_eq, beq_iff_eq, beq_iff_eq]
    obtain ⟨a1, a2, a3⟩ := m1 i hi
    obtain ⟨b1, b2, b3⟩ := m2 i (by omega)
    exact ⟨(b1.trans a1).symm, (b2.trans a2).symm, (b3.trans a3).symm⟩
theorem adN_c {F G : Nat → Nat} {s : Int64} : ∀ k, (∀ i, i < k → F i = G i) → adN F k s = adN G k s
  | 0, _ => rfl
  | k + 1, h => by
    show adF (F k) 5 (adN F k s) = adF (G k) 5 (adN G k s)
    rw [h k (by omega), adN_c k (fun i hi => h i (by omega))]
theorem lu_c {P Q : Nat → Nat} {v : Nat} : ∀ n, (∀ i, i < n → P i = Q i) → lu P v n = lu Q v n
  | 0, _ => rfl
  | n + 1, h => by
    unfold lu
    rw [h n (by omega), lu_c n (fun i hi => h i (by omega))]
section
variable {n : Nat} {P A B P' A' B' : Nat → Nat}
theorem tm_c (hP : ∀ i, i < n → P i = P' i) (hA : ∀ i, i < n → A i = A' i) (t : Nat) : sm (tmT P A n t) n = sm (tmT P' A' n t) n := sm_congr (fun i hi => by
  unfold tmT tmTo
  rw [hP i hi, hA i hi]
  by_cases q : i + 1 < n
  · rw [if_pos q, if_pos q, hP (i + 1) q]
  · rw [if_neg q, if_neg q])
theorem bs_c (hP : ∀ i, i < n → P i = P' i) (hA : ∀ i, i < n → A i = A' i) (hB : ∀ i, i < n → B i = B' i) {k : Nat} (hk : k < n) : sm (bst P A B) k = sm (bst P' A' B') k := sm_congr (fun i hi => by
  unfold bst br bl
  rw [hP i (by omega), hP (i + 1) (by omega), hA i (by omega), hB i (by omega)])
theorem brl_c (hA : ∀ i, i < n → A i = A' i) (hB : ∀ i, i < n → B i = B' i) {k : Nat} (hk : k < n) : br A B k = br A' B' k ∧ bl B k = bl B' k := by
  unfold br bl
  rw [hA k hk, hB k hk]
  exact ⟨rfl, rfl⟩
theorem bAt_c (h0 : 0 < n) (hP : ∀ i, i < n → P i = P' i) (hA : ∀ i, i < n → A i = A' i) (hB : ∀ i, i < n → B i = B' i) (t : Nat) : bAt n P A B t = bAt n P' A' B' t ∧ btAt n P A B t = btAt n P' A' B' t := by
  have e := lu_c (v := t) n (fun k hk => bs_c hP hA hB hk)
  have hj := lu_lt (sm (bst P A B)) t h0
  unfold bAt btAt
  rw [← e]
  generalize lu (sm (bst P A B)) t n = j at *
  rw [hP j hj, bs_c hP hA hB hj, (brl_c hA hB hj).1, (brl_c hA hB hj).2]
  exact ⟨rfl, rfl⟩
theorem bSt_c (h0 : 0 < n) (hP : ∀ i, i < n → P i = P' i) (hA : ∀ i, i < n → A i = A' i) (hB : ∀ i, i < n → B i = B' i) (v : Nat) : bSt n P A B v = bSt n P' A' B' v := by
  have e := lu_c (v := v) n hP
  have hj := lu_lt P v h0
  unfold bSt
  rw [← e]
  generalize lu P v n = j at *
  rw [hP j hj, bs_c hP hA hB hj, (brl_c hA hB hj).1]
end
theorem hrd_c {M M' : Nat → Nat} (h : ∀ t, t < 6 → M t = M' t) {t : Nat} (ht : t < 6) : hrd M t ↔ hrd M' t := by
  have e : noAl M 0 6 = noAl M' 0 6 := by
    have key : noAl M 0 6 = true ↔ noAl M' 0 6 = true := by
      unfold noAl
      rw [alR_0, alR_0]
      exact ⟨fun z j hj => by rw [← h j hj]; exact z j hj, fun z j hj => by rw [h j hj]; exact z j hj⟩
    exact Bool.eq_iff_iff.mpr key
  unfold hrd
  rw [h t ht, e]
theorem evT_c {F G : Nat → Nat} {t : Nat} {s D : Int} {lp : LPv} {e : EV} : ∀ k, (∀ i, i < k → F i = G i) → evT F t s D lp k e = evT G t s D lp k e
  | 0, _ => rfl
  | k + 1, h => by
    unfold evT
    rw [h k (by omega), evT_c k (fun i hi => h i (by omega))]
theorem evP_c {S T : Sg} (h : lkS S T) {e : EV} : ∀ k, k ≤ 6 → evP S k e = evP T k e
  | 0, _ => rfl
  | k + 1, hk => by
    have ih := evP_c h (e := e) k (by omega)
    have t1 := lk_t h
    obtain ⟨a1, a2, a3⟩ := t1 k (by omega)
    have hh := hrd_c (M := S.2.1.1) (M' := T.2.1.1) (fun t ht => ((t1 t ht).1).symm) (show k < 6 by omega)
    have el : S.2.2.2.2 = T.2.2.2.2 := Prod.ext h.2.2.2.2.1 (Prod.ext h.2.2.2.2.2.1 h.2.2.2.2.2.2)
    have ev : evT S.1.2 k (S.2.1.2.1 k) (S.2.1.2.2 k) S.2.2.2.2 S.1.1 (evP S k e) = evT T.1.2 k (T.2.1.2.1 k) (T.2.1.2.2 k) T.2.2.2.2 T.1.1 (evP T k e) := by
      rw [ih, a2, a3, el, ← h.1.1]
      exact evT_c _ (fun i hi => (lk_n h i hi).symm)
    unfold evP
    by_cases q : hrd S.2.1.1 k
    · rw [if_pos q, if_pos (hh.mp q)]
      exact ev
    · rw [if_neg q, if_neg (fun z => q (hh.mpr z))]
      exact ih
theorem plC_c {S T : Sg} (h : lkS S T) : plC S = plC T := evP_c h 6 (Nat.le_refl 6)
theorem ptN_c {S T : Sg} (h : lkS S T) {t : Nat} (ht : t < 6) : ptN S t = ptN T t := by
  obtain ⟨a1, a2, a3⟩ := lk_t h t ht
  have el : S.2.2.2.2 = T.2.2.2.2 := Prod.ext h.2.2.2.2.1 (Prod.ext h.2.2.2.2.2.1 h.2.2.2.2.2.2)
  unfold ptN
  rw [a2, a3, el, ← h.1.1, evT_c _ (fun i hi => (lk_n h i hi).symm)]
theorem adT_c {S T : Sg} (h : lkS S T) {s : Int64} : ∀ t, t ≤ 6 → adT S t s = adT T t s
  | 0, _ => rfl
  | t + 1, ht => by
    show adZ (adT S t s) (iI (ptN S t)) = adZ (adT T t s) (iI (ptN T t))
    rw [ptN_c h (by omega), adT_c h t (by omega)]
theorem sn_e {C D : Nat → Nat} : ∀ k, (∀ i, i < k → C i = D i) → snI C k = snI D k
  | 0, _ => rfl
  | k + 1, h => by
    show snI C k + onI (C k) = snI D k + onI (D k)
    rw [h k (by omega), sn_e k (fun i hi => h i (by omega))]
theorem gt_e {C D : Nat → Nat} : ∀ k, (∀ i, i < k → C i = D i) → gtI C k = gtI D k
  | 0, _ => rfl
  | k + 1, h => by
    show max (gtI C k) (snI C (k + 1)) = max (gtI D k) (snI D (k + 1))
    rw [gt_e k (fun i hi => h i (by omega)), sn_e (k + 1) h]
theorem lt_e {C D : Nat → Nat} : ∀ k, (∀ i, i < k → C i = D i) → ltN C k = ltN D k
  | 0, _ => rfl
  | k + 1, h => by
    show max (ltN C k) (C k / 262144) = max (ltN D k) (D k / 262144)
    rw [lt_e k (fun i hi => h i (by omega)), h k (by omega)]
theorem adM_e {C D : Nat → Nat} {s : Int64} : ∀ k, (∀ i, i < k → C i = D i) → adM C k s = adM D k s
  | 0, _ => rfl
  | k + 1, h => by
    show adG (C k) 4 (adM C k s) = adG (D k) 4 (adM D k s)
    rw [h k (by omega), adM_e k (fun i hi => h i (by omega))]
theorem adE_e {C D : Nat → Nat} {N : Nat} {s : Int64} (h : ∀ i, i < N → C i = D i) : adE C N s = adE D N s := by
  unfold adE
  rw [adM_e N h, gt_e N h, lt_e N h]
/-- the checksum: of a song, of how many can be taken back and done again, of its events sorted -/
def dgB (S : Sg) (b a : Nat) : Int64 :=
  adZ (adZ (adZ (adZ (adZ (adZ (adZ (adZ (adN S.1.2 S.1.1 (adL (lI 2671) S.1.1)) (iI b)) (iI a))
    (iI (tmS S 9599)))
    (iI (tkA (fun t => tmS S t) 1000000 17 0)))
    (iI (bAt S.2.2.2.1.1 S.2.2.2.1.2.1 S.2.2.2.1.2.2.1 S.2.2.2.1.2.2.2 9599)))
    (iI (btAt S.2.2.2.1.1 S.2.2.2.1.2.1 S.2.2.2.1.2.2.1 S.2.2.2.1.2.2.2 1000)))
    (iI (bSt S.2.2.2.1.1 S.2.2.2.1.2.1 S.2.2.2.1.2.2.1 S.2.2.2.1.2.2.2 7)))
    (iI (sm (cl2 S.1.2 S.1.1) S.1.1))
def dgV (S : Sg) (b a : Nat) (C : Nat → Nat) : Int64 := adZ (adT S 6 (adE C (plC S).1 (dgB S b a))) (iI (fsR (ofN (-1) 0 9600 S.1.2 S.1.1) 8).1)
theorem dgB_c {S T : Sg} (h : lkS S T) (gS : sgG S) {b a : Nat} : dgB S b a = dgB T b a := by
  have n1 := lk_n h
  have p1 := lk_p h
  have m1 := lk_m h
  obtain ⟨⟨c1, -⟩, -, ⟨c2, -⟩, ⟨c3, -⟩, -⟩ := h
  have et : ∀ t, tmS S t = tmS T t := fun t => by
    show sm _ S.2.2.1.1 = sm _ T.2.2.1.1
    rw [tm_c (P' := T.2.2.1.2.1) (A' := T.2.2.1.2.2.1) (fun i hi => ((p1 i hi).1).symm) (fun i hi => ((p1 i hi).2.1).symm), c2]
  have q0 := gS.1.2.2.2.2.2.2.1.1
  have eb := bAt_c (t := 9599) q0 (fun i hi => ((m1 i hi).1).symm) (fun i hi => ((m1 i hi).2.1).symm) (fun i hi => ((m1 i hi).2.2).symm)
  have eb2 := bAt_c (t := 1000) q0 (fun i hi => ((m1 i hi).1).symm) (fun i hi => ((m1 i hi).2.1).symm) (fun i hi => ((m1 i hi).2.2).symm)
  have eb3 := bSt_c (v := 7) q0 (fun i hi => ((m1 i hi).1).symm) (fun i hi => ((m1 i hi).2.1).symm) (fun i hi => ((m1 i hi).2.2).symm)
  have ec : sm (cl2 S.1.2 S.1.1) S.1.1 = sm (cl2 T.1.2 S.1.1) S.1.1 := sm_congr (fun i hi => sm_congr (fun j hj => by
    unfold cl1
    rw [n1 i hi, n1 j hj]))
  have en : ∀ s, adN S.1.2 S.1.1 s = adN T.1.2 S.1.1 s := fun s => adN_c _ (fun i hi => (n1 i hi).symm)
  unfold dgB
  rw [en, ec, eb.1, eb2.2, eb3, et 9599, show (fun t => tmS S t) = fun t => tmS T t from funext et, c1, c3]
theorem dgV_c {S T : Sg} (h : lkS S T) (gS : sgG S) {b a : Nat} {C D : Nat → Nat} (hC : evS S C) (hD : evS T D) : dgV S b a C = dgV T b a D := by
  have e := plC_c h
  have hD' : evS S D := by
    unfold evS at *
    rw [e]
    exact hD
  have ef : ofN (-1) 0 9600 S.1.2 S.1.1 = ofN (-1) 0 9600 T.1.2 T.1.1 := funext fun s => by
    rw [← h.1.1]
    exact sm_congr (fun i hi => by rw [lk_n h i hi])
  unfold dgV
  rw [adT_c h 6 (Nat.le_refl 6), adE_e (evS_u hC hD'), dgB_c h gS, e, ef]
/-- the class's song taken back, then done again -/
theorem lk_bf {W : Dk} (hI : Inv W) (hg : W.2.2.2.2 = false) : lkS W.1 (fwW (bkW W)).1 := by
  have hn := hI.2.1.1.1
  have e : ((W.2.1.1 + 20) % 21 + 1) % 21 = W.2.1.1 := by omega
  have z : lkS (W.2.1.2.2.2 (((W.2.1.1 + 20) % 21 + 1) % 21)) (fwW (bkW W)).1 := tkS_lk (sgG_c (hI.2.1.2.1 _ (by omega)))
  rw [e] at z
  exact lk_tr (lk_sym (hI.2.2.1 hg)) z
theorem evS_ex {W : Dk} (hI : Inv W) : ∃ C, evS W.1 C := by
  obtain ⟨C, S, z1, z2, z3, -⟩ := s_sorted (d := 0) (h := fun _ => none) (x := 0) (n := 0) (w := 0) (g := (0, 0)) (Inv_ok hI) (Inv_rn hI)
  exact ⟨C, evS_of z1 z2 z3⟩
