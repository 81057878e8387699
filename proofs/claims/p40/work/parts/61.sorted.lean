/-! ===== the events in their order ===== -/
/-- a song's events, sorted -/
def evS (S : Sg) (C : Nat → Nat) : Prop := sor C 0 (plC S).1 ∧ (∀ v, cn C v (plC S).1 = cn (plC S).2 v (plC S).1) ∧ ∀ i, vOk (C i)
theorem evS_of {W : Dk} {C : Nat → Nat} (h1 : sor C 0 (plE W).1) (h2 : ∀ v, cn C v (plE W).1 = cn (plE W).2 v (plE W).1) (h3 : ∀ i, vOk (C i)) : evS W.1 C := by
  have r := plE_R W
  refine ⟨by rw [← r.1]; exact h1, fun v => ?_, h3⟩
  rw [← r.1, h2 v]
  exact cn_congr r.2
theorem evS_u {S : Sg} {C D : Nat → Nat} (h : evS S C) (h' : evS S D) : ∀ i, i < (plC S).1 → C i = D i := sor_u h.1 h'.1 (fun v => (h.2.1 v).trans (h'.2.1 v).symm)
theorem evS_p {S : Sg} {C : Nat → Nat} (gS : sgG S) (h : evS S C) (p : Nat → Bool) : cntP p C (plC S).1 = cntP p (plC S).2 (plC S).1 :=
  cnt_perm (B := 1099511627776) h.2.1 (fun i _ => h.2.2 i) (fun i _ => (plC_ok gS).2 i)
theorem cntP_not {p : Nat → Bool} {F : Nat → Nat} : ∀ k, cntP (fun c => !p c) F k + cntP p F k = k
  | 0 => rfl
  | k + 1 => by
    have ih := cntP_not (p := p) (F := F) k
    rw [cntP_s, cntP_s]
    cases h : p (F k)
    · rw [if_pos (show (!false) = true from rfl), if_neg Bool.false_ne_true]
      omega
    · rw [if_neg (show ¬ (!true) = true by decide), if_pos rfl]
      omega
theorem onI_e (c : Nat) : onI c = if eON c = true then 1 else -1 := by
  unfold onI eON
  by_cases h : c / 131072 % 2 = 1
  · rw [if_pos h, if_pos (decide_eq_true h)]
  · rw [if_neg h, if_neg (fun z => h (of_decide_eq_true z))]
theorem sn_c (C : Nat → Nat) : ∀ k : Nat, snI C k = 2 * (cntP eON C k : Int) - k
  | 0 => rfl
  | k + 1 => by
    have ih := sn_c C k
    show snI C k + onI (C k) = _
    rw [ih, onI_e, cntP_s]
    split <;> omega
theorem ct_c (C : Nat → Nat) (t : Nat) : ∀ k : Nat, ctI C t k = (cntP (onB (t + 1)) C k : Int) - cntP (offB t) C k
  | 0 => rfl
  | k + 1 => by
    have ih := ct_c C t k
    show ctI C t k + (if C k / 262144 ≤ t then onI (C k) else 0) = _
    rw [ih, onI_e, cntP_s, cntP_s]
    unfold onB offB
    by_cases h : C k / 262144 ≤ t
    · rw [if_pos h, decide_eq_true h, decide_eq_true (show C k / 262144 < t + 1 by omega)]
      cases eON (C k)
      · rw [if_neg (by decide), if_neg (by decide), if_pos (by decide)]
        omega
      · rw [if_pos (by decide), if_pos (by decide), if_neg (by decide)]
        omega
    · rw [if_neg h, decide_eq_false h, decide_eq_false (show ¬ C k / 262144 < t + 1 by omega), Bool.and_false, Bool.and_false, if_neg Bool.false_ne_true]
      omega
section
variable {S : Sg} {C : Nat → Nat}
theorem so_le (h : evS S C) {i j : Nat} (hij : i ≤ j) (hj : j < (plC S).1) : C i ≤ C j := by
  by_cases e : i = j
  · exact Nat.le_of_eq (by rw [e])
  · exact h.1 i j (Nat.zero_le _) (by omega) hj
theorem so_tk (h : evS S C) {i j : Nat} (hij : i ≤ j) (hj : j < (plC S).1) : C i / 262144 ≤ C j / 262144 := Nat.div_le_div_right (so_le h hij hj)
/-- never more off than on -/
theorem sn_pos (gS : sgG S) (h : evS S C) {k : Nat} (hk : k ≤ (plC S).1) : 0 ≤ snI C k := by
  by_cases z : k = 0
  · rw [z]
    exact Int.le_refl 0
  · obtain ⟨j, rfl⟩ : ∃ j, k = j + 1 := ⟨k - 1, by omega⟩
    have p1 := evS_p gS h (offB (C j / 262144))
    have p2 := evS_p gS h (onB (C j / 262144))
    have p3 := (plC_pr gS).2.2.1 (C j / 262144)
    have q1 : cntP (onB (C j / 262144)) C (plC S).1 = cntP (onB (C j / 262144)) C (j + 1) := cntP_ext hk (fun i h1 h2 => by
      have := so_tk h (show j ≤ i by omega) h2
      unfold onB
      rw [decide_eq_false (show ¬ C i / 262144 < C j / 262144 by omega), Bool.and_false])
    have q2 : cntP (onB (C j / 262144)) C (j + 1) ≤ cntP eON C (j + 1) := cntP_im (fun i _ z => by
      unfold onB at z
      rw [Bool.and_eq_true] at z
      exact z.1)
    have q3 : cntP (fun c => !eON c) C (j + 1) ≤ cntP (offB (C j / 262144)) C (j + 1) := cntP_im (fun i hi z => by
      have := so_tk h (show i ≤ j by omega) (by omega)
      unfold offB
      rw [decide_eq_true this, Bool.and_true]
      exact z)
    have q4 := cntP_mono (offB (C j / 262144)) C hk
    have q5 := cntP_not (p := eON) (F := C) (j + 1)
    rw [sn_c]
    omega
theorem sn_end (gS : sgG S) (h : evS S C) : snI C (plC S).1 = 0 := by
  have p1 := evS_p gS h eON
  have p2 := (plC_pr gS).2.2.2
  rw [sn_c]
  omega
/-- what sounds behind the last event of a tick -/
theorem ct_ok (gS : sgG S) (h : evS S C) {W : Dk} (hW : W.1 = S) {k : Nat} (hk : k + 1 < (plC S).1) (ht : C k / 262144 < C (k + 1) / 262144) : ctI (plE W).2 (C k / 262144) (plE W).1 = snI C (k + 1) := by
  subst hW
  have r := plE_R W
  have c1 : ∀ p : Nat → Bool, cntP p (plE W).2 (plE W).1 = cntP p C (plC W.1).1 := fun p => by
    rw [evS_p gS h p, ← r.1]
    exact sm_congr (fun i hi => by rw [r.2 i hi])
  rw [ct_c, c1, c1, ← ct_c]
  have l1 : ∀ j, j ≤ k + 1 → ctI C (C k / 262144) j = snI C j := by
    intro j
    induction j with
    | zero => exact fun _ => rfl
    | succ j ih =>
      intro hj
      have := so_tk h (show j ≤ k by omega) (by omega)
      show ctI C _ j + (if C j / 262144 ≤ C k / 262144 then onI (C j) else 0) = snI C j + onI (C j)
      rw [if_pos this, ih (by omega)]
  have l2 : ∀ s, k + 1 + s ≤ (plC W.1).1 → ctI C (C k / 262144) (k + 1 + s) = ctI C (C k / 262144) (k + 1) := by
    intro s
    induction s with
    | zero => exact fun _ => rfl
    | succ s ih =>
      intro hs
      have := so_tk h (show k + 1 ≤ k + 1 + s by omega) (by omega)
      show ctI C _ (k + 1 + s) + (if C (k + 1 + s) / 262144 ≤ C k / 262144 then onI (C (k + 1 + s)) else 0) = _
      rw [if_neg (by omega), ih (by omega)]
      omega
  have z := l2 ((plC W.1).1 - (k + 1)) (by omega)
  rw [show k + 1 + ((plC W.1).1 - (k + 1)) = (plC W.1).1 by omega] at z
  rw [z]
  exact l1 _ (Nat.le_refl _)
theorem lt_up {F : Nat → Nat} {m : Nat} : ∀ {N : Nat}, (∀ i, i < N → F i / 262144 ≤ m) → ltN F N ≤ m
  | 0, _ => Nat.zero_le _
  | N + 1, h => by
    have := lt_up (N := N) (fun i hi => h i (by omega))
    have := h N (by omega)
    show max (ltN F N) (F N / 262144) ≤ m
    omega
theorem lt_in {F : Nat → Nat} {i : Nat} : ∀ {N : Nat}, i < N → F i / 262144 ≤ ltN F N
  | 0, h => absurd h (Nat.not_lt_zero i)
  | N + 1, h => by
    show _ ≤ max (ltN F N) (F N / 262144)
    by_cases e : i = N
    · rw [e]
      omega
    · have := lt_in (F := F) (N := N) (show i < N by omega)
      omega
theorem cn_mem {C E : Nat → Nat} {N : Nat} (h : ∀ v, cn C v N = cn E v N) {i : Nat} (hi : i < N) : ∃ j, j < N ∧ E j = C i := by
  have z := cn_in (F := C) (v := C i) (a := 0) rfl (Nat.zero_le i) hi
  rw [h, show cn C (C i) 0 = 0 from rfl] at z
  obtain ⟨j, -, j1, j2⟩ := cn_ex (F := E) (v := C i) (a := 0) (b := N) z (Nat.zero_le _)
  exact ⟨j, j1, j2⟩
theorem lt_ok (h : evS S C) {W : Dk} (hW : W.1 = S) (h0 : 0 < (plC S).1) : ltN (plE W).2 (plE W).1 = C ((plC S).1 - 1) / 262144 := by
  subst hW
  have r := plE_R W
  have h2 : ∀ v, cn C v (plE W).1 = cn (plE W).2 v (plE W).1 := fun v => by
    rw [r.1, h.2.1 v, ← r.1]
    exact (cn_congr r.2).symm
  refine Nat.le_antisymm (lt_up (fun i hi => ?_)) ?_
  · obtain ⟨j, j1, j2⟩ := cn_mem (fun v => (h2 v).symm) hi
    rw [← j2]
    exact so_tk h (by have := r.1; omega) (by omega)
  · obtain ⟨j, j1, j2⟩ := cn_mem h2 (show (plC W.1).1 - 1 < (plE W).1 by have := r.1; omega)
    rw [← j2]
    exact lt_in j1
/-! the mean -/
theorem mf_c (F : Nat → Nat) : ∀ k, mfC F k = cntP eON F k
  | 0 => rfl
  | k + 1 => by
    have ih := mf_c F k
    rw [cntP_s, ← ih]
    show mfC F k + (if F k / 131072 % 2 = 1 then 1 else 0) = _
    unfold eON
    by_cases h : F k / 131072 % 2 = 1
    · rw [if_pos h, if_pos (decide_eq_true h)]
    · rw [if_neg h, if_neg (fun z => h (of_decide_eq_true z))]
theorem mf_le {F : Nat → Nat} : ∀ {k : Nat}, (∀ i, i < k → evV (F i)) → mfC F k ≤ mfS F k
  | 0, _ => Nat.le_refl _
  | k + 1, h => by
    have ih := mf_le (F := F) (k := k) (fun i hi => h i (by omega))
    have hk := (h k (by omega)).2
    show mfC F k + (if F k / 131072 % 2 = 1 then 1 else 0) ≤ mfS F k + (if F k / 131072 % 2 = 1 then F k % 128 else 0)
    by_cases z : F k / 131072 % 2 = 1
    · rw [if_pos z, if_pos z]
      have := hk z
      omega
    · rw [if_neg z, if_neg z]
      exact ih
theorem plE_pr {W : Dk} (gS : sgG W.1) : prE (plE W) := evP_pr gS ⟨by show 0 ≤ 960; omega, fun i hi => absurd hi (Nat.not_lt_zero i), fun T => Nat.le_refl _, rfl⟩ 6
theorem mf_ok {W : Dk} (gS : sgG W.1) : mfC (plE W).2 (plE W).1 ≤ 480 ∧ ((plE W).1 = 0 → mnD (mfS (plE W).2 (plE W).1) (mfC (plE W).2 (plE W).1) = FP.dconst0) ∧ ((plE W).1 ≠ 0 → FP.dcmp (mnD (mfS (plE W).2 (plE W).1) (mfC (plE W).2 (plE W).1)) FP.dconst0 ≠ some .eq) := by
  obtain ⟨p1, p2, p3, p4⟩ := plE_pr gS
  have c := mf_c (plE W).2 (plE W).1
  have le := mf_le p2
  have b := mfS_b (plE W).2 (plE W).1
  refine ⟨by omega, fun z => ?_, fun z => mn_nz (by omega) le (by omega)⟩
  rw [z]
  exact if_pos rfl
end
