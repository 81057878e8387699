/-! ===== the events: as many on as off, in their order ===== -/
def evR (e e' : EV) : Prop := e.1 = e'.1 ∧ ∀ i, i < e.1 → e.2 i = e'.2 i
theorem evA_R {e e' : EV} {c : Nat} (h : evR e e') : evR (evA e c) (evA e' c) := by
  unfold evA
  by_cases q : e.1 < 960
  · rw [if_pos q, if_pos (by rw [← h.1]; exact q)]
    refine ⟨by show e.1 + 1 = e'.1 + 1; rw [h.1], fun i hi => ?_⟩
    have hi' : i < e.1 + 1 := hi
    show upN e.2 e.1 c i = upN e'.2 e'.1 c i
    rw [← h.1]
    by_cases z : i = e.1
    · rw [z, upN_at, upN_at]
    · rw [upN_o z, upN_o z]
      exact h.2 i (by omega)
  · rw [if_neg q, if_neg (by rw [← h.1]; exact q)]
    exact h
theorem evO_R {e e' : EV} {c l : Nat} {k : Int} (h : evR e e') : evR (evO c k l e) (evO c k l e') := evA_R (evA_R h)
theorem evL_R {e e' : EV} {c a b : Nat} {D : Int} (h : evR e e') : ∀ j, evR (evL c a b D j e) (evL c a b D j e')
  | 0 => h
  | j + 1 => evO_R (evL_R h j)
theorem evN_R {e e' : EV} {c : Nat} {lp : LPv} {D : Int} (h : evR e e') : evR (evN c lp D e) (evN c lp D e') := by
  unfold evN
  split
  · exact evO_R h
  · split
    · exact evO_R h
    · exact evL_R h _
theorem evT_R {e e' : EV} {F : Nat → Nat} {t : Nat} {s D : Int} {lp : LPv} (h : evR e e') : ∀ k, evR (evT F t s D lp k e) (evT F t s D lp k e')
  | 0 => h
  | k + 1 => by
    unfold evT
    split
    · exact evN_R (evT_R h k)
    · exact evT_R h k
theorem evP_R {S : Sg} {e e' : EV} (h : evR e e') : ∀ k, evR (evP S k e) (evP S k e')
  | 0 => h
  | k + 1 => by
    unfold evP
    split
    · exact evT_R (evP_R h k) _
    · exact evP_R h k
/-- a song's events, not yet sorted -/
def plC (S : Sg) : EV := evP S 6 (0, fun _ => 0)
theorem plE_R (W : Dk) : evR (plE W) (plC W.1) := evP_R (S := W.1) (e := (0, W.2.2.2.1.2.1)) (e' := (0, fun _ => 0)) ⟨rfl, fun i hi => absurd hi (Nat.not_lt_zero i)⟩ 6
/-! counted -/
theorem cntP_up {p : Nat → Bool} {F : Nat → Nat} {N c : Nat} : ∀ k, k ≤ N → cntP p (upN F N c) k = cntP p F k
  | 0, _ => rfl
  | k + 1, h => by
    show sm _ k + (if p (upN F N c k) = true then 1 else 0) = sm _ k + (if p (F k) = true then 1 else 0)
    rw [upN_o (by omega)]
    exact congrArg (· + _) (cntP_up k (by omega))
theorem cntP_s {p : Nat → Bool} {F : Nat → Nat} {k : Nat} : cntP p F (k + 1) = cntP p F k + if p (F k) = true then 1 else 0 := rfl
theorem cntP_ad {p : Nat → Bool} {F : Nat → Nat} {N c : Nat} : cntP p (upN F N c) (N + 1) = cntP p F N + if p c = true then 1 else 0 := by
  rw [cntP_s, cntP_up N (Nat.le_refl N), upN_at]
theorem cntP_ext {p : Nat → Bool} {F : Nat → Nat} {k : Nat} : ∀ {N : Nat}, k ≤ N → (∀ i, k ≤ i → i < N → p (F i) = false) → cntP p F N = cntP p F k
  | 0, h, _ => by
    obtain rfl : k = 0 := by omega
    rfl
  | N + 1, h, h2 => by
    by_cases e : k = N + 1
    · rw [e]
    · rw [cntP_s, h2 N (by omega) (by omega), if_neg Bool.false_ne_true, Nat.add_zero]
      exact cntP_ext (by omega) (fun i h3 h4 => h2 i h3 (by omega))
theorem cntP_im {p q : Nat → Bool} {F : Nat → Nat} : ∀ {k : Nat}, (∀ i, i < k → p (F i) = true → q (F i) = true) → cntP p F k ≤ cntP q F k
  | 0, _ => Nat.le_refl _
  | k + 1, h => by
    have ih := cntP_im (p := p) (q := q) (F := F) (k := k) (fun i hi => h i (by omega))
    have hk := h k (by omega)
    rw [cntP_s, cntP_s]
    by_cases z : p (F k) = true
    · rw [if_pos z, if_pos (hk z)]
      omega
    · rw [if_neg z]
      split <;> omega
theorem sm_one {f : Nat → Nat} {c y : Nat} : ∀ {B : Nat}, sm (fun v => f v + if c = v then y else 0) B = sm f B + if c < B then y else 0
  | 0 => by
    rw [if_neg (by omega)]
    rfl
  | B + 1 => by
    show sm _ B + (f B + if c = B then y else 0) = sm f B + f B + _
    rw [sm_one]
    by_cases e : c = B
    · rw [if_pos e, if_neg (by omega), if_pos (by omega)]
      omega
    · rw [if_neg e]
      by_cases z : c < B
      · rw [if_pos z, if_pos (by omega)]
        omega
      · rw [if_neg z, if_neg (by omega)]
        omega
theorem cnt_val {p : Nat → Bool} {F : Nat → Nat} {B : Nat} : ∀ N, (∀ i, i < N → F i < B) → cntP p F N = sm (fun v => if p v = true then cn F v N else 0) B
  | 0, _ => (sm_0 (fun v => by
      show (if p v = true then 0 else 0) = 0
      split <;> rfl) B).symm
  | N + 1, h => by
    rw [cntP_s, cnt_val N (fun i hi => h i (by omega))]
    have e : (fun v => if p v = true then cn F v (N + 1) else 0) = fun v => (if p v = true then cn F v N else 0) + if F N = v then (if p (F N) = true then 1 else 0) else 0 := by
      funext v
      rw [cn_s]
      by_cases z : F N = v
      · rw [if_pos z, if_pos z, ← z]
        split <;> rfl
      · rw [if_neg z, if_neg z]
        rfl
    rw [e, sm_one, if_pos (h N (by omega))]
theorem cnt_perm {p : Nat → Bool} {C E : Nat → Nat} {B N : Nat} (h : ∀ v, cn C v N = cn E v N) (hC : ∀ i, i < N → C i < B) (hE : ∀ i, i < N → E i < B) : cntP p C N = cntP p E N := by
  rw [cnt_val (B := B) N hC, cnt_val (B := B) N hE]
  exact congrArg (fun f => sm f B) (funext fun v => by rw [h v])
/-! on and off -/
def eON (c : Nat) : Bool := decide (c / 131072 % 2 = 1)
def onB (T c : Nat) : Bool := eON c && decide (c / 262144 < T)
def offB (T c : Nat) : Bool := !eON c && decide (c / 262144 ≤ T)
def evV (v : Nat) : Prop := v / 262144 ≤ 99998 ∧ (v / 131072 % 2 = 1 → 1 ≤ v % 128)
/-- as many on as off, each on ahead of its off -/
def prE (e : EV) : Prop := e.1 ≤ 960 ∧ (∀ i, i < e.1 → evV (e.2 i)) ∧ (∀ T, cntP (offB T) e.2 e.1 ≤ cntP (onB T) e.2 e.1) ∧ 2 * cntP eON e.2 e.1 = e.1
theorem evO_pr {e : EV} {c l : Nat} {k : Int} (he : prE e) (hk : k ≤ 90000) (hl : 1 ≤ l ∧ l ≤ 960) (h1 : cT c < 8) (h2 : cP c < 128) (h3 : 1 ≤ cF c ∧ cF c < 128) : prE (evO c k l e) := by
  obtain ⟨g1, g2, g3, g4⟩ := he
  obtain ⟨s, hs⟩ : ∃ s, s = (max 0 k).toNat := ⟨_, rfl⟩
  have hs2 : s ≤ 90000 := by omega
  by_cases q : e.1 < 960
  · have q2 : e.1 + 1 < 960 := by omega
    have e1 : evO c k l e = (e.1 + 1 + 1, upN (upN e.2 e.1 (vO s 1 (cT c) (cP c) (cF c))) (e.1 + 1) (vO (s + l) 0 (cT c) (cP c) (cF c))) := by
      unfold evO
      rw [← hs]
      have y1 : evA e (vO s 1 (cT c) (cP c) (cF c)) = (e.1 + 1, upN e.2 e.1 (vO s 1 (cT c) (cP c) (cF c))) := if_pos q
      rw [y1]
      exact if_pos q2
    rw [e1]
    have o1 : vO s 1 (cT c) (cP c) (cF c) / 131072 % 2 = 1 := by unfold vO; omega
    have o2 : vO (s + l) 0 (cT c) (cP c) (cF c) / 131072 % 2 = 0 := by unfold vO; omega
    have t1 : vO s 1 (cT c) (cP c) (cF c) / 262144 = s := by unfold vO; omega
    have t2 : vO (s + l) 0 (cT c) (cP c) (cF c) / 262144 = s + l := by unfold vO; omega
    have f1 : vO s 1 (cT c) (cP c) (cF c) % 128 = cF c := by unfold vO; omega
    generalize vO s 1 (cT c) (cP c) (cF c) = A at *
    generalize vO (s + l) 0 (cT c) (cP c) (cF c) = B at *
    have b1 : eON A = true := decide_eq_true o1
    have b2 : eON B = false := decide_eq_false (by omega)
    refine ⟨by show e.1 + 1 + 1 ≤ 960; omega, fun i hi => ?_, fun T => ?_, ?_⟩
    · have hi' : i < e.1 + 1 + 1 := hi
      show evV (upN (upN e.2 e.1 A) (e.1 + 1) B i)
      by_cases z1 : i = e.1 + 1
      · rw [z1, upN_at]
        exact ⟨by omega, fun z => by omega⟩
      · rw [upN_o z1]
        by_cases z2 : i = e.1
        · rw [z2, upN_at]
          exact ⟨by omega, fun _ => by omega⟩
        · rw [upN_o z2]
          exact g2 i (by omega)
    · show cntP (offB T) (upN (upN e.2 e.1 A) (e.1 + 1) B) (e.1 + 1 + 1) ≤ cntP (onB T) (upN (upN e.2 e.1 A) (e.1 + 1) B) (e.1 + 1 + 1)
      rw [cntP_ad, cntP_ad, cntP_ad, cntP_ad]
      have n1 : offB T A = false := by unfold offB; rw [b1]; rfl
      have n2 : onB T B = false := by unfold onB; rw [b2]; rfl
      have n3 : offB T B = decide (s + l ≤ T) := by unfold offB; rw [b2, t2]; rfl
      have n4 : onB T A = decide (s < T) := by unfold onB; rw [b1, t1]; rfl
      have z := g3 T
      rw [n1, n2, n3, n4, if_neg Bool.false_ne_true]
      by_cases y : s + l ≤ T
      · rw [if_pos (decide_eq_true y), if_pos (decide_eq_true (by omega))]
        omega
      · rw [if_neg (fun y2 => y (of_decide_eq_true y2))]
        omega
    · show 2 * cntP eON (upN (upN e.2 e.1 A) (e.1 + 1) B) (e.1 + 1 + 1) = e.1 + 1 + 1
      rw [cntP_ad, cntP_ad, if_pos b1, if_neg (by rw [b2]; exact Bool.false_ne_true)]
      omega
  · have e1 : evO c k l e = e := by
      unfold evO
      have y1 : evA e (vO (max 0 k).toNat 1 (cT c) (cP c) (cF c)) = e := if_neg q
      rw [y1]
      exact if_neg q
    rw [e1]
    exact ⟨g1, g2, g3, g4⟩
theorem evL_pr {c a b : Nat} {D : Int} {e : EV} (he : prE e) (hS : cS c ≤ 9599) (hL : 1 ≤ cL c ∧ cL c ≤ 960) (ha : a ≤ 9600) (hb : cS c < b ∧ b ≤ 9600) (hD : D ≤ 48) (h1 : cT c < 8) (h2 : cP c < 128) (h3 : 1 ≤ cF c ∧ cF c < 128) : ∀ j, j ≤ 8 → prE (evL c a b D j e)
  | 0, _ => he
  | j + 1, hj => by
    have r1 := rnd_b (show j ≤ 7 by omega) ha hb.2
    exact evO_pr (evL_pr he hS hL ha hb hD h1 h2 h3 j (by omega)) (by generalize (j : Int) * ((b : Int) - a) = z at r1; omega) (by omega) h1 h2 h3
theorem evN_pr {c : Nat} {lp : LPv} {D : Int} {e : EV} (he : prE e) (hS : cS c ≤ 9599) (hL : 1 ≤ cL c ∧ cL c ≤ 960) (ha : lp.1 ≤ 9600) (hb : lp.2.1 ≤ 9600) (ht : lp.2.2 ≤ 8) (hD : D ≤ 48) (h1 : cT c < 8) (h2 : cP c < 128) (h3 : 1 ≤ cF c ∧ cF c < 128) : prE (evN c lp D e) := by
  unfold evN
  split
  · exact evO_pr he (by omega) hL h1 h2 h3
  · split
    · rename_i q _
      have e1 : ((lp.2.2 : Int) - 1) = ((lp.2.2 - 1 : Nat) : Int) := by omega
      have r1 := rnd_b (show lp.2.2 - 1 ≤ 7 by omega) ha hb
      rw [e1]
      exact evO_pr he (by generalize ((lp.2.2 - 1 : Nat) : Int) * ((lp.2.1 : Int) - lp.1) = z at r1; omega) hL h1 h2 h3
    · exact evL_pr he hS hL ha ⟨by omega, hb⟩ hD h1 h2 h3 _ ht
theorem evT_pr {S : Sg} (hS : sgG S) {t : Nat} {s D : Int} {e : EV} (he : prE e) (hD : D ≤ 48) : ∀ k, k ≤ S.1.1 → prE (evT S.1.2 t s D S.2.2.2.2 k e)
  | 0, _ => he
  | k + 1, hk => by
    have ih := evT_pr hS (t := t) (s := s) he hD k (by omega)
    have hc := hS.1.2.1 k
    obtain ⟨y1, y2, y3, y4⟩ := hS.2.1 k (by omega)
    obtain ⟨l1, l2, l3⟩ := hS.1.2.2.2.2.2.2.2.2
    have a1 := cT_lt hc
    have a2 := cS_lt (S.1.2 k)
    have a3 := cL_lt (S.1.2 k)
    have a5 := cF_lt (S.1.2 k)
    unfold evT
    split
    · rename_i q
      have p1 : ((cP (S.1.2 k) : Int) + s).toNat < 128 := by omega
      generalize ((cP (S.1.2 k) : Int) + s).toNat = P at *
      have w1 : cT (wpC (S.1.2 k) P) = cT (S.1.2 k) := cT_O a2 p1 a3 a5
      have w2 : cS (wpC (S.1.2 k) P) = cS (S.1.2 k) := cS_O a2 p1 a3 a5
      have w3 : cL (wpC (S.1.2 k) P) = cL (S.1.2 k) := cL_O a3 a5
      have w4 : cP (wpC (S.1.2 k) P) = P := cP_O p1 a3 a5
      have w5 : cF (wpC (S.1.2 k) P) = cF (S.1.2 k) := cF_O a5
      exact evN_pr ih (by rw [w2]; exact y2) (by rw [w3]; exact y3) l1 l2 l3 hD (by rw [w1]; exact a1) (by rw [w4]; exact p1) (by rw [w5]; exact ⟨y4, a5⟩)
    · exact ih
theorem evP_pr {S : Sg} (hS : sgG S) {e : EV} (he : prE e) : ∀ t, prE (evP S t e)
  | 0 => he
  | t + 1 => by
    unfold evP
    split
    · exact evT_pr hS (evP_pr hS he t) (hS.1.2.2.2.2.1 t).2 _ (Nat.le_refl _)
    · exact evP_pr hS he t
theorem plC_pr {S : Sg} (hS : sgG S) : prE (plC S) := evP_pr hS ⟨by show 0 ≤ 960; omega, fun i hi => absurd hi (Nat.not_lt_zero i), fun T => Nat.le_refl _, rfl⟩ 6
theorem plC_ok {S : Sg} (hS : sgG S) : evOk (plC S) := evP_ok ⟨by show 0 ≤ 960; omega, fun i => by show (0 : Nat) < 1099511627776; omega⟩ hS.1 6
