/-! ===== the rendering: what is played ===== -/
abbrev EV : Type := Nat × (Nat → Nat)
def evA (e : EV) (c : Nat) : EV := if e.1 < 960 then (e.1 + 1, upN e.2 e.1 c) else e
def evO (c : Nat) (k : Int) (l : Nat) (e : EV) : EV := evA (evA e (vO (max 0 k).toNat 1 (cT c) (cP c) (cF c))) (vO ((max 0 k).toNat + l) 0 (cT c) (cP c) (cF c))
/-- a note gone through by the loop -/
def evL (c a b : Nat) (D : Int) : Nat → EV → EV
  | 0, e => e
  | j + 1, e => evO c ((cS c : Int) + j * ((b : Int) - a) + D) (min (cL c) (b - cS c)) (evL c a b D j e)
def evN (c : Nat) (lp : LPv) (D : Int) (e : EV) : EV :=
  if lp.2.2 = 0 ∨ cS c < lp.1 then evO c ((cS c : Int) + D) (cL c) e
  else if lp.2.1 ≤ cS c then evO c ((cS c : Int) + ((lp.2.2 : Int) - 1) * ((lp.2.1 : Int) - lp.1) + D) (cL c) e
  else evL c lp.1 lp.2.1 D lp.2.2 e
def wpC (c p : Nat) : Nat := cO (cT c) (cS c) p (cL c) (cF c)
def evT (F : Nat → Nat) (t : Nat) (s D : Int) (lp : LPv) : Nat → EV → EV
  | 0, e => e
  | k + 1, e => if cT (F k) = t ∧ 0 ≤ (cP (F k) : Int) + s ∧ (cP (F k) : Int) + s ≤ 127 then evN (wpC (F k) ((cP (F k) : Int) + s).toNat) lp D (evT F t s D lp k e) else evT F t s D lp k e
def evP (S : Sg) : Nat → EV → EV
  | 0, e => e
  | t + 1, e => if hrd S.2.1.1 t then evT S.1.2 t (S.2.1.2.1 t) (S.2.1.2.2 t) S.2.2.2.2 S.1.1 (evP S t e) else evP S t e
/-- events in their bounds -/
def evOk (e : EV) : Prop := e.1 ≤ 960 ∧ ∀ i, vOk (e.2 i)
theorem vO_ok {t o k p f : Nat} (ht : t < 4194304) (ho : o < 2) (hk : k < 8) (hp : p < 128) (hf : f < 128) : vOk (vO t o k p f) := by
  unfold vOk vO
  omega
theorem evA_ok {e : EV} {c : Nat} (he : evOk e) (hc : vOk c) : evOk (evA e c) := by
  unfold evA
  split
  · exact ⟨by show e.1 + 1 ≤ 960; omega, upN_ok hc he.2⟩
  · exact he
theorem evO_ok {c l : Nat} {k : Int} {e : EV} (he : evOk e) (hc : cOk c) (hk : k < 2000000) (hl : l < 2000000) : evOk (evO c k l e) :=
  evA_ok (evA_ok he (vO_ok (by omega) (by omega) (cT_lt hc) (cP_lt c) (cF_lt c))) (vO_ok (by omega) (by omega) (cT_lt hc) (cP_lt c) (cF_lt c))
theorem rnd_b {j a b m : Nat} (hj : j ≤ m) (ha : a ≤ 9600) (hb : b ≤ 9600) : -((m : Int) * 9600) ≤ (j : Int) * ((b : Int) - a) ∧ (j : Int) * ((b : Int) - a) ≤ (m : Int) * 9600 := by
  have h1 : (j : Int) * ((b : Int) - a) ≤ (j : Int) * 9600 := Int.mul_le_mul_of_nonneg_left (by omega) (by omega)
  have h2 : (j : Int) * (-9600) ≤ (j : Int) * ((b : Int) - a) := Int.mul_le_mul_of_nonneg_left (by omega) (by omega)
  omega
theorem evL_ok {c a b : Nat} {D : Int} {e : EV} (he : evOk e) (hc : cOk c) (ha : a ≤ 9600) (hb : b ≤ 9600) (hD : D ≤ 48) : ∀ j, j ≤ 8 → evOk (evL c a b D j e)
  | 0, _ => he
  | j + 1, hj => by
    have h1 := rnd_b (show j ≤ 8 by omega) ha hb
    have h2 := cS_lt c
    have h3 := cL_lt c
    exact evO_ok (evL_ok he hc ha hb hD j (by omega)) hc (by generalize (j : Int) * ((b : Int) - a) = z at h1; omega) (by omega)
theorem evN_ok {c : Nat} {lp : LPv} {D : Int} {e : EV} (he : evOk e) (hc : cOk c) (ha : lp.1 ≤ 9600) (hb : lp.2.1 ≤ 9600) (ht : lp.2.2 ≤ 8) (hD : D ≤ 48) : evOk (evN c lp D e) := by
  have h2 := cS_lt c
  have h3 := cL_lt c
  unfold evN
  split
  · exact evO_ok he hc (by omega) (by omega)
  · split
    · rename_i q _
      have e1 : ((lp.2.2 : Int) - 1) = ((lp.2.2 - 1 : Nat) : Int) := by omega
      have h1 := rnd_b (show lp.2.2 - 1 ≤ 8 by omega) ha hb
      rw [e1]
      exact evO_ok he hc (by generalize ((lp.2.2 - 1 : Nat) : Int) * ((lp.2.1 : Int) - lp.1) = z at h1; omega) (by omega)
    · exact evL_ok he hc ha hb hD _ ht
theorem wpC_ok {c p : Nat} (hc : cOk c) (hp : p < 128) : cOk (wpC c p) := cO_ok (cT_lt hc) (cS_lt c) hp (cL_lt c) (cF_lt c)
theorem evT_ok {F : Nat → Nat} {t : Nat} {s D : Int} {lp : LPv} {e : EV} (he : evOk e) (hF : ∀ i, cOk (F i)) (ha : lp.1 ≤ 9600) (hb : lp.2.1 ≤ 9600) (ht : lp.2.2 ≤ 8) (hD : D ≤ 48) : ∀ k, evOk (evT F t s D lp k e)
  | 0 => he
  | k + 1 => by
    unfold evT
    split
    · rename_i q
      exact evN_ok (evT_ok he hF ha hb ht hD k) (wpC_ok (hF k) (by have := q.2; omega)) ha hb ht hD
    · exact evT_ok he hF ha hb ht hD k
theorem sgOk_lp {S : Sg} (h : sgOk S) : S.2.2.2.2.1 ≤ 9600 ∧ S.2.2.2.2.2.1 ≤ 9600 ∧ S.2.2.2.2.2.2 ≤ 8 := by
  unfold sgOk at h
  omega
theorem evP_ok {S : Sg} {e : EV} (he : evOk e) (hS : sgOk S) : ∀ k, evOk (evP S k e)
  | 0 => he
  | k + 1 => by
    have hl := sgOk_lp hS
    unfold evP
    split
    · exact evT_ok (evP_ok he hS k) hS.2.1 hl.1 hl.2.1 hl.2.2 (hS.2.2.2.2.1 k).2 _
    · exact evP_ok he hS k
section
variable {d : Nat} {h : aHf} {r : Nat × Nat × Nat × Nat} {x : Nat} {W : Dk} {e : EV}
theorem dk_r1 {j : Nat} {c : aC} {V : Rn} (hj : j < 3) (hc : c = rnC (x + 401) V j) (ho : ∀ k, k < 3 → k ≠ j → rnC (x + 401) W.2.2.2.1 k = rnC (x + 401) V k) : aup (dkW h x W) (x + 401 + j) c = dkW h x (W.1, W.2.1, W.2.2.1, V, W.2.2.2.2) := by
  rw [Nat.add_assoc, up_rg]
  refine rg_sub2 (o := 401 + j) (by omega) (fun k hk => ?_) (fun k hk ho' => ?_)
  · obtain rfl : k = 0 := by omega
    rw [Nat.add_zero, dkC_rn]
    exact hc
  · unfold dkC
    by_cases e0 : k = 0
    · rw [if_pos e0, if_pos e0]
    · rw [if_neg e0, if_neg e0]
      by_cases e1 : k < 19
      · rw [if_pos e1, if_pos e1]
      · rw [if_neg e1, if_neg e1]
        by_cases e2 : k < 399
        · rw [if_pos e2, if_pos e2]
        · rw [if_neg e2, if_neg e2]
          by_cases e3 : k < 401
          · rw [if_pos e3, if_pos e3]
          · rw [if_neg e3, if_neg e3]
            exact ho (k - 401) (by omega) (by omega)
theorem dk_rn {m : Nat} {F G : Nat → Nat} (m' : Nat) : aup (dkW h x (W.1, W.2.1, W.2.2.1, (m, F, G), W.2.2.2.2)) (x + 401) (aB 5 [.ref (x + 401 + 1), .ref (x + 401 + 2), .int (iI m')]) = dkW h x (W.1, W.2.1, W.2.2.1, (m', F, G), W.2.2.2.2) :=
  dk_r1 (W := (W.1, W.2.1, W.2.2.1, (m, F, G), W.2.2.2.2)) (V := (m', F, G)) (j := 0) (by decide) rfl (fun k hk h0 => by
    obtain rfl | rfl : k = 1 ∨ k = 2 := by omega
    all_goals rfl)
theorem dk_rc {m : Nat} {F G : Nat → Nat} (F' : Nat → Nat) : aup (dkW h x (W.1, W.2.1, W.2.2.1, (m, F, G), W.2.2.2.2)) (x + 401 + 1) (aL 960 (fun i => lI (F' i))) = dkW h x (W.1, W.2.1, W.2.2.1, (m, F', G), W.2.2.2.2) :=
  dk_r1 (W := (W.1, W.2.1, W.2.2.1, (m, F, G), W.2.2.2.2)) (V := (m, F', G)) (j := 1) (by decide) rfl (fun k hk h0 => by
    obtain rfl | rfl : k = 0 ∨ k = 2 := by omega
    all_goals rfl)
theorem dk_rs {m : Nat} {F G : Nat → Nat} (G' : Nat → Nat) : aup (dkW h x (W.1, W.2.1, W.2.2.1, (m, F, G), W.2.2.2.2)) (x + 401 + 2) (aL 960 (fun i => lI (G' i))) = dkW h x (W.1, W.2.1, W.2.2.1, (m, F, G'), W.2.2.2.2) :=
  dk_r1 (W := (W.1, W.2.1, W.2.2.1, (m, F, G), W.2.2.2.2)) (V := (m, F, G')) (j := 2) (by decide) rfl (fun k hk h0 => by
    obtain rfl | rfl : k = 0 ∨ k = 1 := by omega
    all_goals rfl)
theorem dk_r : dkW h x W (x + 401) = some (aB 5 [.ref (x + 401 + 1), .ref (x + 401 + 2), .int (iI W.2.2.2.1.1)]) := dk_rend.1
theorem s_addEvent {c t : Nat} {o : Bool} (he : evOk e) (hc : cOk c) (ht : t < 4194304) : aE (d + 2) 154 [.ref (x + 401), .long (lI c), .int (iI t), .int (bI (o = true))] (dkW h x (W.1, W.2.1, W.2.2.1, ((e).1, (e).2, W.2.2.2.1.2.2), W.2.2.2.2), r) =
    some (.inl none, (dkW h x (W.1, W.2.1, W.2.2.1, ((evA e (vO t (if o = true then 1 else 0) (cT c) (cP c) (cF c))).1, (evA e (vO t (if o = true then 1 else 0) (cT c) (cP c) (cF c))).2, W.2.2.2.1.2.2), W.2.2.2.2), r)) := by
  have a1 := cT_lt hc
  have a2 := cP_lt c
  have a3 := cF_lt c
  have he1 := he.1
  by_cases q : e.1 < 960
  · have q2 : ¬ (960 : Int) ≤ (e.1 : Int) := by omega
    have e4 : evA e (vO t (if o = true then 1 else 0) (cT c) (cP c) (cF c)) = (e.1 + 1, upN e.2 e.1 (vO t (if o = true then 1 else 0) (cT c) (cP c) (cF c))) := if_pos q
    have e1 : (e.1 : Int) + 1 = ((e.1 + 1 : Nat) : Int) := by omega
    have pl := s_putLong (d := d) (h := dkW h x (W.1, W.2.1, W.2.2.1, ((e).1, (e).2, W.2.2.2.1.2.2), W.2.2.2.2)) (r := r) (x := lI (vO t (if o = true then 1 else 0) (cT c) (cP c) (cF c))) (j := (e.1 : Int)) dk_rend.2.1 (by omega) (by omega) (by decide)
    rw [Int.toNat_natCast, updL_N, dk_rc] at pl
    rw [e4]
    simp (disch := omega) only [e154, r154_0, r154_1, r154_4, r154_7, r154_10, r154_11, r154_14, r154_15, r154_18, r154_19, r154_21, r154_22, r154_25, r154_26, r154_29, r154_30, r154_33, r154_36, r154_39, r154_40i, r154_40, r154_41, r154_44, r154_45, r154_46, r154_49, dk_r, iI_le, q2, s_track hc, s_pitch hc, s_force hc, s_evOf ht a1 a2 a3, pl, iI_add, e1, sB2i, dk_rn, kl_n, kl_i, kl_r, kl_z, kl_l, kl_d, catS_0, catS_c, cat_i, cat_l, cat_d, cat_r, cat_n, kC_r, kC_x, Option.bind_some, Option.toList_some, Option.toList_none, List.cons_append, List.nil_append, gB0, gB1, gB2, gB3, gB4, rvB, nI_iI, i0, i1, l0_, wr_s, aup_s, and_true, true_and, and_self, eq_self, if_true, if_false, Nat.zero_le, Nat.reduceAdd, Nat.reduceLeDiff, gN_I, gN_L, gN_P, bI_0, bI_ok, z0, z1, Bool.true_eq, Bool.false_eq_true, not_true_eq_false, not_false_eq_true]
  · have q2 : (960 : Int) ≤ (e.1 : Int) := by omega
    have e4 : evA e (vO t (if o = true then 1 else 0) (cT c) (cP c) (cF c)) = e := if_neg q
    rw [e4]
    simp (disch := omega) only [e154, r154_0, r154_1, r154_4, r154_7, r154_10, r154_11, r154_14, r154_15, r154_18, r154_19, r154_21, r154_22, r154_25, r154_26, r154_29, r154_30, r154_33, r154_36, r154_39, r154_40i, r154_40, r154_41, r154_44, r154_45, r154_46, r154_49, dk_r, iI_le, q2, kl_n, kl_i, kl_r, kl_z, kl_l, kl_d, catS_0, catS_c, cat_i, cat_l, cat_d, cat_r, cat_n, kC_r, kC_x, Option.bind_some, Option.toList_some, Option.toList_none, List.cons_append, List.nil_append, gB0, gB1, gB2, gB3, gB4, rvB, nI_iI, i0, i1, l0_, wr_s, aup_s, and_true, true_and, and_self, eq_self, if_true, if_false, Nat.zero_le, Nat.reduceAdd, Nat.reduceLeDiff, gN_I, gN_L, gN_P, bI_0, bI_ok, z0, z1, Bool.true_eq, Bool.false_eq_true, not_true_eq_false, not_false_eq_true]
theorem s_addOnce {c l : Nat} {k : Int} (he : evOk e) (hc : cOk c) (hk : k < 2000000) (hk0 : -2147483648 ≤ k) (hl : l < 2000000) : aE (d + 3) 155 [.ref (x + 401), .long (lI c), .int (iI k), .int (iI l)] (dkW h x (W.1, W.2.1, W.2.2.1, ((e).1, (e).2, W.2.2.2.1.2.2), W.2.2.2.2), r) =
    some (.inl none, (dkW h x (W.1, W.2.1, W.2.2.1, ((evO c k l e).1, (evO c k l e).2, W.2.2.2.1.2.2), W.2.2.2.2), r)) := by
  have e1 : max (0 : Int) k = (((max 0 k).toNat : Nat) : Int) := by omega
  have p1 : (max 0 k).toNat < 2000000 := by omega
  have m1 := s_max (d := d + 1) (h := dkW h x (W.1, W.2.1, W.2.2.1, ((e).1, (e).2, W.2.2.2.1.2.2), W.2.2.2.2)) (r := r) (a := 0) (b := k) (by omega) (by omega) (by omega) (by omega)
  rw [e1] at m1
  have b1 := s_addEvent (d := d) (h := h) (r := r) (x := x) (W := W) (o := true) (t := (max 0 k).toNat) he hc (by omega)
  have b2 := s_addEvent (d := d) (h := h) (r := r) (x := x) (W := W) (o := false) (t := (max 0 k).toNat + l) (evA_ok he (vO_ok (t := (max 0 k).toNat) (o := 1) (by omega) (by omega) (cT_lt hc) (cP_lt c) (cF_lt c))) hc (by omega)
  rw [show bI (true = true) = iI 1 from rfl, show (if true = true then 1 else 0) = 1 from rfl] at b1
  rw [show bI (false = true) = iI 0 from rfl, show (if false = true then 1 else 0) = 0 from rfl, show ((((max 0 k).toNat + l : Nat) : Int)) = (((max 0 k).toNat : Nat) : Int) + (l : Int) by omega] at b2
  have e9 : evO c k l e = evA (evA e (vO (max 0 k).toNat 1 (cT c) (cP c) (cF c))) (vO ((max 0 k).toNat + l) 0 (cT c) (cP c) (cF c)) := rfl
  rw [e9]
  simp (disch := omega) only [e155, r155_0, r155_1, r155_2, r155_5, r155_7, r155_8, r155_9, r155_11, r155_12, r155_15, r155_16, r155_17, r155_19, r155_21, r155_22, r155_23, r155_26, m1, dk_r, b1, iI_add, b2, kl_n, kl_i, kl_r, kl_z, kl_l, kl_d, catS_0, catS_c, cat_i, cat_l, cat_d, cat_r, cat_n, kC_r, kC_x, Option.bind_some, Option.toList_some, Option.toList_none, List.cons_append, List.nil_append, gB0, gB1, gB2, gB3, gB4, rvB, nI_iI, i0, i1, l0_, wr_s, aup_s, and_true, true_and, and_self, eq_self, if_true, if_false, Nat.zero_le, Nat.reduceAdd, Nat.reduceLeDiff, gN_I, gN_L, gN_P, bI_0, bI_ok, z0, z1, Bool.true_eq, Bool.false_eq_true, not_true_eq_false, not_false_eq_true]
end
