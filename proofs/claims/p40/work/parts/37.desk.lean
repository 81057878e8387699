/-! ===== the desk: at x; its song at x + 1, its history at x + 19, its clipboard at x + 399, its rendering at x + 401 ===== -/
/-- which song holds now, how many behind, how many ahead, the songs -/
abbrev Hs : Type := Nat × Nat × Nat × (Nat → Sg)
abbrev Rn : Type := Nat × (Nat → Nat) × (Nat → Nat)
abbrev Dk : Type := Sg × Hs × NLv × Rn × Bool
def hsC (a : Nat) (v : Hs) (k : Nat) : aC :=
  if k = 0 then aB 0 [.ref (a + 1), .int (iI v.1), .int (iI v.2.1), .int (iI v.2.2.1)]
  else if k = 1 then aP (.object "OvertureDesk$Song") 21 (fun i => if i < 21 then some (a + 2 + 18 * i) else none)
  else sgC (a + 2 + 18 * ((k - 2) / 18)) (v.2.2.2 ((k - 2) / 18)) ((k - 2) % 18)
def rnC (a : Nat) (v : Rn) : Nat → aC
  | 0 => aB 5 [.ref (a + 1), .ref (a + 2), .int (iI v.1)]
  | 1 => aL 960 (fun i => lI (v.2.1 i))
  | _ => aL 960 (fun i => lI (v.2.2 i))
def dkC (x : Nat) (W : Dk) (k : Nat) : aC :=
  if k = 0 then aB 9 [.ref (x + 1), .ref (x + 19), .ref (x + 399), .ref (x + 401), .int (bI (W.2.2.2.2 = true))]
  else if k < 19 then sgC (x + 1) W.1 (k - 1)
  else if k < 399 then hsC (x + 19) W.2.1 (k - 19)
  else if k < 401 then nlC (x + 399) W.2.2.1 (k - 399)
  else rnC (x + 401) W.2.2.2.1 (k - 401)
abbrev dkW (h : aHf) (x : Nat) (W : Dk) : aHf := rgW h x 404 (dkC x W)
def upS (Q : Nat → Sg) (i : Nat) (S : Sg) : Nat → Sg := fun j => if j = i then S else Q j
section
variable {h : aHf} {x : Nat} {W : Dk}
theorem dkC_sg (k : Nat) (hk : k < 18) : dkC x W (1 + k) = sgC (x + 1) W.1 k := by
  unfold dkC
  rw [if_neg (by omega), if_pos (by omega), Nat.add_sub_cancel_left]
theorem dkC_hs (k : Nat) (hk : k < 380) : dkC x W (19 + k) = hsC (x + 19) W.2.1 k := by
  unfold dkC
  rw [if_neg (by omega), if_neg (by omega), if_pos (by omega), Nat.add_sub_cancel_left]
theorem dkC_cl (k : Nat) (hk : k < 2) : dkC x W (399 + k) = nlC (x + 399) W.2.2.1 k := by
  unfold dkC
  rw [if_neg (by omega), if_neg (by omega), if_neg (by omega), if_pos (by omega), Nat.add_sub_cancel_left]
theorem dkC_rn (k : Nat) : dkC x W (401 + k) = rnC (x + 401) W.2.2.2.1 k := by
  unfold dkC
  rw [if_neg (by omega), if_neg (by omega), if_neg (by omega), if_neg (by omega), Nat.add_sub_cancel_left]
theorem hsC_sg {a : Nat} {v : Hs} {i : Nat} (k : Nat) (hk : k < 18) : hsC a v (2 + 18 * i + k) = sgC (a + 2 + 18 * i) (v.2.2.2 i) k := by
  unfold hsC
  rw [if_neg (by omega), if_neg (by omega), show (2 + 18 * i + k - 2) / 18 = i by omega, show (2 + 18 * i + k - 2) % 18 = k by omega]
theorem dk_0 : dkW h x W x = some (aB 9 [.ref (x + 1), .ref (x + 19), .ref (x + 399), .ref (x + 401), .int (bI (W.2.2.2.2 = true))]) := rg_at (k := 0) (by decide)
theorem dk_song : sgI (dkW h x W) (x + 1) W.1 := fun k hk => by
  rw [Nat.add_assoc]
  exact (rg_at (show 1 + k < 404 by omega)).trans (congrArg some (dkC_sg k hk))
theorem dk_hist : dkW h x W (x + 19) = some (aB 0 [.ref (x + 19 + 1), .int (iI W.2.1.1), .int (iI W.2.1.2.1), .int (iI W.2.1.2.2.1)]) := rg_at (k := 19) (by decide)
theorem dk_songs : dkW h x W (x + 19 + 1) = some (aP (.object "OvertureDesk$Song") 21 (fun i => if i < 21 then some (x + 19 + 2 + 18 * i) else none)) := rg_at (k := 20) (by decide)
theorem dk_kept {i : Nat} (hi : i < 21) : sgI (dkW h x W) (x + 19 + 2 + 18 * i) (W.2.1.2.2.2 i) := fun k hk => by
  rw [show x + 19 + 2 + 18 * i + k = x + (19 + (2 + 18 * i + k)) by omega]
  refine (rg_at (show 19 + (2 + 18 * i + k) < 404 by omega)).trans (congrArg some ?_)
  rw [dkC_hs _ (by omega), hsC_sg k hk]
theorem dk_clip : dkW h x W (x + 399) = some (aB 4 [.ref (x + 399 + 1), .int (iI W.2.2.1.1)]) ∧ dkW h x W (x + 399 + 1) = some (aL 60 (fun i => lI (W.2.2.1.2 i))) :=
  ⟨rg_at (k := 399) (by decide), rg_at (k := 400) (by decide)⟩
theorem dk_rend : dkW h x W (x + 401) = some (aB 5 [.ref (x + 401 + 1), .ref (x + 401 + 2), .int (iI W.2.2.2.1.1)]) ∧ dkW h x W (x + 401 + 1) = some (aL 960 (fun i => lI (W.2.2.2.1.2.1 i))) ∧ dkW h x W (x + 401 + 2) = some (aL 960 (fun i => lI (W.2.2.2.1.2.2 i))) :=
  ⟨rg_at (k := 401) (by decide), rg_at (k := 402) (by decide), rg_at (k := 403) (by decide)⟩
theorem dkC_k {W' : Dk} {o m : Nat} (h0 : (o = 0 ∧ m = 1) ∨ W.2.2.2.2 = W'.2.2.2.2) (h1 : (o = 1 ∧ m = 18) ∨ W.1 = W'.1) (h2 : (o = 19 ∧ m = 380) ∨ W.2.1 = W'.2.1) (h3 : (o = 399 ∧ m = 2) ∨ W.2.2.1 = W'.2.2.1) (h4 : (o = 401 ∧ m = 3) ∨ W.2.2.2.1 = W'.2.2.2.1) (k : Nat) (hk : k < 404) (ho : k < o ∨ o + m ≤ k) : dkC x W k = dkC x W' k := by
  unfold dkC
  by_cases e0 : k = 0
  · rw [if_pos e0, if_pos e0, h0.resolve_left (by omega)]
  · rw [if_neg e0, if_neg e0]
    by_cases e1 : k < 19
    · rw [if_pos e1, if_pos e1, h1.resolve_left (by omega)]
    · rw [if_neg e1, if_neg e1]
      by_cases e2 : k < 399
      · rw [if_pos e2, if_pos e2, h2.resolve_left (by omega)]
      · rw [if_neg e2, if_neg e2]
        by_cases e3 : k < 401
        · rw [if_pos e3, if_pos e3, h3.resolve_left (by omega)]
        · rw [if_neg e3, if_neg e3, h4.resolve_left (by omega)]
theorem dk_sg {S : Sg} : sgW (dkW h x W) (x + 1) S = dkW h x (S, W.2) :=
  rg_sub2 (by decide) (fun k hk => (dkC_sg (x := x) (W := (S, W.2)) k hk).symm) (dkC_k (Or.inr rfl) (Or.inl ⟨rfl, rfl⟩) (Or.inr rfl) (Or.inr rfl) (Or.inr rfl))
theorem dk_hs {c : Nat → aC} {V : Hs} (hc : ∀ k, k < 380 → c k = hsC (x + 19) V k) : rgW (dkW h x W) (x + 19) 380 c = dkW h x (W.1, V, W.2.2) :=
  rg_sub2 (by decide) (fun k hk => (hc k hk).trans (dkC_hs (x := x) (W := (W.1, V, W.2.2)) k hk).symm) (dkC_k (Or.inr rfl) (Or.inr rfl) (Or.inl ⟨rfl, rfl⟩) (Or.inr rfl) (Or.inr rfl))
theorem rg_id {b n o m : Nat} {c c' : Nat → aC} (hm : o + m ≤ n) (h1 : ∀ k, k < m → c' k = c (o + k)) : rgW (rgW h b n c) (b + o) m c' = rgW h b n c := rg_sub2 hm h1 (fun _ _ _ => rfl)
theorem dk_ho {p q s : Nat} : aup (dkW h x W) (x + 19) (aB 0 [.ref (x + 19 + 1), .int (iI p), .int (iI q), .int (iI s)]) = dkW h x (W.1, (p, q, s, W.2.1.2.2.2), W.2.2) := by
  rw [up_rg]
  refine rg_sub2 (o := 19) (by decide) (fun k hk => ?_) (fun k hk ho => ?_)
  · obtain rfl : k = 0 := by omega
    rfl
  · unfold dkC
    by_cases e0 : k = 0
    · rw [if_pos e0, if_pos e0]
    · rw [if_neg e0, if_neg e0]
      by_cases e1 : k < 19
      · rw [if_pos e1, if_pos e1]
      · rw [if_neg e1, if_neg e1]
        by_cases e2 : k < 399
        · have n0 : ¬ k - 19 = 0 := by omega
          rw [if_pos e2, if_pos e2]
          unfold hsC
          simp only [n0, if_false]
        · rw [if_neg e2, if_neg e2]
theorem dk_ks {i : Nat} {S : Sg} (hi : i < 21) : sgW (dkW h x W) (x + 19 + 2 + 18 * i) S = dkW h x (W.1, (W.2.1.1, W.2.1.2.1, W.2.1.2.2.1, upS W.2.1.2.2.2 i S), W.2.2) := by
  have e : x + 19 + 2 + 18 * i = x + (21 + 18 * i) := by omega
  unfold sgW
  rw [show rgW (dkW h x W) (x + 19 + 2 + 18 * i) 18 (sgC (x + 19 + 2 + 18 * i) S) = rgW (dkW h x W) (x + (21 + 18 * i)) 18 (sgC (x + 19 + 2 + 18 * i) S) by rw [e]]
  refine rg_sub2 (by omega) (fun k hk => ?_) (fun k hk ho => ?_)
  · rw [show 21 + 18 * i + k = 19 + (2 + 18 * i + k) by omega, dkC_hs _ (by omega), hsC_sg k hk]
    show _ = sgC _ (upS W.2.1.2.2.2 i S i) k
    unfold upS
    rw [if_pos rfl]
  · unfold dkC
    by_cases e0 : k = 0
    · rw [if_pos e0, if_pos e0]
    · rw [if_neg e0, if_neg e0]
      by_cases e1 : k < 19
      · rw [if_pos e1, if_pos e1]
      · rw [if_neg e1, if_neg e1]
        by_cases e2 : k < 399
        · rw [if_pos e2, if_pos e2]
          unfold hsC
          by_cases e3 : k - 19 = 0
          · rw [if_pos e3, if_pos e3]
          · rw [if_neg e3, if_neg e3]
            by_cases e4 : k - 19 = 1
            · rw [if_pos e4, if_pos e4]
            · rw [if_neg e4, if_neg e4]
              show _ = sgC _ (upS W.2.1.2.2.2 i S ((k - 19 - 2) / 18)) _
              unfold upS
              rw [if_neg (by omega)]
        · rw [if_neg e2, if_neg e2]
theorem dk_cl {n : Nat} {F : Nat → Nat} : nlW (dkW h x W) (x + 399) n F = dkW h x (W.1, W.2.1, (n, F), W.2.2.2) := by
  rw [nl_rg]
  exact rg_sub2 (o := 399) (by decide) (fun k hk => (dkC_cl (x := x) (W := (W.1, W.2.1, (n, F), W.2.2.2)) k hk).symm) (dkC_k (Or.inr rfl) (Or.inr rfl) (Or.inr rfl) (Or.inl ⟨rfl, rfl⟩) (Or.inr rfl))
theorem dk_g {g : Bool} : aup (dkW h x W) x (aB 9 [.ref (x + 1), .ref (x + 19), .ref (x + 399), .ref (x + 401), .int (bI (g = true))]) = dkW h x (W.1, W.2.1, W.2.2.1, W.2.2.2.1, g) := by
  rw [up_rg]
  exact rg_sub2 (o := 0) (by decide) (fun k hk => by obtain rfl : k = 0 := by omega
                                                     rfl) (dkC_k (Or.inl ⟨rfl, rfl⟩) (Or.inr rfl) (Or.inr rfl) (Or.inr rfl) (Or.inr rfl))
theorem dk_sid : sgW (dkW h x W) (x + 1) W.1 = dkW h x W := dk_sg
theorem dk_nl {n : Nat} {F : Nat → Nat} : nlW (dkW h x W) (x + 1 + 1) n F = dkW h x (((n, F), W.1.2), W.2) := by
  rw [← dk_sid, sg_nl, dk_sg]
theorem dk_ts {M : Nat → Nat} {X D : Nat → Int} : tsW (dkW h x W) (x + 1 + 3) M X D = dkW h x ((W.1.1, (M, X, D), W.1.2.2), W.2) := by
  rw [← dk_sid, sg_ts, dk_sg]
theorem dk_sp {n : Nat} {P A B : Nat → Nat} : mkW (dkW h x W) (x + 1 + 7 + 1) n P A B = dkW h x ((W.1.1, W.1.2.1, (n, P, A, B), W.1.2.2.2), W.2) := by
  rw [← dk_sid, sg_sp, dk_sg]
theorem dk_mt {n : Nat} {P A B : Nat → Nat} : mkW (dkW h x W) (x + 1 + 12 + 1) n P A B = dkW h x ((W.1.1, W.1.2.1, W.1.2.2.1, (n, P, A, B), W.1.2.2.2.2), W.2) := by
  rw [← dk_sid, sg_mt, dk_sg]
theorem dk_lp {f t y : Nat} : aup (dkW h x W) (x + 1 + 17) (aB 1 [.int (iI f), .int (iI t), .int (iI y)]) = dkW h x ((W.1.1, W.1.2.1, W.1.2.2.1, W.1.2.2.2.1, (f, t, y)), W.2) := by
  rw [← dk_sid, sg_lp, dk_sg]
end
section
variable {h : aHf} {x : Nat} {W : Dk}
theorem dk_1 : dkW h x W (x + 1) = some (aB 6 [.ref (x + 1 + 1), .ref (x + 1 + 3), .ref (x + 1 + 7), .ref (x + 1 + 12), .ref (x + 1 + 17)]) := sgI_o dk_song
theorem dk_2 : dkW h x W (x + 1 + 1) = some (aB 4 [.ref (x + 1 + 1 + 1), .int (iI W.1.1.1)]) := (sgI_nl dk_song).1
theorem dk_tsI : tsI (dkW h x W) (x + 1 + 3) W.1.2.1.1 W.1.2.1.2.1 W.1.2.1.2.2 := sgI_ts dk_song
theorem dk_8 : dkW h x W (x + 1 + 7) = some (aB 7 [.ref (x + 1 + 7 + 1)]) := sgI_7 dk_song
theorem dk_spI : mkI (dkW h x W) (x + 1 + 7 + 1) W.1.2.2.1.1 W.1.2.2.1.2.1 W.1.2.2.1.2.2.1 W.1.2.2.1.2.2.2 := sgI_sp dk_song
theorem dk_13 : dkW h x W (x + 1 + 12) = some (aB 3 [.ref (x + 1 + 12 + 1)]) := sgI_12 dk_song
theorem dk_mtI : mkI (dkW h x W) (x + 1 + 12 + 1) W.1.2.2.2.1.1 W.1.2.2.2.1.2.1 W.1.2.2.2.1.2.2.1 W.1.2.2.2.1.2.2.2 := sgI_mt dk_song
theorem dk_18 : dkW h x W (x + 1 + 17) = some (aB 1 [.int (iI W.1.2.2.2.2.1), .int (iI W.1.2.2.2.2.2.1), .int (iI W.1.2.2.2.2.2.2)]) := sgI_lp dk_song
end
/-! the history -/
section
variable {d : Nat} {h : aHf} {r : Nat × Nat × Nat × Nat} {x : Nat} {W : Dk}
theorem fm_x : ∀ m : Fin 101, iI 0 ≤ iI ((m.val : Nat) : Int) ^^^ iI 21 := by decide +kernel
theorem s_fmod {v : Nat} (hv : v ≤ 100) : aE (d + 1) 261 [.int (iI v), .int (iI 21)] (h, r) = some (.inl (some (.int (iI (v % 21 : Nat)))), (h, r)) := by
  have e1 : (v : Int) / 21 = ((v / 21 : Nat) : Int) := rfl
  have e2 : (v : Int) - ((v / 21 : Nat) : Int) * 21 = ((v % 21 : Nat) : Int) := by omega
  have c1 : ¬ (21 : Int) = 0 := by omega
  have c2 := fm_x ⟨v, by omega⟩
  simp (disch := omega) only [e261, r261_0, r261_1, r261_2, r261_3, r261_4, r261_5, r261_6, r261_7, r261_10, r261_11, r261_14, r261_15, r261_16, r261_17, r261_18, r261_19, iI_eq, c1, iI_div, e1, iI_mul, iI_sub, e2, c2, kl_n, kl_i, kl_r, kl_z, kl_l, kl_d, catS_0, catS_c, cat_i, cat_l, cat_d, cat_r, cat_n, kC_r, kC_x, Option.bind_some, Option.toList_some, Option.toList_none, List.cons_append, List.nil_append, gB0, gB1, gB2, gB3, gB4, rvB, nI_iI, i0, i1, l0_, wr_s, aup_s, and_true, true_and, and_self, eq_self, if_true, if_false, Nat.zero_le, Nat.reduceAdd, Nat.reduceLeDiff, gN_I, gN_L, gN_P, bI_0, bI_ok, z0, z1, Bool.true_eq, Bool.false_eq_true, not_true_eq_false, not_false_eq_true]
theorem s_fmodN : aE (d + 1) 261 [.int (iI (-1)), .int (iI 21)] (h, r) = some (.inl (some (.int (iI (20 : Nat)))), (h, r)) := by
  have c1 : ¬ iI 21 = iI 0 := by decide
  have e1 : iI (-1) - iI (-1) / iI 21 * iI 21 = iI (-1) := by decide
  have c2 : ¬ iI 0 ≤ iI (-1) ^^^ iI 21 := by decide
  have c3 : ¬ iI (-1) = iI 0 := by decide
  have e2 : iI (-1) + iI 21 = iI (20 : Nat) := by decide
  simp only [e261, r261_0, r261_1, r261_2, r261_3, r261_4, r261_5, r261_6, r261_7, r261_10, r261_11, r261_14, r261_15, r261_16, r261_17, r261_18, r261_19, c1, e1, c2, c3, e2, kl_n, kl_i, kl_r, kl_z, kl_l, kl_d, catS_0, catS_c, cat_i, cat_l, cat_d, cat_r, cat_n, kC_r, kC_x, Option.bind_some, Option.toList_some, Option.toList_none, List.cons_append, List.nil_append, gB0, gB1, gB2, gB3, gB4, rvB, nI_iI, i0, i1, l0_, wr_s, aup_s, and_true, true_and, and_self, eq_self, if_true, if_false, Nat.zero_le, Nat.reduceAdd, Nat.reduceLeDiff, gN_I, gN_L, gN_P, bI_0, bI_ok, z0, z1, Bool.true_eq, Bool.false_eq_true, not_true_eq_false, not_false_eq_true]
theorem s_songAt {i : Nat} (hi : i < 21) : aE (d + 1) 106 [.ref (x + 19), .int (iI i)] (dkW h x W, r) = some (.inl (some (.ref (x + 19 + 2 + 18 * i))), (dkW h x W, r)) := by
  have c1 : ¬ (i : Int) < 0 := by omega
  have c2 : ¬ ((21 : Nat) : Int) ≤ i := by omega
  have e1 : va_rf (if i < 21 then some (x + 19 + 2 + 18 * i) else none) = .ref (x + 19 + 2 + 18 * i) := by rw [if_pos hi]; rfl
  simp (disch := omega) only [e106, r106_0, r106_1, r106_4, r106_5, r106_6, r106_9, r106_10, r106_13, r106_14, r106_17, r106_18, r106_19, r106_22, r106_23, r106_23n, dk_hist, dk_songs, iI_lt, iI_le, c1, c2, gP_P, Int.toNat_natCast, e1, kl_n, kl_i, kl_r, kl_z, kl_l, kl_d, catS_0, catS_c, cat_i, cat_l, cat_d, cat_r, cat_n, kC_r, kC_x, Option.bind_some, Option.toList_some, Option.toList_none, List.cons_append, List.nil_append, gB0, gB1, gB2, gB3, gB4, rvB, nI_iI, i0, i1, l0_, wr_s, aup_s, and_true, true_and, and_self, eq_self, if_true, if_false, Nat.zero_le, Nat.reduceAdd, Nat.reduceLeDiff, gN_I, gN_L, gN_P, bI_0, bI_ok, z0, z1, Bool.true_eq, Bool.false_eq_true, not_true_eq_false, not_false_eq_true]
/-- a change is kept -/
def kpW (W : Dk) : Dk := (W.1, ((W.2.1.1 + 1) % 21, min (W.2.1.2.1 + 1) 20, 0, upS W.2.1.2.2.2 ((W.2.1.1 + 1) % 21) (tkS (W.2.1.2.2.2 ((W.2.1.1 + 1) % 21)) W.1)), W.2.2)
def hsOk (V : Hs) : Prop := V.1 < 21 ∧ V.2.1 ≤ 20 ∧ V.2.2.1 ≤ 20 ∧ ∀ i, sgOk (V.2.2.2 i)
theorem s_keep (hS : sgOk W.1) (hH : hsOk W.2.1) : aE (d + 5) 107 [.ref (x + 19), .ref (x + 1)] (dkW h x W, r) =
    some (.inl (some (.int (bI (¬ lkS (W.2.1.2.2.2 W.2.1.1) W.1)))), (dkW h x (if lkS (W.2.1.2.2.2 W.2.1.1) W.1 then W else kpW W), r)) := by
  obtain ⟨g1, g2, g3, g4⟩ := hH
  have k1 := s_slike (d := d) (r := r) (dk_kept (h := h) (x := x) (W := W) g1) (dk_song (h := h) (x := x) (W := W)) (g4 _) hS
  by_cases q : lkS (W.2.1.2.2.2 W.2.1.1) W.1
  · have e9 : bI (¬ lkS (W.2.1.2.2.2 W.2.1.1) W.1) = iI 0 := if_neg (fun z => z q)
    rw [if_pos q, e9]
    simp (disch := omega) only [e107, r107_0, r107_1, r107_2, r107_5, r107_8, r107_9, r107_10, r107_10n, r107_13, r107_14, r107_15, r107_18, r107_21, r107_22, r107_23, r107_24, r107_25, r107_28, r107_29, r107_30, r107_32, r107_35, r107_38, r107_39, r107_40, r107_43, r107_44, r107_45, r107_47, r107_50, r107_53, r107_54, r107_55, r107_58, r107_59, r107_60, r107_63, r107_66, r107_67, r107_68, r107_68n, r107_71, r107_72, r107_73, r107_76, r107_77, dk_hist, s_songAt g1, k1, sgI_o (dk_kept (h := h) (x := x) (W := W) g1), kl_n, kl_i, kl_r, kl_z, kl_l, kl_d, catS_0, catS_c, cat_i, cat_l, cat_d, cat_r, cat_n, kC_r, kC_x, Option.bind_some, Option.toList_some, Option.toList_none, List.cons_append, List.nil_append, gB0, gB1, gB2, gB3, gB4, rvB, nI_iI, i0, i1, l0_, wr_s, aup_s, and_true, true_and, and_self, eq_self, if_true, if_false, Nat.zero_le, Nat.reduceAdd, Nat.reduceLeDiff, gN_I, gN_L, gN_P, bI_0, bI_ok, z0, z1, Bool.true_eq, Bool.false_eq_true, not_true_eq_false, not_false_eq_true]
    rw [if_neg (fun z => z q)]
  · have e9 : bI (¬ lkS (W.2.1.2.2.2 W.2.1.1) W.1) = iI 1 := if_pos q
    have e1 : (W.2.1.1 : Int) + 1 = ((W.2.1.1 + 1 : Nat) : Int) := by omega
    have e2 : (W.2.1.2.1 : Int) + 1 = ((W.2.1.2.1 + 1 : Nat) : Int) := by omega
    have e3 : min ((W.2.1.2.1 + 1 : Nat) : Int) 20 = ((min (W.2.1.2.1 + 1) 20 : Nat) : Int) := by omega
    have e4 : iI 0 = iI ((0 : Nat) : Int) := rfl
    have hj : (W.2.1.1 + 1) % 21 < 21 := Nat.mod_lt _ (by decide)
    have k2 : ∀ V : Dk, V.1 = W.1 → aE (d + 4) 168 [.ref (x + 19 + 2 + 18 * ((W.2.1.1 + 1) % 21)), .ref (x + 1)] (dkW h x V, r) = some (.inl none, (dkW h x (V.1, (V.2.1.1, V.2.1.2.1, V.2.1.2.2.1, upS V.2.1.2.2.2 ((W.2.1.1 + 1) % 21) (tkS (V.2.1.2.2.2 ((W.2.1.1 + 1) % 21)) V.1)), V.2.2), r)) := by
      intro V hV
      have e := s_stake (d := d) (r := r) (b := x + 19 + 2 + 18 * ((W.2.1.1 + 1) % 21)) (S := V.2.1.2.2.2 ((W.2.1.1 + 1) % 21)) (dk_song (h := h) (x := x) (W := V)) (by omega) (by rw [hV]; exact hS)
      rw [dk_ks hj, dk_ks hj] at e
      rw [← e]
      have e5 : dkW h x (V.1, (V.2.1.1, V.2.1.2.1, V.2.1.2.2.1, upS V.2.1.2.2.2 ((W.2.1.1 + 1) % 21) (V.2.1.2.2.2 ((W.2.1.1 + 1) % 21))), V.2.2) = dkW h x V := by
        have e6 : upS V.2.1.2.2.2 ((W.2.1.1 + 1) % 21) (V.2.1.2.2.2 ((W.2.1.1 + 1) % 21)) = V.2.1.2.2.2 := by
          funext j
          unfold upS
          by_cases e7 : j = (W.2.1.1 + 1) % 21
          · rw [if_pos e7, e7]
          · rw [if_neg e7]
        rw [e6]
      rw [e5]
    rw [if_neg q, e9]
    simp (disch := omega) only [e107, r107_0, r107_1, r107_2, r107_5, r107_8, r107_9, r107_10, r107_13, r107_14, r107_15, r107_18, r107_23, r107_24, r107_25, r107_28, r107_29, r107_30, r107_32, r107_35, r107_38, r107_39, r107_40, r107_43, r107_44, r107_45, r107_47, r107_50, r107_53, dk_hist, s_songAt g1, k1, sgI_o (dk_kept (h := h) (x := x) (W := W) g1), iI_add, e1, s_fmod, sB1i, dk_ho, e2, s_min, e3, sB2i, kl_n, kl_i, kl_r, kl_z, kl_l, kl_d, catS_0, catS_c, cat_i, cat_l, cat_d, cat_r, cat_n, kC_r, kC_x, Option.bind_some, Option.toList_some, Option.toList_none, List.cons_append, List.nil_append, gB0, gB1, gB2, gB3, gB4, rvB, nI_iI, i0, i1, l0_, wr_s, aup_s, and_true, true_and, and_self, eq_self, if_true, if_false, Nat.zero_le, Nat.reduceAdd, Nat.reduceLeDiff, gN_I, gN_L, gN_P, bI_0, bI_ok, z0, z1, Bool.true_eq, Bool.false_eq_true, not_true_eq_false, not_false_eq_true]
    rw [if_pos q, r107_54, e4]
    simp only [r107_0, r107_1, r107_2, r107_5, r107_8, r107_9, r107_10, r107_10n, r107_13, r107_14, r107_15, r107_18, r107_21, r107_22, r107_23, r107_24, r107_25, r107_28, r107_29, r107_30, r107_32, r107_35, r107_38, r107_39, r107_40, r107_43, r107_44, r107_45, r107_47, r107_50, r107_53, r107_54, r107_55, r107_58, r107_59, r107_60, r107_63, r107_66, r107_67, r107_68, r107_68n, r107_71, r107_72, r107_73, r107_76, r107_77, dk_hist, sB3i, dk_ho, s_songAt hj, sgI_o (dk_kept (h := h) (x := x) hj), k2 (W.1, ((W.2.1.1 + 1) % 21, min (W.2.1.2.1 + 1) 20, 0, W.2.1.2.2.2), W.2.2) rfl, kl_n, kl_i, kl_r, kl_z, kl_l, kl_d, catS_0, catS_c, cat_i, cat_l, cat_d, cat_r, cat_n, kC_r, kC_x, Option.bind_some, Option.toList_some, Option.toList_none, List.cons_append, List.nil_append, gB0, gB1, gB2, gB3, gB4, rvB, nI_iI, i0, i1, l0_, wr_s, aup_s, and_true, true_and, and_self, eq_self, if_true, if_false, Nat.zero_le, Nat.reduceAdd, Nat.reduceLeDiff, gN_I, gN_L, gN_P, bI_0, bI_ok, z0, z1, Bool.true_eq, Bool.false_eq_true, not_true_eq_false, not_false_eq_true]
    rfl
/-- one step through the history -/
def stW (W : Dk) (n b a : Nat) : Dk := (tkS W.1 (W.2.1.2.2.2 n), (n, b, a, W.2.1.2.2.2), W.2.2)
theorem k_take {j : Nat} (hj : j < 21) (hT : sgOk (W.2.1.2.2.2 j)) : aE (d + 4) 168 [.ref (x + 1), .ref (x + 19 + 2 + 18 * j)] (dkW h x W, r) = some (.inl none, (dkW h x (tkS W.1 (W.2.1.2.2.2 j), W.2), r)) := by
  have e := s_stake (d := d) (r := r) (b := x + 1) (S := W.1) (dk_kept (h := h) (x := x) (W := W) hj) (by omega) hT
  rw [dk_sid, dk_sg] at e
  exact e
theorem s_stepBack (hH : hsOk W.2.1) (hb : 0 < W.2.1.2.1) : aE (d + 6) 109 [.ref (x + 19), .ref (x + 1)] (dkW h x W, r) = some (.inl none, (dkW h x (stW W ((W.2.1.1 + 20) % 21) (W.2.1.2.1 - 1) (W.2.1.2.2.1 + 1)), r)) := by
  obtain ⟨g1, g2, g3, g4⟩ := hH
  have e1 : (W.2.1.2.1 : Int) + -1 = ((W.2.1.2.1 - 1 : Nat) : Int) := by omega
  have e2 : (W.2.1.2.2.1 : Int) - -1 = ((W.2.1.2.2.1 + 1 : Nat) : Int) := by omega
  have hj : (W.2.1.1 + 20) % 21 < 21 := Nat.mod_lt _ (by decide)
  have hk := k_take (d := d) (h := h) (r := r) (x := x) (W := (W.1, ((W.2.1.1 + 20) % 21, W.2.1.2.1 - 1, W.2.1.2.2.1 + 1, W.2.1.2.2.2), W.2.2)) hj (g4 _)
  have hf : aE (d + 4) 261 [.int (iI ((W.2.1.1 : Int) + -1)), .int (iI 21)] (dkW h x W, r) = some (.inl (some (.int (iI ((W.2.1.1 + 20) % 21 : Nat)))), (dkW h x W, r)) := by
    by_cases q : W.2.1.1 = 0
    · rw [q]
      exact s_fmodN
    · rw [show (W.2.1.1 : Int) + -1 = ((W.2.1.1 - 1 : Nat) : Int) by omega, s_fmod (by omega), show (W.2.1.1 - 1) % 21 = (W.2.1.1 + 20) % 21 by omega]
  simp only [e109, r109_0, r109_1, r109_2, r109_3, r109_6, e108, r108_0, r108_1, r108_2, r108_5, r108_6, r108_7, r108_9, r108_12, r108_15, r108_16i, r108_16, r108_17, r108_20, r108_21, r108_22, r108_25, r108_26i, r108_26, r108_27, r108_30, r108_31, r108_32, r108_35, r108_36, r108_37, r108_40, r108_43, r108_44, r108_45, r108_45n, r108_48, r108_49, r108_50, r108_53, dk_hist, iI_add, iI_sub, hf, sB1i, sB2i, sB3i, dk_ho, e1, e2, s_songAt hj, hk, dk_1, sgI_o (dk_kept (h := h) (x := x) hj), kl_n, kl_i, kl_r, kl_z, kl_l, kl_d, catS_0, catS_c, cat_i, cat_l, cat_d, cat_r, cat_n, kC_r, kC_x, Option.bind_some, Option.toList_some, Option.toList_none, List.cons_append, List.nil_append, gB0, gB1, gB2, gB3, gB4, rvB, nI_iI, i0, i1, l0_, wr_s, aup_s, and_true, true_and, and_self, eq_self, if_true, if_false, Nat.zero_le, Nat.reduceAdd, Nat.reduceLeDiff, gN_I, gN_L, gN_P, bI_0, bI_ok, z0, z1, Bool.true_eq, Bool.false_eq_true, not_true_eq_false, not_false_eq_true]
  rfl
theorem s_stepAhead (hH : hsOk W.2.1) (ha : 0 < W.2.1.2.2.1) : aE (d + 6) 110 [.ref (x + 19), .ref (x + 1)] (dkW h x W, r) = some (.inl none, (dkW h x (stW W ((W.2.1.1 + 1) % 21) (W.2.1.2.1 + 1) (W.2.1.2.2.1 - 1)), r)) := by
  obtain ⟨g1, g2, g3, g4⟩ := hH
  have e0 : (W.2.1.1 : Int) + 1 = ((W.2.1.1 + 1 : Nat) : Int) := by omega
  have e1 : (W.2.1.2.1 : Int) + 1 = ((W.2.1.2.1 + 1 : Nat) : Int) := by omega
  have e2 : (W.2.1.2.2.1 : Int) - 1 = ((W.2.1.2.2.1 - 1 : Nat) : Int) := by omega
  have hj : (W.2.1.1 + 1) % 21 < 21 := Nat.mod_lt _ (by decide)
  have hk := k_take (d := d) (h := h) (r := r) (x := x) (W := (W.1, ((W.2.1.1 + 1) % 21, W.2.1.2.1 + 1, W.2.1.2.2.1 - 1, W.2.1.2.2.2), W.2.2)) hj (g4 _)
  simp only [e110, r110_0, r110_1, r110_2, r110_3, r110_6, e108, r108_0, r108_1, r108_2, r108_5, r108_6, r108_7, r108_9, r108_12, r108_15, r108_16i, r108_16, r108_17, r108_20, r108_21, r108_22, r108_25, r108_26i, r108_26, r108_27, r108_30, r108_31, r108_32, r108_35, r108_36, r108_37, r108_40, r108_43, r108_44, r108_45, r108_45n, r108_48, r108_49, r108_50, r108_53, dk_hist, iI_add, iI_sub, e0, s_fmod (show W.2.1.1 + 1 ≤ 100 by omega), sB1i, sB2i, sB3i, dk_ho, e1, e2, s_songAt hj, hk, dk_1, sgI_o (dk_kept (h := h) (x := x) hj), kl_n, kl_i, kl_r, kl_z, kl_l, kl_d, catS_0, catS_c, cat_i, cat_l, cat_d, cat_r, cat_n, kC_r, kC_x, Option.bind_some, Option.toList_some, Option.toList_none, List.cons_append, List.nil_append, gB0, gB1, gB2, gB3, gB4, rvB, nI_iI, i0, i1, l0_, wr_s, aup_s, and_true, true_and, and_self, eq_self, if_true, if_false, Nat.zero_le, Nat.reduceAdd, Nat.reduceLeDiff, gN_I, gN_L, gN_P, bI_0, bI_ok, z0, z1, Bool.true_eq, Bool.false_eq_true, not_true_eq_false, not_false_eq_true]
  rfl
/-- behind a change -/
def seW (W : Dk) : Dk := if W.2.2.2.2 = true ∨ lkS (W.2.1.2.2.2 W.2.1.1) W.1 then W else kpW W
theorem s_settle (hS : sgOk W.1) (hH : hsOk W.2.1) : aE (d + 6) 37 [.ref x] (dkW h x W, r) = some (.inl none, (dkW h x (seW W), r)) := by
  simp only [e37, r37_0, r37_1, r37_4, r37_7, r37_8, r37_11, r37_12, r37_15, r37_18i, r37_18, r37_19, dk_0, dk_hist, s_keep hS hH, kl_n, kl_i, kl_r, kl_z, kl_l, kl_d, catS_0, catS_c, cat_i, cat_l, cat_d, cat_r, cat_n, kC_r, kC_x, Option.bind_some, Option.toList_some, Option.toList_none, List.cons_append, List.nil_append, gB0, gB1, gB2, gB3, gB4, rvB, nI_iI, i0, i1, l0_, wr_s, aup_s, and_true, true_and, and_self, eq_self, if_true, if_false, Nat.zero_le, Nat.reduceAdd, Nat.reduceLeDiff, gN_I, gN_L, gN_P, bI_0, bI_ok, z0, z1, Bool.true_eq, Bool.false_eq_true, not_true_eq_false, not_false_eq_true]
  unfold seW
  by_cases q : W.2.2.2.2 = true
  · rw [if_neg (fun z => z q), if_pos (Or.inl q)]
  · rw [if_pos q]
    by_cases q2 : lkS (W.2.1.2.2.2 W.2.1.1) W.1
    · rw [if_pos q2, if_pos (Or.inr q2)]
    · rw [if_neg q2, if_neg (fun z => z.elim q q2)]
end
