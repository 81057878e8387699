/-! ===== the calls that the law makes, each with what it leaves ===== -/
section
variable {d x : Nat} {g : Nat × Nat} {W : Dk}
theorem v_write {t k l p f : Nat} (hI : Inv W) (ht : t ≤ 5) (hk : k ≤ 9599) (hl : 1 ≤ l ∧ l ≤ 960) (hp : p ≤ 127) (hf : 1 ≤ f ∧ f ≤ 127) :
    (∃ (pl : Nat) (W' : Dk), pl ≤ W.1.1.1 ∧ W'.1.1.1 = W.1.1.1 + 1 ∧ Inv W' ∧ OkI x g W W' (.int (iI pl)) (fun H => aE (d + 12) 38 [.ref x, .int (iI t), .int (iI k), .int (iI l), .int (iI p), .int (iI f)] H)) ∨
    OkX x g W eIS (fun H => aE (d + 12) 38 [.ref x, .int (iI t), .int (iI k), .int (iI l), .int (iI p), .int (iI f)] H) := by
  have hO := Inv_ok hI
  by_cases hn : W.1.1.1 < 60
  · have hc : cOk (cO t k p l f) := cO_ok (by omega) (by omega) (by omega) (by omega) (by omega)
    have hp2 := sk_le W.1.1.2 (cO t k p l f) W.1.1.1
    have vc : ntV (cO t k p l f) := by
      unfold ntV
      rw [cT_O (by omega) (by omega) (by omega) (by omega), cS_O (by omega) (by omega) (by omega) (by omega), cL_O (by omega) (by omega), cF_O (by omega)]
      omega
    have gS : sgG ((W.1.1.1 + 1, insN W.1.1.2 (sk W.1.1.2 (cO t k p l f) W.1.1.1) W.1.1.1 (cO t k p l f)), W.1.2) := sg_notes hI.1 (by omega) (insN_ok hc hI.1.1.2.1) (ins_al hI.1.2.1 vc hp2 (Nat.le_refl _)) (ins_sor hI.1.2.2.1)
    exact Or.inl ⟨_, _, hp2, by rw [se_1], Inv_ch hI gS, fun h n w => s_write hO ht hk hl hp hf hn gS.1⟩
  · exact Or.inr fun h n w => s_write_2 hO ht hk hl hp hf hn
theorem v_remove {p : Nat} (hI : Inv W) (hp : p < 2147483648) :
    (∃ W' : Dk, 0 < W.1.1.1 ∧ Inv W' ∧ OkI x g W W' (.int (iI (W.1.1.1 - 1 : Nat))) (fun H => aE (d + 12) 39 [.ref x, .int (iI p)] H)) ∨ OkX x g W eIO (fun H => aE (d + 12) 39 [.ref x, .int (iI p)] H) := by
  have hO := Inv_ok hI
  have m60 := hI.1.1.1
  by_cases h1 : p < W.1.1.1
  · have gS : sgG ((W.1.1.1 - 1, dlN W.1.1.2 p (W.1.1.1 - 1)), W.1.2) := sg_notes hI.1 (by omega) (dlN_ok (P := cOk) hI.1.1.2.1) (dl_al hI.1.2.1) (dl_sor hI.1.2.2.1 h1)
    exact Or.inl ⟨_, by omega, Inv_ch hI gS, fun h n w => s_remove hO h1 gS.1⟩
  · exact Or.inr fun h n w => s_remove_1 hO (by omega) (by omega)
theorem v_split {p k : Nat} (hI : Inv W) (hp : p < 2147483648) (hk : k < 2147483648) :
    (∃ W' : Dk, Inv W' ∧ OkI x g W W' (.int (iI (W.1.1.1 + 1 : Nat))) (fun H => aE (d + 12) 40 [.ref x, .int (iI p), .int (iI k)] H)) ∨ ∃ E, (E = eIO ∨ E = eIA ∨ E = eIS) ∧ OkX x g W E (fun H => aE (d + 12) 40 [.ref x, .int (iI p), .int (iI k)] H) := by
  have hO := Inv_ok hI
  have m60 := hI.1.1.1
  by_cases h1 : p < W.1.1.1
  · by_cases h2 : cS (W.1.1.2 p) < k ∧ k < cS (W.1.1.2 p) + cL (W.1.1.2 p) ∧ k ≤ 9599
    · by_cases hn : W.1.1.1 < 60
      · have hc := hI.1.1.2.1 p
        have vp := hI.1.2.1 p h1
        obtain ⟨t1, t2, t3, t4, t5⟩ := sp1_T hc h2.1 h2.2.1
        obtain ⟨r1, r2, r3, r4, r5⟩ := sp2_T hc h2.1 h2.2.1 h2.2.2
        have a1 := cT_lt hc
        have a3 := cL_lt (W.1.1.2 p)
        have a4 := cP_lt (W.1.1.2 p)
        have a5 := cF_lt (W.1.1.2 p)
        have a2 := cS_lt (W.1.1.2 p)
        have o1 : cOk (sp1 (W.1.1.2 p) k) := cO_ok a1 a2 a4 (by omega) a5
        have o2 : cOk (sp2 (W.1.1.2 p) k) := cO_ok a1 (by omega) a4 (by omega) a5
        have v1 : ntV (sp1 (W.1.1.2 p) k) := by
          unfold ntV
          rw [t1, t2, t3, t5]
          omega
        have v2 : ntV (sp2 (W.1.1.2 p) k) := by
          unfold ntV
          rw [r1, r2, r3, r5]
          omega
        have d1 : sgG (nlD W.1.1 p, W.1.2) := sg_notes hI.1 (by omega) (dlN_ok (P := cOk) hI.1.1.2.1) (dl_al hI.1.2.1) (dl_sor hI.1.2.2.1 h1)
        have ad : ∀ {v : NLv} {c : Nat}, sgG (v, W.1.2) → v.1 + 1 ≤ 60 → cOk c → ntV c → sgG (nlA v c, W.1.2) := fun {v c} hv h60 oc vc =>
          sg_notes hI.1 h60 (insN_ok oc hv.1.2.1) (ins_al hv.2.1 vc (sk_le _ _ _) (Nat.le_refl _)) (ins_sor hv.2.2.1)
        have d2 := ad d1 (by show W.1.1.1 - 1 + 1 ≤ 60; omega) o1 v1
        have gS := ad d2 (by show W.1.1.1 - 1 + 1 + 1 ≤ 60; omega) o2 v2
        exact Or.inl ⟨_, Inv_ch hI gS, fun h n w => s_split hO h1 h2 hn gS.1⟩
      · exact Or.inr ⟨eIS, Or.inr (Or.inr rfl), fun h n w => s_split_3 hO h1 h2 hn⟩
    · exact Or.inr ⟨eIA, Or.inr (Or.inl rfl), fun h n w => s_split_2 hO h1 (by omega) (by omega)⟩
  · exact Or.inr ⟨eIO, Or.inl rfl, fun h n w => s_split_1 hO (by omega) (by omega)⟩
theorem v_transpose {t b : Int} (hI : Inv W) (ht : -1 ≤ t ∧ t ≤ 5) (hb : -127 ≤ b ∧ b ≤ 127) :
    (∃ (r : Nat) (W' : Dk), r ≤ W.1.1.1 ∧ Inv W' ∧ OkI x g W W' (.int (iI r)) (fun H => aE (d + 12) 44 [.ref x, .int (iI t), .int (iI 0), .int (iI 9600), .int (iI b)] H)) ∨ OkX x g W eIS (fun H => aE (d + 12) 44 [.ref x, .int (iI t), .int (iI 0), .int (iI 9600), .int (iI b)] H) := by
  have hO := Inv_ok hI
  have hr : rgOk t 0 9600 := by unfold rgOk; omega
  by_cases hok : ∀ j, j < W.1.1.1 → tpOk t 0 9600 b (W.1.1.2 j)
  · obtain ⟨c1, c2⟩ := map_G (gg := tpG t 0 9600 b) hI.1 (fun i hi => by
      by_cases q : cIn (W.1.1.2 i) t 0 9600
      · obtain ⟨f1, f2, f3, f4, f5, f6⟩ := tpG_f (hI.1.1.2.1 i) q (hok i hi q)
        have vj := hI.1.2.1 i hi
        refine ⟨f1, ?_⟩
        unfold ntV
        rw [f2, f3, f4, f6]
        exact vj
      · unfold tpG
        rw [if_neg q]
        exact ⟨hI.1.1.2.1 i, hI.1.2.1 i hi⟩)
    exact Or.inl ⟨_, _, cntP_le _ _ _, Inv_ch hI c2, fun h n w => s_transpose hO hr hb hok c2.1 c1⟩
  · exact Or.inr fun h n w => s_transpose_2 hO hr hb hok
theorem v_weigh {t u : Int} {p : Nat} (hI : Inv W) (hr : rgOk t 0 u) (hp : p ≤ 400) :
    ∃ (r : Nat) (W' : Dk), r ≤ W.1.1.1 ∧ Inv W' ∧ OkI x g W W' (.int (iI r)) (fun H => aE (d + 12) 45 [.ref x, .int (iI t), .int (iI 0), .int (iI u), .int (iI p)] H) := by
  have hO := Inv_ok hI
  obtain ⟨c1, c2⟩ := map_G (gg := wgG t 0 u p) hI.1 (fun i hi => by
    refine ⟨wgG_ok (hI.1.1.2.1 i), ?_⟩
    by_cases q : cIn (W.1.1.2 i) t 0 u
    · obtain ⟨f2, f3, f4, f5, f6⟩ := wgG_f (p := p) (hI.1.1.2.1 i) q
      have vj := hI.1.2.1 i hi
      unfold ntV
      rw [f2, f3, f4, f6]
      obtain ⟨y1, y2, y3, y4⟩ := vj
      exact ⟨y1, y2, y3, by omega⟩
    · unfold wgG
      rw [if_neg q]
      exact hI.1.2.1 i hi)
  exact ⟨_, _, cntP_le _ _ _, Inv_ch hI c2, fun h n w => s_weigh hO hr hp c2.1⟩
theorem v_would {t : Int} {s : Nat} (hI : Inv W) (hr : rgOk t 0 9600) (hs : 1 ≤ s ∧ s ≤ 384) : OkI x g W W (.int (iI (ofN t 0 9600 W.1.1.2 W.1.1.1 s))) (fun H => aE (d + 12) 78 [.ref x, .int (iI t), .int (iI 0), .int (iI 9600), .int (iI s)] H) :=
  fun h n w => s_wouldMove (Inv_ok hI) hr hs
theorem v_quantise {t : Int} {s : Nat} (hI : Inv W) (hr : rgOk t 0 9600) (hs : 1 ≤ s ∧ s ≤ 384) :
    ∃ W' : Dk, ofN t 0 9600 W'.1.1.2 W'.1.1.1 s = 0 ∧ Inv W' ∧ OkI x g W W' (.int (iI (ofN t 0 9600 W.1.1.2 W.1.1.1 s))) (fun H => aE (d + 12) 48 [.ref x, .int (iI t), .int (iI 0), .int (iI 9600), .int (iI s), .int (iI 0), .int (iI 100)] H) := by
  have hO := Inv_ok hI
  obtain ⟨c1, c2⟩ := map_G (gg := qnG t 0 9600 s 0 100) hI.1 (fun i hi => by
    have hc := hI.1.1.2.1 i
    have vj := hI.1.2.1 i hi
    refine ⟨qnG_ok (by omega) hc, ?_⟩
    by_cases q : qnM t 0 9600 s 0 100 (W.1.1.2 i) = true
    · have d1 := drI_t (s := s) (p := 0) vj.2.1 (show 100 ≤ 100 by omega)
      have e : qnG t 0 9600 s 0 100 (W.1.1.2 i) = cO (cT (W.1.1.2 i)) (drI (cS (W.1.1.2 i)) s 0 100).toNat (cP (W.1.1.2 i)) (cL (W.1.1.2 i)) (cF (W.1.1.2 i)) := if_pos q
      have a4 := cP_lt (W.1.1.2 i)
      have a3 := cL_lt (W.1.1.2 i)
      have a5 := cF_lt (W.1.1.2 i)
      obtain ⟨y1, y2, y3, y4⟩ := vj
      rw [e]
      unfold ntV
      rw [cT_O (by omega) a4 a3 a5, cS_O (by omega) a4 a3 a5, cL_O a3 a5, cF_O a5]
      exact ⟨y1, by omega, y3, y4⟩
    · have e : qnG t 0 9600 s 0 100 (W.1.1.2 i) = W.1.1.2 i := if_neg q
      rw [e]
      exact vj)
  refine ⟨seW (((W.1.1.1, srtN (mapN W.1.1.2 (qnG t 0 9600 s 0 100) W.1.1.1) W.1.1.1), W.1.2), W.2), ?_, Inv_ch hI c2, fun h n w => s_quantise (p := 0) (q := 100) hO hr hs (by omega) (by omega) c2.1⟩
  rw [se_1]
  have al : alN (fun c => qnM t 0 9600 s 0 100 c = false) (srtN (mapN W.1.1.2 (qnG t 0 9600 s 0 100) W.1.1.1) W.1.1.1) W.1.1.1 := srt_al (map_al (fun i hi => qn_no hs.1 (hI.1.1.2.1 i) (hI.1.2.1 i hi))) _ (Nat.le_refl _)
  exact cntP_0 al
theorem cp_V {F : Nat → Nat} {t v u : Int} {m : Nat} {G0 : Nat → Nat} (hv : 0 ≤ v) (hF : ∀ i, cOk (F i)) (hV : alN ntV F m) : ∀ k, k ≤ m → alN ntV (cpN F t v u k (0, G0)).2 (cpN F t v u k (0, G0)).1
  | 0, _ => fun i hi => absurd hi (Nat.not_lt_zero i)
  | k + 1, hk => by
    have ih := cp_V (t := t) (u := u) (G0 := G0) hv hF hV k (by omega)
    show alN ntV (if cIn (F k) t v u then nlA (cpN F t v u k (0, G0)) (cbC v (F k)) else cpN F t v u k (0, G0)).2 (if cIn (F k) t v u then nlA (cpN F t v u k (0, G0)) (cbC v (F k)) else cpN F t v u k (0, G0)).1
    by_cases q : cIn (F k) t v u
    · rw [if_pos q]
      obtain ⟨f1, f2, f3, f4, f5⟩ := cbC_f (v := v) (hF k) hv
      have vj := hV k (by omega)
      have vc : ntV (cbC v (F k)) := by
        unfold ntV at *
        rw [f1, f2, f3, f5]
        omega
      exact ins_al ih vc (sk_le _ _ _) (Nat.le_refl _)
    · rw [if_neg q]
      exact ih
theorem v_copy {t v : Int} (hI : Inv W) (hr : rgOk t v 9600) :
    ∃ (r : Nat) (W' : Dk), r ≤ W.1.1.1 ∧ Inv W' ∧ OkI x g W W' (.int (iI r)) (fun H => aE (d + 12) 49 [.ref x, .int (iI t), .int (iI v), .int (iI 9600)] H) := by
  have hO := Inv_ok hI
  have hr2 := hr
  unfold rgOk at hr2
  have z := cpN_1 (F := W.1.1.2) (t := t) (v := v) (u := 9600) (e := (0, W.2.2.1.2)) W.1.1.1
  have z2 := cntP_le (inB4 t v 9600) W.1.1.2 W.1.1.1
  have z3 := hI.1.1.1
  have z' : (cpN W.1.1.2 t v 9600 W.1.1.1 (0, W.2.2.1.2)).1 = 0 + cntP (inB4 t v 9600) W.1.1.2 W.1.1.1 := z
  exact ⟨_, (W.1, W.2.1, cpN W.1.1.2 t v 9600 W.1.1.1 (0, W.2.2.1.2), W.2.2.2), by omega, ⟨hI.1, hI.2.1, hI.2.2.1, ⟨by show (cpN W.1.1.2 t v 9600 W.1.1.1 (0, W.2.2.1.2)).1 ≤ 60; omega, cpN_ok (v := v) (e := (0, W.2.2.1.2)) (by omega) hI.1.1.2.1 hO.2.2.2.1 W.1.1.1, cp_V (by omega) hI.1.1.2.1 hI.1.2.1 _ (Nat.le_refl _)⟩, hI.2.2.2.2⟩, fun h n w => s_copy hO hr⟩
theorem ps_G {C : Nat → Nat} {cc k : Nat} {S : Sg} (hS : sgG S) (hC : ∀ i, cOk (C i)) (hV : alN ntV C cc) : ∀ j, j ≤ cc → S.1.1 + cntP (ptP k) C j ≤ 60 → (∀ i, cOk ((psN C k j S.1).2 i)) ∧ alN ntV (psN C k j S.1).2 (psN C k j S.1).1 ∧ sor (psN C k j S.1).2 0 (psN C k j S.1).1
  | 0, _, _ => ⟨hS.1.2.1, hS.2.1, hS.2.2.1⟩
  | j + 1, hj, h60 => by
    have mono := cntP_mono (ptP k) C (show j ≤ j + 1 by omega)
    obtain ⟨i1, i2, i3⟩ := ps_G (k := k) hS hC hV j (by omega) (by omega)
    show (∀ i, cOk ((if k + cS (C j) ≤ 9599 then nlA (psN C k j S.1) (psC k (C j)) else psN C k j S.1).2 i)) ∧ alN ntV (if k + cS (C j) ≤ 9599 then nlA (psN C k j S.1) (psC k (C j)) else psN C k j S.1).2 (if k + cS (C j) ≤ 9599 then nlA (psN C k j S.1) (psC k (C j)) else psN C k j S.1).1 ∧ sor (if k + cS (C j) ≤ 9599 then nlA (psN C k j S.1) (psC k (C j)) else psN C k j S.1).2 0 (if k + cS (C j) ≤ 9599 then nlA (psN C k j S.1) (psC k (C j)) else psN C k j S.1).1
    by_cases q : k + cS (C j) ≤ 9599
    · rw [if_pos q]
      have a1 := cT_lt (hC j)
      have a3 := cL_lt (C j)
      have a4 := cP_lt (C j)
      have a5 := cF_lt (C j)
      have hc : cOk (psC k (C j)) := cO_ok a1 (by omega) a4 a3 a5
      have vj := hV j (by omega)
      have vc : ntV (psC k (C j)) := by
        unfold ntV at *
        unfold psC
        rw [cT_O (by omega) a4 a3 a5, cS_O (by omega) a4 a3 a5, cL_O a3 a5, cF_O a5]
        omega
      exact ⟨insN_ok (P := cOk) hc i1, ins_al i2 vc (sk_le _ _ _) (Nat.le_refl _), ins_sor i3⟩
    · rw [if_neg q]
      exact ⟨i1, i2, i3⟩
theorem v_paste {k : Nat} (hI : Inv W) (hk : k ≤ 9599) :
    (∃ (r : Nat) (W' : Dk), W'.1.1.1 = W.1.1.1 + r ∧ Inv W' ∧ OkI x g W W' (.int (iI r)) (fun H => aE (d + 12) 50 [.ref x, .int (iI k)] H)) ∨ OkX x g W eIS (fun H => aE (d + 12) 50 [.ref x, .int (iI k)] H) := by
  have hO := Inv_ok hI
  obtain ⟨k1, k2, k3⟩ := hI.2.2.2.1
  by_cases hr : W.1.1.1 + cntP (ptP k) W.2.2.1.2 W.2.2.1.1 ≤ 60
  · obtain ⟨g1, g2, g3⟩ := ps_G (k := k) hI.1 k2 k3 W.2.2.1.1 (Nat.le_refl _) hr
    have n1 : (psN W.2.2.1.2 k W.2.2.1.1 W.1.1).1 = W.1.1.1 + cntP (ptP k) W.2.2.1.2 W.2.2.1.1 := ps_1 (C := W.2.2.1.2) (F := W.1.1.2) (k := k) (m := W.1.1.1) W.2.2.1.1
    have gS : sgG (psN W.2.2.1.2 k W.2.2.1.1 W.1.1, W.1.2) := sg_notes hI.1 (by omega) g1 g2 g3
    exact Or.inl ⟨_, _, by rw [se_1]; exact n1, Inv_ch hI gS, fun h n w => s_paste hO hk hr gS.1⟩
  · exact Or.inr fun h n w => s_paste_2 hO hk hr
theorem v_setTrack {t : Nat} {p q : Prop} [Decidable p] [Decidable q] {u v : Int} (hI : Inv W) (ht : t ≤ 5) (hu : -24 ≤ u ∧ u ≤ 24) (hv : -48 ≤ v ∧ v ≤ 48) :
    ∃ (r : Int) (W' : Dk), Inv W' ∧ OkI x g W W' (.int (iI r)) (fun H => aE (d + 12) 53 [.ref x, .int (iI t), .int (bI p), .int (bI q), .int (iI u), .int (iI v)] H) := by
  have gS : sgG (tkT W t p q u v).1 := sgG_t hI.1 (upN_ok (P := fun z => z < 4) (by split <;> split <;> omega) hI.1.1.2.2.1) (upI_a (P := fun z => -24 ≤ z ∧ z ≤ 24) hu hI.1.1.2.2.2.1) (upI_a (P := fun z => -48 ≤ z ∧ z ≤ 48) hv hI.1.1.2.2.2.2.1)
  exact ⟨_, _, Inv_ch hI gS, fun h n w => s_setTrack (Inv_ok hI) ht hu hv gS.1⟩
theorem v_setSpeed {k v : Nat} (hI : Inv W) (hk : k ≤ 9599) (hv : v = 0 ∨ (200 ≤ v ∧ v ≤ 3000)) :
    (∃ (r : Nat) (W' : Dk), Inv W' ∧ OkI x g W W' (.int (iI r)) (fun H => aE (d + 12) 54 [.ref x, .int (iI k), .int (iI v)] H)) ∨ OkX x g W eIS (fun H => aE (d + 12) 54 [.ref x, .int (iI k), .int (iI v)] H) := by
  have hO := Inv_ok hI
  by_cases hc : (if v = 0 then (0 < k ∧ W.1.2.2.1.2.1 (lu W.1.2.2.1.2.1 k W.1.2.2.1.1) = k) else (W.1.2.2.1.1 < 11 ∨ W.1.2.2.1.2.1 (lu W.1.2.2.1.2.1 k W.1.2.2.1.1) = k))
  · by_cases c0 : v = 0
    · subst c0
      rw [if_pos rfl] at hc
      have gS : sgG (spT W (mkD W.1.2.2.1 k)).1 := sgG_pD hI.1 hc
      exact Or.inl ⟨_, _, Inv_ch hI gS, fun h n w => s_setSpeed_d hO hk hc gS.1⟩
    · rw [if_neg c0] at hc
      have vv : 200 ≤ v ∧ v ≤ 3000 := by omega
      have gS : sgG (spT W (mkA W.1.2.2.1 k v 0)).1 := sgG_pA hI.1 hk vv hc
      exact Or.inl ⟨_, _, Inv_ch hI gS, fun h n w => s_setSpeed hO hk vv hc gS.1⟩
  · exact Or.inr fun h n w => s_setSpeed_2 hO hk hv hc
theorem v_setMeter {k y z : Nat} (hI : Inv W) (hk : k ≤ 99) (hy : y ≤ 16) (hz : z = 2 ∨ z = 4 ∨ z = 8 ∨ z = 16) :
    (∃ (r : Nat) (W' : Dk), Inv W' ∧ OkI x g W W' (.int (iI r)) (fun H => aE (d + 12) 55 [.ref x, .int (iI k), .int (iI y), .int (iI z)] H)) ∨ OkX x g W eIS (fun H => aE (d + 12) 55 [.ref x, .int (iI k), .int (iI y), .int (iI z)] H) := by
  have hO := Inv_ok hI
  by_cases hc : (if y = 0 then (0 < k ∧ W.1.2.2.2.1.2.1 (lu W.1.2.2.2.1.2.1 k W.1.2.2.2.1.1) = k) else (W.1.2.2.2.1.1 < 11 ∨ W.1.2.2.2.1.2.1 (lu W.1.2.2.2.1.2.1 k W.1.2.2.2.1.1) = k))
  · by_cases c0 : y = 0
    · subst c0
      rw [if_pos rfl] at hc
      have gS : sgG (mtT W (mkD W.1.2.2.2.1 k)).1 := sgG_mD hI.1 hc
      exact Or.inl ⟨_, _, Inv_ch hI gS, fun h n w => s_setMeter_d hO hk (by omega) hc gS.1⟩
    · rw [if_neg c0] at hc
      have gS : sgG (mtT W (mkA W.1.2.2.2.1 k y z)).1 := sgG_mA hI.1 hk (by omega) (by omega) hc
      exact Or.inl ⟨_, _, Inv_ch hI gS, fun h n w => s_setMeter hO hk (by omega) hz hc gS.1⟩
  · exact Or.inr fun h n w => s_setMeter_2 hO hk hy (by omega) (by omega) hc
theorem v_setLoop {f t y : Nat} (hI : Inv W) (hf : f ≤ 9599) (ht : f < t ∧ t ≤ 9600) (hy : y ≤ 8) :
    ∃ (r : Nat) (W' : Dk), Inv W' ∧ OkI x g W W' (.int (iI r)) (fun H => aE (d + 12) 56 [.ref x, .int (iI f), .int (iI t), .int (iI y)] H) := by
  have gS : sgG (lpT W f t y).1 := by
    obtain ⟨⟨a1, a2, a3, a4, a5, a6, a7, a8, a9⟩, g1, g2, g3, g4, g5⟩ := hI.1
    refine ⟨⟨a1, a2, a3, a4, a5, a6, a7, a8, ?_, ?_, hy⟩, g1, g2, g3, g4, ?_⟩
    · show (if y = 0 then 0 else f) ≤ 9600
      split <;> omega
    · show (if y = 0 then 0 else t) ≤ 9600
      split <;> omega
    · show if y = 0 then (if y = 0 then 0 else f) = 0 ∧ (if y = 0 then 0 else t) = 0 else (if y = 0 then 0 else f) < (if y = 0 then 0 else t)
      by_cases c : y = 0
      · rw [if_pos c, if_pos c, if_pos c]
        exact ⟨rfl, rfl⟩
      · rw [if_neg c, if_neg c, if_neg c]
        omega
  exact ⟨_, _, Inv_ch hI gS, fun h n w => s_setLoop (Inv_ok hI) hf ht hy gS.1⟩
theorem b_no {b : Bool} (h : ¬ b = true) : b = false := by
  cases b
  · rfl
  · exact absurd rfl h
theorem v_openGroup (hI : Inv W) :
    (W.2.2.2.2 = false ∧ OkI x g W (W.1, W.2.1, W.2.2.1, W.2.2.2.1, true) (.int (iI W.2.1.2.1)) (fun H => aE (d + 12) 57 [.ref x] H)) ∨ (W.2.2.2.2 = true ∧ OkX x g W eIS (fun H => aE (d + 12) 57 [.ref x] H)) := by
  by_cases q : W.2.2.2.2 = true
  · exact Or.inr ⟨q, fun h n w => s_openGroup_1 q⟩
  · exact Or.inl ⟨b_no q, fun h n w => s_openGroup (b_no q)⟩
theorem Inv_open (hI : Inv W) : Inv (W.1, W.2.1, W.2.2.1, W.2.2.2.1, true) := ⟨hI.1, hI.2.1, fun z => Bool.noConfusion (show true = false from z), hI.2.2.2.1, hI.2.2.2.2⟩
theorem v_closeGroup (hI : Inv W) :
    (∃ W' : Dk, Inv W' ∧ W' = seW (W.1, W.2.1, W.2.2.1, W.2.2.2.1, false) ∧ OkI x g W W' (.int (bI (¬ lkS (W.2.1.2.2.2 W.2.1.1) W.1))) (fun H => aE (d + 12) 58 [.ref x] H)) ∨ OkX x g W eIS (fun H => aE (d + 12) 58 [.ref x] H) := by
  by_cases q : W.2.2.2.2 = true
  · exact Or.inl ⟨_, Inv_se hI.1 hI.2.1 hI.2.2.2.1 hI.2.2.2.2, rfl, fun h n w => s_closeGroup (Inv_ok hI) q⟩
  · exact Or.inr fun h n w => s_closeGroup_1 (b_no q)
theorem Inv_bk (hI : Inv W) (hb : 0 < W.2.1.2.1) : Inv (bkW W) := Inv_st hI (by omega) (by have := hI.2.1.2.2; omega)
theorem Inv_fw (hI : Inv W) (ha : 0 < W.2.1.2.2.1) : Inv (fwW W) := Inv_st hI (by omega) (by have := hI.2.1.2.2; omega)
theorem v_undo (hI : Inv W) :
    (0 < W.2.1.2.1 ∧ OkI x g W (bkW W) (.int (iI (W.2.1.2.1 - 1 : Nat))) (fun H => aE (d + 12) 59 [.ref x] H)) ∨ OkX x g W eIS (fun H => aE (d + 12) 59 [.ref x] H) := by
  by_cases q : W.2.2.2.2 = true ∨ W.2.1.2.1 = 0
  · exact Or.inr fun h n w => s_undo_1 (Inv_ok hI) q
  · have q0 := b_no (fun z => q (Or.inl z))
    have hb : 0 < W.2.1.2.1 := by
      have : ¬ W.2.1.2.1 = 0 := fun z => q (Or.inr z)
      omega
    exact Or.inl ⟨hb, fun h n w => s_undo (Inv_ok hI) q0 hb⟩
theorem v_redo (hI : Inv W) :
    (0 < W.2.1.2.2.1 ∧ OkI x g W (fwW W) (.int (iI (W.2.1.2.2.1 - 1 : Nat))) (fun H => aE (d + 12) 60 [.ref x] H)) ∨ OkX x g W eIS (fun H => aE (d + 12) 60 [.ref x] H) := by
  by_cases q : W.2.2.2.2 = true ∨ W.2.1.2.2.1 = 0
  · exact Or.inr fun h n w => s_redo_1 (Inv_ok hI) q
  · have q0 := b_no (fun z => q (Or.inl z))
    have hb : 0 < W.2.1.2.2.1 := by
      have : ¬ W.2.1.2.2.1 = 0 := fun z => q (Or.inr z)
      omega
    exact Or.inl ⟨hb, fun h n w => s_redo (Inv_ok hI) q0 hb⟩
end
