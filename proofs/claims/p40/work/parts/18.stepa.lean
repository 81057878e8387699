/-! ===== .. the steps that make cells ===== -/
theorem dfl_ok {ty : FieldType} {t : Nat} (h : kdOf ty = t) (h9 : t ≠ 9) : defaultValue ty = dflK t := by
  subst h
  cases ty <;> first | rfl | exact absurd rfl h9
section
variable {p : Program} {l : Launch} {e : Env} {R : Room} {s : State} {m : MethodId} {args : Array Value} {below : List Frame} {meth : Method} {c : Code} {Q : State → Prop} {S0 : State} {D : va_G} {g0 : Nat × Nat} {M n0 w0 : Nat}
theorem W.newaF {cc : ByteArray} {H : Heap} {locs : List Loc} {cells slots : Nat} (hexec : p.tables.exec = Jvm.exec) (hb : c.code = cc) {atype : ArrayType} (harr : (Jvm.Cond.arrayClass (newarray.typeOf atype)).before args s = true)
    {g : JFrame} (hg : g.method = m) (hdg : decode cc g.pc = .ok (.newarray atype, 2)) {n : Int32} {N : Nat} {rest : List Value} (hstack : g.stack = .int n :: rest)
    (hn : ¬ n < 0) (hN : n.toNatClampNeg = N) (hbytes : N * componentBytes (newarray.typeOf atype) ≤ 536870912) (hcells : cells + 1 ≤ R.cells) (hslots : slots + N ≤ R.slots) {h : Nat} (hh : H.size = h)
    (kk : ∀ (H' : Heap) (cA : ClassId), H'[h]? = some (arrV cA N (fun _ => defaultValue (newarray.typeOf atype))) → H'.size = h + 1 → (∀ q, q < h → H'[q]? = H[q]?) → ArrOfT s cA (newarray.typeOf atype) → s.vm.findClass ("[" ++ (newarray.typeOf atype).toString) = some cA →
      W p l e R s m args below meth c H' locs (cells + 1) (slots + N) Q { g with pc := g.pc + 2, stack := .ref h :: rest }) : W p l e R s m args below meth c H locs cells slots Q g := by
  subst hN
  subst hh
  refine W.newa hexec hb harr hg hdg hstack hn hbytes hcells hslots fun cA kA comp h1 h2 h3 => ?_
  refine kk _ cA ?_ (by rw [Array.size_push]) (fun q hq => by rw [Array.getElem?_push, if_neg (Nat.ne_of_lt hq)]) (fun N z => ⟨(fun k h => by cases h), kA, h2, comp, h3⟩) h1
  rw [Array.getElem?_push_size, ← arrV_new]
theorem st_newa (C : aCx p s m meth c S0 D g0 M) {pc : Nat} {ty : ArrayType} {ls : aLs} {st : List Value} {H : aH} {q : aQ} (hm : mDec M pc = some (.newarray ty, 2)) (h : aS M pc 2 (.newarray ty) ls st H = some (.inl q)) (hc : q.2.2.2.2.1 - n0 ≤ R.cells) (hs : q.2.2.2.2.2.1 - w0 ≤ R.slots) (hn : n0 ≤ H.2.1) (hw0 : w0 ≤ H.2.2.1)
    (k : Wq p l e R s m args below meth c Q S0 D g0 (mML M) n0 w0 q) : Wq p l e R s m args below meth c Q S0 D g0 (mML M) n0 w0 (pc, ls, st, H) := by
  have hd := C.2.1 pc _ hm
  have hx := C.1
  have hA := C.2.2.2.2.2.2.2.2.2.1
  have hal := C.2.2.2.2.2.2.2.2.2.2.2.2
  match st, h with
  | .int n :: t, h =>
    have h : (if n < 0 ∨ 60000000 < n.toNatClampNeg then none else (nwA ty n.toNatClampNeg).bind fun x => go (pc + 2) ls (.ref H.2.1 :: t) (mk H x n.toNatClampNeg)) = _ := h
    split at h
    next => cases h
    next hz =>
      have hz1 : ¬ n < 0 := fun z => hz (Or.inl z)
      have hz2 : n.toNatClampNeg ≤ 60000000 := Nat.not_lt.mp fun z => hz (Or.inr z)
      obtain ⟨h0, nn, ww, gg⟩ := H
      have hn : n0 ≤ nn := hn
      have hw0 : w0 ≤ ww := hw0
      intro Hr lsr locs hR hL hl
      have hsz : Hr.size = nn := hR.1
      cases ty with
      | int =>
        have h := go_inj (show go _ _ _ _ = _ from h)
        subst h
        have hc : nn + 1 - n0 ≤ R.cells := hc
        have hs : ww + n.toNatClampNeg - w0 ≤ R.slots := hs
        have hw9 : (Jvm.Cond.arrayClass (newarray.typeOf .int)).before args s = true := cx_word C (hA .int (Or.inl rfl)) rfl args s C.2.2.2.2.1
        have hby : n.toNatClampNeg * componentBytes (newarray.typeOf .int) ≤ 536870912 := Nat.le_trans (Nat.mul_le_mul_right _ hz2) (Nat.le_of_ble_eq_true rfl)
        have hc9 : nn - n0 + 1 ≤ R.cells := by omega
        have hs9 : ww - w0 + n.toNatClampNeg ≤ R.slots := by omega
        have hN9 : n.toNatClampNeg < 2147483648 := Nat.lt_of_le_of_lt hz2 (Nat.lt_of_lt_of_le (Nat.lt_succ_self _) (Nat.le_of_ble_eq_true rfl))
        refine W.newaF hx rfl hw9 rfl hd rfl hz1 rfl hby hc9 hs9 hsz (fun H' cA f1 f2 f3 f4 f5 => ?_)
        have hk := k H' lsr locs (gR_new hR f2 f3 ⟨cA, .int, f1, arrOfT_moved hal.symm f4, by rw [← hal.findClass]; exact f5, Or.inl rfl, Or.inl rfl, hN9⟩) hL hl
        have e1 : nn - n0 + 1 = nn + 1 - n0 := by omega
        have e2 : ww - w0 + n.toNatClampNeg = ww + n.toNatClampNeg - w0 := by omega
        show W p l e R s m args below meth c H' locs (nn - n0 + 1) (ww - w0 + n.toNatClampNeg) Q _
        rw [e1, e2]
        exact hk
      | long =>
        have h := go_inj (show go _ _ _ _ = _ from h)
        subst h
        have hc : nn + 1 - n0 ≤ R.cells := hc
        have hs : ww + n.toNatClampNeg - w0 ≤ R.slots := hs
        have hw9 : (Jvm.Cond.arrayClass (newarray.typeOf .long)).before args s = true := cx_word C (hA .long (Or.inr rfl)) rfl args s C.2.2.2.2.1
        have hby : n.toNatClampNeg * componentBytes (newarray.typeOf .long) ≤ 536870912 := Nat.le_trans (Nat.mul_le_mul_right _ hz2) (Nat.le_of_ble_eq_true rfl)
        have hc9 : nn - n0 + 1 ≤ R.cells := by omega
        have hs9 : ww - w0 + n.toNatClampNeg ≤ R.slots := by omega
        have hN9 : n.toNatClampNeg < 2147483648 := Nat.lt_of_le_of_lt hz2 (Nat.lt_of_lt_of_le (Nat.lt_succ_self _) (Nat.le_of_ble_eq_true rfl))
        refine W.newaF hx rfl hw9 rfl hd rfl hz1 rfl hby hc9 hs9 hsz (fun H' cA f1 f2 f3 f4 f5 => ?_)
        have hk := k H' lsr locs (gR_new hR f2 f3 ⟨cA, f1, arrOfT_moved hal.symm f4, by rw [← hal.findClass]; exact f5, rfl, hN9⟩) hL hl
        have e1 : nn - n0 + 1 = nn + 1 - n0 := by omega
        have e2 : ww - w0 + n.toNatClampNeg = ww + n.toNatClampNeg - w0 := by omega
        show W p l e R s m args below meth c H' locs (nn - n0 + 1) (ww - w0 + n.toNatClampNeg) Q _
        rw [e1, e2]
        exact hk
      | _ => cases h
theorem cx_ra (C : aCx p s m meth c S0 D g0 M) {cA : ClassId} {ty : FieldType} (h : raK s cA ty) : raK S0 cA ty := raK.moved C.2.2.2.2.2.2.2.2.2.2.2.2.symm h
theorem st_anew (C : aCx p s m meth c S0 D g0 M) {pc j : Nat} {ls : aLs} {st : List Value} {H : aH} {q : aQ} (hm : mDec M pc = some (.anewarray j, 3)) (h : aS M pc 3 (.anewarray j) ls st H = some (.inl q)) (hc : q.2.2.2.2.1 - n0 ≤ R.cells) (hs : q.2.2.2.2.2.1 - w0 ≤ R.slots) (hn : n0 ≤ H.2.1) (hw0 : w0 ≤ H.2.2.1)
    (k : Wq p l e R s m args below meth c Q S0 D g0 (mML M) n0 w0 q) : Wq p l e R s m args below meth c Q S0 D g0 (mML M) n0 w0 (pc, ls, st, H) := by
  have hd := C.2.1 pc _ hm
  have hx := C.1
  have hO := C.2.2.2.2.2.2.2.2.2.2.1
  have hal := C.2.2.2.2.2.2.2.2.2.2.2.2
  match st, h with
  | .int n :: t, h =>
    have h : (if n < 0 ∨ 60000000 < n.toNatClampNeg then none else (fnd3 aAT (mOc M) j).bind fun C => go (pc + 3) ls (.ref H.2.1 :: t) (mk H (aP (.object C.1) n.toNatClampNeg (fun _ => none)) n.toNatClampNeg)) = _ := h
    split at h
    next => cases h
    next hz =>
      have hz1 : ¬ n < 0 := fun z => hz (Or.inl z)
      have hz2 : n.toNatClampNeg ≤ 60000000 := Nat.not_lt.mp fun z => hz (Or.inr z)
      cases hf : fnd3 aAT (mOc M) j with
      | none => rw [hf] at h; cases h
      | some u =>
        rw [hf] at h
        have h := go_inj (show go _ _ _ _ = _ from h)
        subst h
        have hmem := fnd3_mem hf
        obtain ⟨O, b1, b2⟩ := C.2.2.2.1
        have hck := List.all_eq_true.mp okAT _ hmem
        obtain ⟨nm, p9⟩ := u
        simp only [chkAT, chkC, b1, Bool.and_eq_true, decide_eq_true_eq] at hck
        obtain ⟨hk1, rfl⟩ := hck
        obtain ⟨h0, nn, ww, gg⟩ := H
        have hn : n0 ≤ nn := hn
        have hw0 : w0 ≤ ww := hw0
        intro Hr lsr locs hR hL hl
        have hsz : Hr.size = nn := hR.1
        have hc : nn + 1 - n0 ≤ R.cells := hc
        have hs : ww + n.toNatClampNeg - w0 ≤ R.slots := hs
        have hover : va_AO "OvertureDesk$Song" s := by
          obtain ⟨-, -, -, -, -, ⟨A0, hts⟩, -⟩ := C
          exact va_AO.moved hal (va_AO.of (hts _ hO))
        refine W.anew hx rfl b2 (cx_tb C hk1 rfl) (va_AO.use hover) rfl hd rfl hz1 (by omega) (by show nn - n0 + 1 ≤ _; omega) (by show ww - w0 + _ ≤ _; omega) fun cA kA comp f1 f2 f3 f4 => ?_
        have e1 : nn - n0 + 1 = nn + 1 - n0 := by omega
        have e2 : ww - w0 + n.toNatClampNeg = ww + n.toNatClampNeg - w0 := by omega
        show W p l e R s m args below meth c _ locs (nn - n0 + 1) (ww - w0 + n.toNatClampNeg) Q _
        rw [e1, e2, hsz]
        have hAr : ArrOfT s cA (.object "OvertureDesk$Song") := fun N z => ⟨(fun k h => by cases h), kA, f2, comp, f3⟩
        exact k _ lsr locs (gR_new hR (by rw [Array.size_push, hsz]) (fun q hq => by have hq : q < nn := hq; rw [Array.getElem?_push, if_neg (by omega)]) ⟨cA, by rw [← hsz, Array.getElem?_push_size]; exact congrArg some (arrV_new cA n.toNatClampNeg .null), arrOfT_moved hal.symm hAr, cx_ra C ⟨kA, comp, f2, f3, f4⟩, rfl, by omega⟩) hL hl
theorem fN_ok {k : Nat} {q : Nat × Nat × Nat × Nat} (h : fnd3 aNT (mOc M) k = some q) : ∃ (r : vw_C) (O : String) (ks : List Nat), aCl[q.1]? = some r ∧ aON[mOc M]? = some O ∧ aFK[q.1]? = some ks ∧ tb q.2.1 = some (.classLink O k r.1) ∧ tb q.2.2.1 = some (.instantiable r.1 r.2.2) ∧ tb q.2.2.2 = some (.initialized r.1) ∧ ks.length = r.2.2 ∧ (∀ t ∈ ks, t ≠ 9) ∧ (List.range r.2.2).map (fun j => (parseFieldDescriptor (r.2.1 j).2.2.1).map kdOf) = ks.map some := by
  have hk := List.all_eq_true.mp okN _ (fnd3_mem h)
  obtain ⟨ci, a, b, p9⟩ := q
  unfold chkN at hk
  dsimp only at hk
  cases h1 : aCl[ci]? with
  | none => simp only [h1] at hk; exact absurd hk (by decide)
  | some r =>
    obtain ⟨C9, T9, N9⟩ := r
    cases h2 : aON[mOc M]? with
    | none => simp only [h1, h2] at hk; exact absurd hk (by decide)
    | some O =>
      cases h3 : aFK[ci]? with
      | none => simp only [h1, h2, h3] at hk; exact absurd hk (by decide)
      | some ks =>
        simp only [h1, h2, h3, Bool.and_eq_true, decide_eq_true_eq, List.all_eq_true, bne_iff_ne] at hk
        obtain ⟨⟨⟨⟨⟨a1, a2⟩, a3⟩, a4⟩, a5⟩, a6⟩ := hk
        exact ⟨_, O, ks, rfl, rfl, rfl, a1, a2, a3, a4, a5, a6⟩
theorem st_new (C : aCx p s m meth c S0 D g0 M) {pc j : Nat} {ls : aLs} {st : List Value} {H : aH} {q : aQ} (hm : mDec M pc = some (.new j, 3)) (h : (fnd3 aNT (mOc M) j).bind (fun q => (aFK[q.1]?).bind fun ks => go (pc + 3) ls (.ref H.2.1 :: st) (mk H (aB q.1 (ks.map dflK)) ks.length)) = some (.inl q)) (hc : q.2.2.2.2.1 - n0 ≤ R.cells) (hs : q.2.2.2.2.2.1 - w0 ≤ R.slots) (hn : n0 ≤ H.2.1) (hw0 : w0 ≤ H.2.2.1)
    (k : Wq p l e R s m args below meth c Q S0 D g0 (mML M) n0 w0 q) : Wq p l e R s m args below meth c Q S0 D g0 (mML M) n0 w0 (pc, ls, st, H) := by
  have hd := C.2.1 pc _ hm
  have hx := C.1
  have hal := C.2.2.2.2.2.2.2.2.2.2.2.2
  cases hf : fnd3 aNT (mOc M) j with
  | none => rw [hf] at h; cases h
  | some u =>
    rw [hf] at h
    obtain ⟨r, O, ks, a1, a2, a3, a4, a5, a6, a7, a8, a9⟩ := fN_ok hf
    have h : (aFK[u.1]?).bind _ = _ := h
    rw [a3] at h
    have h := go_inj (show go _ _ _ _ = _ from h)
    subst h
    obtain ⟨O', b1, b2⟩ := C.2.2.2.1
    rw [a2] at b1; cases b1
    obtain ⟨h0, nn, ww, gg⟩ := H
    have hn : n0 ≤ nn := hn
    have hw0 : w0 ≤ ww := hw0
    intro Hr lsr locs hR hL hl
    have hsz : Hr.size = nn := hR.1
    have hc : nn + 1 - n0 ≤ R.cells := hc
    have hs : ww + ks.length - w0 ≤ R.slots := hs
    have hKn := cx_Kn C a1
    have hw := cx_u (args := args) C a1
    refine W.newcK hx rfl b2 (cx_tb C a4 rfl) (cx_tb C a5 rfl) (cx_tb C a6 rfl) rfl hd (by show nn - n0 + 1 ≤ _; omega) (by show ww - w0 + r.2.2 ≤ _; omega) hKn.2.1 hsz fun H1 kC hkC e1 z1 o1 => ?_
    have e1' : nn - n0 + 1 = nn + 1 - n0 := by omega
    have e2 : ww - w0 + r.2.2 = ww + ks.length - w0 := by omega
    show W p l e R s m args below meth c _ locs (nn - n0 + 1) (ww - w0 + r.2.2) Q _
    rw [e1', e2]
    have hpar : ∀ x, x < r.2.2 → parseFieldDescriptor (r.2.1 x).2.2.1 = some ((parseFieldDescriptor (r.2.1 x).2.2.1).getD .int) := fun x hx9 => by
      obtain ⟨t9, ht9⟩ := cx_ty a1 hx9
      rw [ht9]; rfl
    have hOB := u_born (fun x => (parseFieldDescriptor (r.2.1 x).2.2.1).getD .int) hw (fun w h => h) hKn hkC e1 hpar
    refine k _ lsr locs (gR_new hR z1 o1 ⟨r, a1, by rw [List.length_map]; exact a7, ob_mk (t_OB.to hOB (fun x hx9 => ?_))⟩) hL hl
    have hk9 : (ks.map some)[x]? = some (some (kdOf ((parseFieldDescriptor (r.2.1 x).2.2.1).getD .int))) := by
      rw [← a9, List.getElem?_map, List.getElem?_range hx9]
      show some ((parseFieldDescriptor (r.2.1 x).2.2.1).map kdOf) = _
      rw [hpar x hx9]; rfl
    rw [List.getElem?_map] at hk9
    cases hks : ks[x]? with
    | none => rw [hks] at hk9; cases hk9
    | some t9 =>
      rw [hks] at hk9
      have ht9 : t9 = kdOf ((parseFieldDescriptor (r.2.1 x).2.2.1).getD .int) := Option.some.inj (Option.some.inj hk9)
      have h9 := a8 t9 (List.mem_of_getElem? hks)
      rw [dfl_ok ht9.symm h9]
      simp [vp_V, hks]
theorem st_aast (C : aCx p s m meth c S0 D g0 M) {pc : Nat} {ls : aLs} {st : List Value} {H : aH} {q : aQ} (hm : mDec M pc = some (.aastore, 1)) (h : aS M pc 1 .aastore ls st H = some (.inl q)) (k : Wq p l e R s m args below meth c Q S0 D g0 (mML M) n0 w0 q) : Wq p l e R s m args below meth c Q S0 D g0 (mML M) n0 w0 (pc, ls, st, H) := by
  have hd := C.2.1 pc _ hm
  have hx := C.1
  have hal := C.2.2.2.2.2.2.2.2.2.2.2.2
  match st, h with
  | .ref v :: .int j :: .ref a :: t, h =>
    have h : (wr H.1 a (sP (H.1 a) (H.1 v) j v)).bind _ = _ := h
    intro Hr lsr locs hR hL hl
    cases hc : H.1 a with
    | none => rw [hc] at h; cases h
    | some x =>
      cases hcv : H.1 v with
      | none =>
        rw [hc, hcv] at h
        match x, h with
        | .inl (.object C9, N, .inr (.inr (.inr (.inr f)))), h => cases h
        | .inl (.array .int, N, .inr (.inr (.inr (.inr f)))), h => cases h
      | some y =>
        rw [hc, hcv] at h
        have ha : roC x ∨ S0.heap.size ≤ a := hR.2.2.1 a _ hc
        match x, y, h, hc, hcv, ha with
        | .inl (.object C9, N, .inr (.inr (.inr (.inr f)))), .inr (cj, fs), h, hc, hcv, ha =>
          replace h : (wr H.1 a (if inB j N = true ∧ (aCl[cj]?).map (·.1) = some C9 then some (aP (.object C9) N (updO f j.toNatClampNeg (some v))) else none)).bind _ = _ := h
          split at h
          next hz =>
            obtain ⟨hb, hcj⟩ := hz
            have h := go_inj (show go _ _ _ _ = _ from h)
            subst h
            obtain ⟨cA, e1, e2, e3, e4, e6⟩ := hR.2.1 a _ hc
            have ha : S0.heap.size ≤ a := by
              rcases ha with z | z
              · cases z
              · exact z
            obtain ⟨kA, comp, k1, k2, k3⟩ := raK.moved hal e3
            obtain ⟨r', c1, c2, cell, q1, q2, q3, q4⟩ := hR.2.1 v _ hcv
            rw [c1] at hcj
            have hcj : r'.1 = C9 := Option.some.inj hcj
            have hcls := (cx_Kn C c1).2
            rw [hcj] at hcls
            have hcomp : comp = D.1 cj := Option.some.inj (k3.symm.trans hcls.1)
            subst hcomp
            obtain ⟨kC, hkC, -⟩ := hcls.2
            refine W.aast hx rfl e1 (fun q h => by cases h) (fun h => by cases h) k1 k2 rfl hkC ⟨fun z => (inB_ok hb).1 (Or.inl z), by rw [arrV_size]; exact (inB_ok hb).2⟩ q1 (obV_nq q3) (by rw [q2]; exact hkC) (by rw [q2]; exact va_assign hcls) rfl rfl hd fun H1 f1 f2 f3 => ?_
            exact k H1 lsr _ (gR_put hR f2 f3 ⟨cA, by rw [f1, arrV_store, updV_o], e2, e3, rfl, e6⟩ ha) hL (hl_app hl ha)
          next => cases h
        | .inl (.array .int, N, .inr (.inr (.inr (.inr f)))), .inl (.int, N2, .inl f2), h, hc, hcv, ha =>
          replace h : (wr H.1 a (if inB j N then some (aP (.array .int) N (updO f j.toNatClampNeg (some v))) else none)).bind _ = _ := h
          split at h
          next hb =>
            have h := go_inj (show go _ _ _ _ = _ from h)
            subst h
            obtain ⟨cA, e1, e2, e3, e4, e6⟩ := hR.2.1 a _ hc
            have ha : S0.heap.size ≤ a := by
              rcases ha with z | z
              · cases z
              · exact z
            obtain ⟨kA, comp, k1, k2, k3⟩ := raK.moved hal e3
            obtain ⟨cB, ty', b1, b2, b3, b4, b5, b6⟩ := hR.2.1 v _ hcv
            have hty : ty' = .int := by
              rcases b4 with b4 | b4
              · exact b4.symm
              · cases b4.1
            subst hty
            have b3' : s.vm.findClass (rcN (.array .int)) = some cB := by rw [hal.findClass]; exact b3
            have hcomp : comp = cB := Option.some.inj (k3.symm.trans b3')
            subst hcomp
            obtain ⟨kC, hkC, -⟩ := Vm.findClass_spec b3'
            refine W.aast hx rfl e1 (fun q h => by cases h) (fun h => by cases h) k1 k2 rfl hkC ⟨fun z => (inB_ok hb).1 (Or.inl z), by rw [arrV_size]; exact (inB_ok hb).2⟩ b1 (fun q h => by cases h) hkC (Vm.assignable_self _ _) rfl rfl hd fun H1 f1 f2 f3 => ?_
            exact k H1 lsr _ (gR_put hR f2 f3 ⟨cA, by rw [f1, arrV_store, updV_o], e2, e3, rfl, e6⟩ ha) hL (hl_app hl ha)
          next => cases h
end
