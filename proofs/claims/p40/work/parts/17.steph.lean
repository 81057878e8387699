/-! ===== .. the steps that read and write cells ===== -/
theorem arr_in {cA : ClassId} {N : Nat} {f : Nat → Value} {j : Int32} (h : inB j N = true) : ¬ (j < 0 ∨ (arrV cA N f).slots.size ≤ j.toNatClampNeg) := by
  rw [arrV_size]; exact (inB_ok h).1
theorem updV_i (f : Nat → Int32) (j : Nat) (x : Int32) : updV (fun q => .int (f q)) j (.int x) = fun q => .int (upd f j x q) := by
  funext q
  unfold updV upd
  by_cases e : q = j
  · rw [if_pos e, if_pos e]
  · rw [if_neg e, if_neg e]
theorem updV_l (f : Nat → Int64) (j : Nat) (x : Int64) : updV (fun q => .long (f q)) j (.long x) = fun q => .long (vp_updL f j x q) := by
  funext q
  unfold updV vp_updL
  by_cases e : q = j
  · rw [if_pos e, if_pos e]
  · rw [if_neg e, if_neg e]
theorem updV_o (f : Nat → Option Nat) (j : Nat) (x : Nat) : updV (fun q => va_rf (f q)) j (.ref x) = fun q => va_rf (updO f j (some x) q) := by
  funext q
  unfold updV updO
  by_cases e : q = j
  · rw [if_pos e, if_pos e]; rfl
  · rw [if_neg e, if_neg e]
section
variable {p : Program} {l : Launch} {e : Env} {R : Room} {s : State} {m : MethodId} {args : Array Value} {below : List Frame} {meth : Method} {c : Code} {Q : State → Prop} {S0 : State} {D : va_G} {g0 : Nat × Nat} {M n0 w0 : Nat}
theorem cx_arr (C : aCx p s m meth c S0 D g0 M) {cA : ClassId} {ty : FieldType} (h : ArrOfT S0 cA ty) (N : Nat) (z : Nat → Value) : s.isArrayOf (arrV cA N z) ty := arrOfT_moved C.2.2.2.2.2.2.2.2.2.2.2.2 h N z
theorem wr_some {h h' : aHf} {a : Nat} {x : Option aC} (e : wr h a x = some h') : ∃ c', x = some c' ∧ h' = aup h a c' := by
  unfold wr at e
  cases x with
  | none => cases e
  | some c' => exact ⟨c', rfl, (Option.some.inj e).symm⟩
theorem st_alen (C : aCx p s m meth c S0 D g0 M) {pc : Nat} {ls : aLs} {st : List Value} {H : aH} {q : aQ} (hm : mDec M pc = some (.arraylength, 1)) (h : aS M pc 1 .arraylength ls st H = some (.inl q)) (k : Wq p l e R s m args below meth c Q S0 D g0 (mML M) n0 w0 q) : Wq p l e R s m args below meth c Q S0 D g0 (mML M) n0 w0 (pc, ls, st, H) := by
  have hd := C.2.1 pc _ hm
  have hx := C.1
  cases st with
  | nil => cases h
  | cons v t =>
    cases v with
    | ref a =>
      have h : (gN (H.1 a)).bind _ = _ := h
      intro Hr lsr locs hR hL hl
      cases hc : H.1 a with
      | none => rw [hc] at h; cases h
      | some x =>
        have hg := hR.2.1 a x hc
        rw [hc] at h
        match x, hg, h with
        | .inl (ty, N, .inl f), hg, h =>
          obtain ⟨cl, ty', e1, e2, -, e3, -⟩ := gI9_rd hg
          have h := go_inj (show go _ _ _ _ = _ from h)
          subst h
          exact W.alen hx rfl e1 (State.isArrayOf_alike C.2.2.2.2.2.2.2.2.2.2.2.2 e2) (by rw [e3]; rfl) rfl rfl hd (k Hr lsr locs hR hL hl)
        | .inl (ty, N, .inr (.inl f)), hg, h =>
          obtain ⟨cA, e1, e2, -⟩ := hg
          have h := go_inj (show go _ _ _ _ = _ from h)
          subst h
          exact W.alen hx rfl e1 (cx_arr C e2 _ _) (by rw [arrV_size]; rfl) rfl rfl hd (k Hr lsr locs hR hL hl)
        | .inl (ty, N, .inr (.inr (.inr (.inr f)))), hg, h =>
          obtain ⟨cA, e1, e2, -⟩ := hg
          have h := go_inj (show go _ _ _ _ = _ from h)
          subst h
          exact W.alen hx rfl e1 (cx_arr C e2 _ _) (by rw [arrV_size]; rfl) rfl rfl hd (k Hr lsr locs hR hL hl)
        | .inr o, hg, h => cases h
    | _ => cases h
theorem gI_ok {x : aC} {j v : Int32} (h : gI (some x) j = some v) : ∃ ty N f, x = .inl (ty, N, .inl f) ∧ (ty = .int ∨ ty = .float) ∧ inB j N = true ∧ f j.toNatClampNeg = v := by
  match x, h with
  | .inl (.int, N, .inl f), h =>
    have h : (if inB j N then some (f j.toNatClampNeg) else none) = some v := h
    split at h
    next hb => exact ⟨_, N, f, rfl, Or.inl rfl, hb, Option.some.inj h⟩
    next => cases h
  | .inl (.float, N, .inl f), h =>
    have h : (if inB j N then some (f j.toNatClampNeg) else none) = some v := h
    split at h
    next hb => exact ⟨_, N, f, rfl, Or.inr rfl, hb, Option.some.inj h⟩
    next => cases h
theorem st_iald (C : aCx p s m meth c S0 D g0 M) {pc : Nat} {ls : aLs} {st : List Value} {H : aH} {q : aQ} (hm : mDec M pc = some (.iaload, 1)) (h : aS M pc 1 .iaload ls st H = some (.inl q)) (k : Wq p l e R s m args below meth c Q S0 D g0 (mML M) n0 w0 q) : Wq p l e R s m args below meth c Q S0 D g0 (mML M) n0 w0 (pc, ls, st, H) := by
  have hd := C.2.1 pc _ hm
  have hx := C.1
  match st, h with
  | .int j :: .ref a :: t, h =>
    have h : (gI (H.1 a) j).bind _ = _ := h
    intro Hr lsr locs hR hL hl
    cases hc : H.1 a with
    | none => rw [hc] at h; cases h
    | some x =>
      rw [hc] at h
      cases hv : gI (some x) j with
      | none => rw [hv] at h; cases h
      | some v =>
        rw [hv] at h
        have h := go_inj (show go _ _ _ _ = _ from h)
        subst h
        obtain ⟨ty, N, f, rfl, hty, hb, rfl⟩ := gI_ok hv
        obtain ⟨cl, ty', e1, e2, e3, e6, e7, e4, e5⟩ := gI9_rd (hR.2.1 a _ hc)
        have hi : ty' = .int := by
          rcases hty with rfl | rfl
          · rcases e4 with e4 | e4
            · exact e4.symm
            · cases e4.1
          · rcases e4 with e4 | e4
            · subst e4; rcases e5 with e5 | e5 <;> cases e5
            · exact e4.2
        subst hi
        exact W.iald hx rfl e1 (State.isArrayOf_alike C.2.2.2.2.2.2.2.2.2.2.2.2 e2) e3 (by rw [e6]; exact (inB_ok hb).1) (e7 _ (inB_ok hb).2) rfl rfl hd (k Hr lsr locs hR hL hl)
theorem st_lald (C : aCx p s m meth c S0 D g0 M) {pc : Nat} {ls : aLs} {st : List Value} {H : aH} {q : aQ} (hm : mDec M pc = some (.laload, 1)) (h : aS M pc 1 .laload ls st H = some (.inl q)) (k : Wq p l e R s m args below meth c Q S0 D g0 (mML M) n0 w0 q) : Wq p l e R s m args below meth c Q S0 D g0 (mML M) n0 w0 (pc, ls, st, H) := by
  have hd := C.2.1 pc _ hm
  have hx := C.1
  match st, h with
  | .int j :: .ref a :: t, h =>
    have h : (gL (H.1 a) j).bind _ = _ := h
    intro Hr lsr locs hR hL hl
    cases hc : H.1 a with
    | none => rw [hc] at h; cases h
    | some x =>
      rw [hc] at h
      match x, h, hc with
      | .inl (ty, N, .inr (.inl f)), h, hc =>
        have h : (if inB j N then some (f j.toNatClampNeg) else none).bind _ = _ := h
        split at h
        next hb =>
          have h := go_inj (show go _ _ _ _ = _ from h)
          subst h
          obtain ⟨cA, e1, e2, -, e4, -⟩ := hR.2.1 a _ hc
          subst e4
          exact W.lald hx rfl e1 (cx_arr C e2 _ _) (fun z => by cases z) (arr_in hb) (arrV_read _ _ (inB_ok hb).2) rfl rfl hd (k Hr lsr locs hR hL hl)
        next => cases h
theorem st_bald (C : aCx p s m meth c S0 D g0 M) {pc : Nat} {ls : aLs} {st : List Value} {H : aH} {q : aQ} (hm : mDec M pc = some (.baload, 1)) (h : aS M pc 1 .baload ls st H = some (.inl q)) (k : Wq p l e R s m args below meth c Q S0 D g0 (mML M) n0 w0 q) : Wq p l e R s m args below meth c Q S0 D g0 (mML M) n0 w0 (pc, ls, st, H) := by
  have hd := C.2.1 pc _ hm
  have hx := C.1
  match st, h with
  | .int j :: .ref a :: t, h =>
    have h : (gZ (H.1 a) j).bind _ = _ := h
    intro Hr lsr locs hR hL hl
    cases hc : H.1 a with
    | none => rw [hc] at h; cases h
    | some x =>
      rw [hc] at h
      match x, h, hc with
      | .inl (.boolean, N, .inl f), h, hc =>
        have h : (if inB j N then some (f j.toNatClampNeg) else none).bind _ = _ := h
        split at h
        next hb =>
          have h := go_inj (show go _ _ _ _ = _ from h)
          subst h
          obtain ⟨cA, ty', e1, e2, -, e4, -⟩ := hR.2.1 a _ hc
          rcases e4 with e4 | e4
          · subst e4
            exact W.zald hx rfl e1 (cx_arr C e2 _ _) (fun z => by cases z) (arr_in hb) (arrV_read _ _ (inB_ok hb).2) rfl rfl hd (k Hr lsr locs hR hL hl)
          · cases e4.1
        next => cases h
theorem st_aald (C : aCx p s m meth c S0 D g0 M) {pc : Nat} {ls : aLs} {st : List Value} {H : aH} {q : aQ} (hm : mDec M pc = some (.aaload, 1)) (h : aS M pc 1 .aaload ls st H = some (.inl q)) (k : Wq p l e R s m args below meth c Q S0 D g0 (mML M) n0 w0 q) : Wq p l e R s m args below meth c Q S0 D g0 (mML M) n0 w0 (pc, ls, st, H) := by
  have hd := C.2.1 pc _ hm
  have hx := C.1
  match st, h with
  | .int j :: .ref a :: t, h =>
    have h : (gP (H.1 a) j).bind _ = _ := h
    intro Hr lsr locs hR hL hl
    cases hc : H.1 a with
    | none => rw [hc] at h; cases h
    | some x =>
      rw [hc] at h
      match x, h, hc with
      | .inl (ty, N, .inr (.inr (.inr (.inr f)))), h, hc =>
        have h : (if inB j N then some (va_rf (f j.toNatClampNeg)) else none).bind _ = _ := h
        split at h
        next hb =>
          have h := go_inj (show go _ _ _ _ = _ from h)
          subst h
          obtain ⟨cA, e1, e2, -, e4, -⟩ := hR.2.1 a _ hc
          exact W.aald hx rfl e1 (cx_arr C e2 _ _) e4 (fun z => by cases z) (arr_in hb) (arrV_read _ _ (inB_ok hb).2) rfl rfl hd (k Hr lsr locs hR hL hl)
        next => cases h
theorem hl_app {locs : List Loc} {a j n : Nat} (hl : ∀ z ∈ locs, n ≤ z.base) (ha : n ≤ a) : ∀ z ∈ locs ++ [(⟨a, j⟩ : Loc)], n ≤ z.base := by
  intro z hz
  rcases List.mem_append.mp hz with hz | hz
  · exact hl z hz
  · rw [List.mem_singleton.mp hz]; exact ha
theorem st_iast (C : aCx p s m meth c S0 D g0 M) {pc : Nat} {ls : aLs} {st : List Value} {H : aH} {q : aQ} (hm : mDec M pc = some (.iastore, 1)) (h : aS M pc 1 .iastore ls st H = some (.inl q)) (k : Wq p l e R s m args below meth c Q S0 D g0 (mML M) n0 w0 q) : Wq p l e R s m args below meth c Q S0 D g0 (mML M) n0 w0 (pc, ls, st, H) := by
  have hd := C.2.1 pc _ hm
  have hx := C.1
  match st, h with
  | .int y :: .int j :: .ref a :: t, h =>
    have h : (wr H.1 a (sI (H.1 a) j y)).bind _ = _ := h
    intro Hr lsr locs hR hL hl
    cases hc : H.1 a with
    | none => rw [hc] at h; cases h
    | some x =>
      rw [hc] at h
      match x, h, hc with
      | .inl (.int, N, .inl f), h, hc =>
        have h : (wr H.1 a (if inB j N then some (aI .int N (upd f j.toNatClampNeg y)) else none)).bind _ = _ := h
        split at h
        next hb =>
          have h := go_inj (show go _ _ _ _ = _ from h)
          subst h
          obtain ⟨cA, ty', e1, e2, e3, e4, e5, e6⟩ := hR.2.1 a _ hc
          have ha : S0.heap.size ≤ a := by
            rcases hR.2.2.1 a _ hc with z | z
            · cases z
            · exact z
          rcases e4 with e4 | e4
          · subst e4
            refine W.iast hx rfl e1 (cx_arr C e2 _ _) (fun z => by cases z) (arr_in hb) rfl rfl hd (fun H' f1 f2 f3 => ?_)
            exact k H' lsr _ (gR_put hR f2 f3 ⟨cA, .int, by rw [f1, arrV_store, updV_i], e2, e3, Or.inl rfl, e5, e6⟩ ha) hL (hl_app hl ha)
          · cases e4.1
        next => cases h
theorem st_bast (C : aCx p s m meth c S0 D g0 M) {pc : Nat} {ls : aLs} {st : List Value} {H : aH} {q : aQ} (hm : mDec M pc = some (.bastore, 1)) (h : aS M pc 1 .bastore ls st H = some (.inl q)) (k : Wq p l e R s m args below meth c Q S0 D g0 (mML M) n0 w0 q) : Wq p l e R s m args below meth c Q S0 D g0 (mML M) n0 w0 (pc, ls, st, H) := by
  have hd := C.2.1 pc _ hm
  have hx := C.1
  match st, h with
  | .int y :: .int j :: .ref a :: t, h =>
    have h : (wr H.1 a (sZ (H.1 a) j y)).bind _ = _ := h
    intro Hr lsr locs hR hL hl
    cases hc : H.1 a with
    | none => rw [hc] at h; cases h
    | some x =>
      rw [hc] at h
      match x, h, hc with
      | .inl (.boolean, N, .inl f), h, hc =>
        have h : (wr H.1 a (if inB j N && (y == 0 || y == 1) then some (aI .boolean N (upd f j.toNatClampNeg y)) else none)).bind _ = _ := h
        split at h
        next hb =>
          simp only [Bool.and_eq_true, Bool.or_eq_true, beq_iff_eq] at hb
          obtain ⟨hb, hy⟩ := hb
          have h := go_inj (show go _ _ _ _ = _ from h)
          subst h
          obtain ⟨cA, ty', e1, e2, e3, e4, e5, e6⟩ := hR.2.1 a _ hc
          have ha : S0.heap.size ≤ a := by
            rcases hR.2.2.1 a _ hc with z | z
            · cases z
            · exact z
          have hy : narrow .boolean (.int y) = .int y := by rcases hy with rfl | rfl <;> decide
          rcases e4 with e4 | e4
          · subst e4
            refine W.zast hx rfl e1 (cx_arr C e2 _ _) (fun z => by cases z) (arr_in hb) rfl rfl hd (fun H' f1 f2 f3 => ?_)
            rw [hy] at f1
            exact k H' lsr _ (gR_put hR f2 f3 ⟨cA, .boolean, by rw [f1, arrV_store, updV_i], e2, e3, Or.inl rfl, e5, e6⟩ ha) hL (hl_app hl ha)
          · cases e4.1
        next => cases h
theorem st_last (C : aCx p s m meth c S0 D g0 M) {pc : Nat} {ls : aLs} {st : List Value} {H : aH} {q : aQ} (hm : mDec M pc = some (.lastore, 1)) (h : aS M pc 1 .lastore ls st H = some (.inl q)) (k : Wq p l e R s m args below meth c Q S0 D g0 (mML M) n0 w0 q) : Wq p l e R s m args below meth c Q S0 D g0 (mML M) n0 w0 (pc, ls, st, H) := by
  have hd := C.2.1 pc _ hm
  have hx := C.1
  match st, h with
  | .long y :: .int j :: .ref a :: t, h =>
    have h : (wr H.1 a (sL (H.1 a) j y)).bind _ = _ := h
    intro Hr lsr locs hR hL hl
    cases hc : H.1 a with
    | none => rw [hc] at h; cases h
    | some x =>
      rw [hc] at h
      match x, h, hc with
      | .inl (.long, N, .inr (.inl f)), h, hc =>
        have h : (wr H.1 a (if inB j N then some (aL N (vp_updL f j.toNatClampNeg y)) else none)).bind _ = _ := h
        split at h
        next hb =>
          have h := go_inj (show go _ _ _ _ = _ from h)
          subst h
          obtain ⟨cA, e1, e2, e3, e4, e6⟩ := hR.2.1 a _ hc
          have ha : S0.heap.size ≤ a := by
            rcases hR.2.2.1 a _ hc with z | z
            · cases z
            · exact z
          refine W.last hx rfl e1 (cx_arr C e2 _ _) (fun z => by cases z) (arr_in hb) rfl rfl hd (fun H' f1 f2 f3 => ?_)
          exact k H' lsr _ (gR_put hR f2 f3 ⟨cA, by rw [f1, arrV_store, updV_l], e2, e3, rfl, e6⟩ ha) hL (hl_app hl ha)
        next => cases h
theorem fF_ok {k : Nat} {q : Nat × Nat × Nat × Nat} (h : fnd3 aFT (mOc M) k = some q) : ∃ (r : vw_C) (O : String), aCl[q.1]? = some r ∧ aON[mOc M]? = some O ∧ tb q.2.2.2 = some (.fieldLink O k r.1 (r.2.1 q.2.1).2.1 (r.2.1 q.2.1).2.2.1) ∧ q.2.1 < r.2.2 ∧ (r.2.1 q.2.1).1 = r.1 ∧ (parseFieldDescriptor (r.2.1 q.2.1).2.2.1).map kdOf = some q.2.2.1 := by
  have hk := List.all_eq_true.mp okF _ (fnd3_mem h)
  obtain ⟨ci, j, tc, p9⟩ := q
  unfold chkF at hk
  dsimp only at hk
  cases h1 : aCl[ci]? with
  | none => simp only [h1] at hk; exact absurd hk (by decide)
  | some r =>
    cases h2 : aON[mOc M]? with
    | none => obtain ⟨C9, T9, N9⟩ := r; simp only [h1, h2] at hk; exact absurd hk (by decide)
    | some O =>
      obtain ⟨C9, T9, N9⟩ := r
      simp only [h1, h2, Bool.and_eq_true, decide_eq_true_eq] at hk
      obtain ⟨⟨⟨a1, a2⟩, a3⟩, a4⟩ := hk
      exact ⟨_, O, rfl, rfl, a1, a2, a3, a4⟩
theorem st_getf (C : aCx p s m meth c S0 D g0 M) {pc j : Nat} {ls : aLs} {st : List Value} {H : aH} {q : aQ} (hm : mDec M pc = some (.getfield j, 3)) (h : aS M pc 3 (.getfield j) ls st H = some (.inl q)) (k : Wq p l e R s m args below meth c Q S0 D g0 (mML M) n0 w0 q) : Wq p l e R s m args below meth c Q S0 D g0 (mML M) n0 w0 (pc, ls, st, H) := by
  have hd := C.2.1 pc _ hm
  have hx := C.1
  match st, h with
  | .ref a :: t, h =>
    have h : (fnd3 aFT (mOc M) j).bind _ = _ := h
    cases hf : fnd3 aFT (mOc M) j with
    | none => rw [hf] at h; cases h
    | some u =>
      rw [hf] at h
      have h : (gF (H.1 a) u.1 u.2.1).bind _ = _ := h
      obtain ⟨r, O, a1, a2, a3, a4, a5, -⟩ := fF_ok hf
      obtain ⟨O', b1, b2⟩ := C.2.2.2.1
      rw [a2] at b1; cases b1
      intro Hr lsr locs hR hL hl
      cases hc : H.1 a with
      | none => rw [hc] at h; cases h
      | some x =>
        rw [hc] at h
        match x, h, hc with
        | .inr (cj, fs), h, hc =>
          replace h : (if cj = u.1 then fs[u.2.1]? else none).bind _ = _ := h
          split at h
          next hcj =>
            subst hcj
            cases hv : fs[u.2.1]? with
            | none => rw [hv] at h; cases h
            | some v =>
              rw [hv] at h
              have h := go_inj (show go _ _ _ _ = _ from h)
              subst h
              obtain ⟨r', c1, c2, cell, q1, q2, q3, q4⟩ := hR.2.1 a _ hc
              rw [a1] at c1; cases c1
              replace q3 : cell.vm = .none := q3
              obtain ⟨hS, hfc, kC, hkC, hkind⟩ := cx_Kn C a1
              obtain ⟨cf, kf, fi, fd, hi, hsl⟩ := hS _ a4
              have hw := cx_u (args := args) C a1
              have hlink := cx_tb (args := args) C a3 rfl
              rw [a5] at hi
              refine W.getf hx rfl b2 hlink hi (u_facts hfc hkC (u_lays hw (fun w h => h) a4) (by rw [a5]; exact hi)).1 q1 (by rw [q3]; exact fun z => by cases z) (v := v) ?_ rfl rfl hd (k Hr lsr locs hR hL hl)
              rw [hsl, q4 _ a4]
              simp [vp_V, hv]
          next => cases h
theorem fin_ok {ci j : Nat} {r : vw_C} (h : finB M ci j = true) (hr : aCl[ci]? = some r) : (r.2.1 j).2.2.2 = false ∨ (mNm M = "<init>" ∧ aON[mOc M]? = some r.1) := by
  unfold finB at h
  obtain ⟨C9, T9, N9⟩ := r
  rw [hr] at h
  simp only [Bool.or_eq_true, Bool.not_eq_true', Bool.and_eq_true, beq_iff_eq] at h
  exact h
theorem st_putf (C : aCx p s m meth c S0 D g0 M) {pc j : Nat} {ls : aLs} {st : List Value} {H : aH} {q : aQ} (hm : mDec M pc = some (.putfield j, 3)) (h : aS M pc 3 (.putfield j) ls st H = some (.inl q)) (k : Wq p l e R s m args below meth c Q S0 D g0 (mML M) n0 w0 q) : Wq p l e R s m args below meth c Q S0 D g0 (mML M) n0 w0 (pc, ls, st, H) := by
  have hd := C.2.1 pc _ hm
  have hx := C.1
  match st, h with
  | v :: .ref a :: t, h =>
    have h : (fnd3 aFT (mOc M) j).bind _ = _ := h
    cases hf : fnd3 aFT (mOc M) j with
    | none => rw [hf] at h; cases h
    | some u =>
      rw [hf] at h
      have h : (if finB M u.1 u.2.1 then (wr H.1 a (sF (H.1 a) u.1 u.2.1 u.2.2.1 v)).bind _ else none) = _ := h
      obtain ⟨r, O, a1, a2, a3, a4, a5, a6⟩ := fF_ok hf
      obtain ⟨O', b1, b2⟩ := C.2.2.2.1
      rw [a2] at b1; cases b1
      split at h
      next hfin =>
        intro Hr lsr locs hR hL hl
        cases hc : H.1 a with
        | none => rw [hc] at h; cases h
        | some x =>
          rw [hc] at h
          match x, h, hc with
          | .inr (cj, fs), h, hc =>
            replace h : (wr H.1 a (if cj = u.1 ∧ u.2.1 < fs.length ∧ fitK u.2.2.1 v = true then some (aB u.1 (fs.set u.2.1 v)) else none)).bind _ = _ := h
            split at h
            next hcj =>
              obtain ⟨rfl, hlt, hfit⟩ := hcj
              have h := go_inj (show go _ _ _ _ = _ from h)
              subst h
              obtain ⟨r', c1, c2, cell, q1, q2, q3, q4⟩ := hR.2.1 a _ hc
              rw [a1] at c1; cases c1
              replace q3 : cell.vm = .none := q3
              have ha : S0.heap.size ≤ a := by
                rcases hR.2.2.1 a _ hc with z | z
                · exact z.elim
                · exact z
              have hap := cx_ap C a1
              obtain ⟨hS, hfc, kC, hkC, hkind⟩ := cx_Kn C a1
              obtain ⟨cf, kf, fi, fd, hi, hsl⟩ := hS _ a4
              have hw := cx_u (args := args) C a1
              have hlink := cx_tb (args := args) C a3 rfl
              have hi' := hi
              rw [a5] at hi'
              cases hty : parseFieldDescriptor (r.2.1 u.2.1).2.2.1 with
              | none => rw [hty] at a6; cases a6
              | some ty =>
                rw [hty] at a6
                obtain ⟨f1, f2⟩ := fitK_ok hfit (Option.some.inj a6)
                have hlay := hw _ (u_in_lay a4)
                have hst := (u_facts hfc hkC (u_lays hw (fun w h => h) a4) hi).1
                have fin : ∀ H' : Heap, H'[a]? = some (cell.setSlot fd.slot v) → H'.size = Hr.size → (∀ q, q ≠ a → H'[q]? = Hr[q]?) → gR D S0 g0 (aup H.1 a (aB u.1 (fs.set u.2.1 v)), H.2) H' := by
                  intro H' e1 e2 e3
                  rw [hsl] at e1
                  exact gR_put hR e2 e3 ⟨_, a1, by rw [List.length_set]; exact c2, ob_mk (t_OB.to (V := updV (vp_V fs) u.2.1 v) ⟨_, e1, q2, q3, t_set q4 hap a4 v⟩ (fun j9 _ => vp_updV_set hlt v j9))⟩ ha
                rcases fin_ok hfin a1 with hz | ⟨hz1, hz2⟩
                · unfold u_lay at hlay
                  rw [if_neg (by rw [hz]; decide)] at hlay
                  have h6 := u_store hfc hkC hkind hlay hi hty f1 f2
                  exact W.putK hx rfl (f := fd) ⟨b2, hlink, ⟨_, _, _, hi'⟩, hst⟩ (by rw [q2]; exact h6) q1 q3 (by rw [hsl]; exact k2_hasslot (q4 _ a4)) rfl rfl hd (fun H' e1 e2 e3 => k H' lsr _ (fin H' e1 e2 e3) hL (hl_app hl ha))
                · by_cases hz : (r.2.1 u.2.1).2.2.2 = true
                  · unfold u_lay at hlay
                    rw [if_pos hz] at hlay
                    have hcf : m.cls = cf := by
                      obtain ⟨_, _, c', _, _, _, -, -, hf', -, -, -, hown2, -⟩ := Cond.laysFinal_spec hlay
                      have e1 : c' = cf := by have := hi.symm.trans hf'; simp at this; exact this.1.symm
                      rw [a5] at hown2
                      rw [a2] at hz2
                      cases hz2
                      rw [← e1]; exact Option.some.inj (b2.symm.trans hown2)
                    have h6 := u_fits hfc hkC hkind (Or.inr hlay) hi hty f1 f2
                    exact W.putFinK hx rfl b2 hlink hi' hst hcf (by rw [C.2.2.2.2.2.2.2.1]; exact hz1) (by rw [q2]; exact h6) q1 q3 (by rw [hsl]; exact k2_hasslot (q4 _ a4)) rfl rfl hd (fun H' e1 e2 e3 => k H' lsr _ (fin H' e1 e2 e3) hL (hl_app hl ha))
                  · unfold u_lay at hlay
                    rw [if_neg hz] at hlay
                    have h6 := u_store hfc hkC hkind hlay hi hty f1 f2
                    exact W.putK hx rfl (f := fd) ⟨b2, hlink, ⟨_, _, _, hi'⟩, hst⟩ (by rw [q2]; exact h6) q1 q3 (by rw [hsl]; exact k2_hasslot (q4 _ a4)) rfl rfl hd (fun H' e1 e2 e3 => k H' lsr _ (fin H' e1 e2 e3) hL (hl_app hl ha))
            next => cases h
      next => cases h
theorem st_gets (C : aCx p s m meth c S0 D g0 M) {pc j : Nat} {ls : aLs} {st : List Value} {H : aH} {q : aQ} (hm : mDec M pc = some (.getstatic j, 3)) (h : aS M pc 3 (.getstatic j) ls st H = some (.inl q)) (k : Wq p l e R s m args below meth c Q S0 D g0 (mML M) n0 w0 q) : Wq p l e R s m args below meth c Q S0 D g0 (mML M) n0 w0 (pc, ls, st, H) := by
  have hd := C.2.1 pc _ hm
  have hx := C.1
  have h : (fnd3 aGT (mOc M) j).bind _ = _ := h
  cases hf : fnd3 aGT (mOc M) j with
  | none => rw [hf] at h; cases h
  | some u =>
    rw [hf] at h
    have h := go_inj (show go _ _ _ _ = _ from h)
    subst h
    obtain ⟨O, b1, b2⟩ := C.2.2.2.1
    have hmem := fnd3_mem hf
    have hk := List.all_eq_true.mp okG _ hmem
    have hZ := C.2.2.2.2.2.2.2.2.1.1 _ hmem
    obtain ⟨v, p9, C9, n9, d9⟩ := u
    unfold chkG at hk
    simp only [b1, decide_eq_true_eq] at hk
    intro Hr lsr locs hR hL hl
    obtain ⟨r1, r2, r3, r4, r5, r6⟩ := id hR
    have hval : gsV H v = gsV (fun _ => none, 0, 0, g0) v := by
      have r6 : H.2.2.2 = g0 := r6
      unfold gsV
      rw [r6]
    have hZ := va_Z.moved C.2.2.2.2.2.2.2.2.2.2.2.2 hZ
    obtain ⟨cf, kf, fi, f, a, cell, h1, h2, h3, h4, h5, h6, h7, h8⟩ := hZ
    have ha : a < S0.heap.size := (Array.getElem?_eq_some_iff.mp h5).1
    have hk' := k Hr lsr locs hR hL hl
    refine W.gets hx rfl b2 (cx_tb C hk rfl) h1 h2 h3 h4 (by rw [r5 a ha]; exact h5) (fun z => by rw [z] at h6; cases h6) h7 rfl hd ?_
    rw [← hval]
    exact hk'
end
