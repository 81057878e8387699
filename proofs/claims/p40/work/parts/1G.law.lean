/-! ===== the claim, out of what the abstract machine answers at the law's entry ===== -/
def dLaw : Nat := 400
/-- what is left: the law, over the abstract machine -/
def lawGoal : Prop := ∀ (n b stp ua K : Nat) (xs : Nat → Int32) (h : aHf), K ≤ 260 → h b = some (aI .float K xs) → (∃ f, h stp = some (aI .float 8 f) ∧ ∀ j : Nat, j < 8 → f j = st_f j) → b < n → stp < n → (∀ q : Nat, n ≤ q → h q = none) →
  ∃ H' : aH, L dLaw 0 0 (entL [.ref b] 6) [] (h, n, 0, stp, ua) = some (.inl (some (.int 1)), H') ∧ H'.2.1 ≤ n + room_1.cells ∧ H'.2.2.1 ≤ room_1.slots
theorem law_rec : aRec 0 = some (⟨"OvertureDeskLaw", "law", "([I)Z"⟩, code, 6, (some .boolean), [], 1, 1, false, 99, 0, (0, 0, 1000, 0)) := rfl
theorem whole_start (hG : lawGoal) {p : Program} {e : Env} {s : State} {m : MethodId} {below : List Frame} {meth : Method} {c : Code} (l : Launch) (hflags : l.flags = flags0) {b K : Nat} {xs : Nat → Int32} (hK : K ≤ 260) (C0 : lw_At p s m meth c b K xs) (hname : meth.name = "law") (hexc : c.exceptionTable.toList = []) :
    W p l e room_1 s m #[Value.ref b] below meth c s.heap [] 0 0 (lw_Z below #[Value.ref b] s) (entryFrame m ([Value.ref b] : List Value).toArray 6) := by
  obtain ⟨hx, hb, hr, hml, hown, hts, hX, hbl, hlocks, hgv⟩ := C0
  obtain ⟨D, stp, ua, h, G, hR, e1, e2, e3, e4, e5⟩ := start_ok hflags hK hts hX hgv
  obtain ⟨H', hH, hc, hs⟩ := hG s.heap.size b stp ua K xs h hK e1 e2 e3 e4 e5
  obtain ⟨f, hf⟩ := L_some.mp hH
  have C : aCx p s m meth c s D (stp, ua) 0 := by
    refine ⟨hx, fun pc il hd => ?_, hml, ⟨R_law, rfl, hown⟩, State.WarmedH.refl s, G.2.1, G.2.2.1, hname, G.2.2.2.1, G.2.2.2.2.1, G.2.2.2.2.2.1, G.2.2.2.2.2.2.1, Vm.Alike.refl s.vm⟩
    obtain ⟨r, hr0, hcode⟩ : ∃ r, aRec 0 = some r ∧ rB r = code := ⟨_, law_rec, rfl⟩
    rw [hb, ← hcode]
    unfold mDec at hd
    rw [hr0] at hd
    replace hd : (match decode (rB r) pc with
      | .ok q => if ilen q.1 = 0 ∨ ilen q.1 = q.2 then some q else none
      | .error _ => none) = some il := hd
    split at hd
    next q hq =>
      split at hd
      · cases hd; exact hq
      · cases hd
    next => cases hd
  have hB : aBd p l s m meth c s D (stp, ua) 0 s.heap.size := ⟨C, G, hlocks, hr, hexc, rfl, Nat.le_refl _, fun _ _ => rfl⟩
  refine W.narrow (R2 := { frames := mFR 0, cells := room_1.cells, slots := room_1.slots, locals := mLO 0 }) (Nat.le_of_ble_eq_true rfl) (Nat.le_of_ble_eq_true rfl) (Nat.le_refl _) (Nat.le_refl _) ?_
  have hrs := run_sound (p := p) (l := l) (e := e) (R := { frames := mFR 0, cells := room_1.cells, slots := room_1.slots, locals := mLO 0 }) (s := s) (m := m) (args := #[Value.ref b]) (below := below) (meth := meth) (c := c) (w0 := 0) hB (gOk_all G dLaw) rfl rfl (x0 := (.inl (some (.int 1)), H')) (x := (.inl (some (.int 1)), H'))
    (by show H'.2.1 - s.heap.size ≤ room_1.cells; omega) (by show H'.2.2.1 - 0 ≤ room_1.slots; omega) rfl rfl (fun _ z => z) f 0 (entL [.ref b] 6) [] _ hf (Nat.le_refl _) (Nat.le_refl _)
  rw [lg_entry_eq]
  have hw := hrs s.heap _ [] hR (LR_ent (vs := [.ref b]) (n := 6) (show 1 ≤ 6 by decide)) (fun z hz => nomatch hz)
  have hw : W p l e _ s m #[Value.ref b] below meth c s.heap [] (s.heap.size - s.heap.size) (0 - 0) _ _ := hw
  rw [Nat.sub_self, Nat.sub_self] at hw
  intro T hT X
  obtain ⟨t, a1, o, b1, b2, b3⟩ := hw T hT X
  refine ⟨t, a1, o, b1, b2, ?_⟩
  rcases b3 with ⟨⟨v, v1, v2, -⟩, Lc, ⟨f1, f2, f3⟩, f4⟩ | ⟨q, -, E, ce, Lc, ⟨z1, -⟩, -⟩
  · cases v1
    refine ⟨v2, lw_closed (d0 := s.drawn) (Drawn.sameBut.refl s.drawn lw_cs) f1 f2 ?_⟩
    have f5 := State.sameButNew.drop_fresh (L := []) (J := Lc) f3 f4
    exact f5.mono (by show H'.2.1 - s.heap.size ≤ room_1.cells; omega) (by show H'.2.2.1 - 0 ≤ room_1.slots; omega)
  · cases z1
set_option maxHeartbeats 4000000 in
theorem lw_walk (hG : lawGoal) (l : Launch) (hflags : l.flags = flags0) (b : Addr) (xs : List Int32) : MetFree l x (headSpec (Jvm.Cond.code x code maxLocals ret :: tables_1) room_1) (lw_P b xs) (fun _ _ _ _ _ => True) lw_Q := by
  refine MetFree.of_bodyS (code := code) (maxLocals := maxLocals) (ret := ret) (by decide) ?_ ?_
  · intro args s m h hn
    obtain ⟨meth, c, h1, h2, h3, h4, h5, h6, -, -⟩ := Cond.code_spec hn (atoms_spec (ws := Jvm.Cond.code x code maxLocals ret :: tables_1) h _ List.mem_cons_self)
    exact ⟨meth, c, h1, h2, h3, h4, h5, h6⟩
  · intro p e s m args below meth c s₁ B hml0 hP _
    obtain ⟨rfl, hx, hbd, hgv⟩ := hP
    obtain ⟨scr, harrAt, hlist, hof, hsmall⟩ := hx
    obtain ⟨hcb, hkn, -, -⟩ := State.arrayAt?_spec harrAt
    have hown : s.vm.findClass R_law = some m.cls := findClass_of_methodNamed B.named
    have hts0 : ∀ c ∈ (Jvm.Cond.code x code maxLocals ret :: tables_1), c.before #[Value.ref b] s = true := atoms_spec (ws := Jvm.Cond.code x code maxLocals ret :: tables_1) B.pre
    have hts : ∀ w ∈ lw_tbl, w.before #[Value.ref b] s = true := k2_hts_sels lw_privs (fun w hw => hts0 w (List.mem_cons_of_mem _ hw)) lw_privs_ok
    have hml : c.maxLocals = 6 := B.maxLocals_eq (hts0 _ List.mem_cons_self)
    have X₀ : Stand p l e room_1 s m #[Value.ref b] below meth c s₁ [] 0 0 := Stand.of_body B
    have hh0 : s₁.heap = s.heap := by rw [B.state]; rfl
    have hsz : scr.slots.size = xs.length := by rw [← Array.length_toList, hlist, List.length_map]
    have hval : ∀ j : Nat, j < xs.length → scr.slots[j]? = some (.int (xs.getD j 0)) := fun j hj => by
      rw [← Array.getElem?_toList, hlist]
      simp [hj]
    have hbl : b < s.heap.size := (Array.getElem?_eq_some_iff.mp hcb).1
    have hX : va_X b xs.length (fun j => xs.getD j 0) s s.heap := ⟨scr, hcb, hof, hkn, hsz, hval⟩
    have hexc : c.exceptionTable.toList = [] := by
      obtain ⟨meth9, c9, h1, h2, -, -, -, -, h7, -⟩ := Cond.code_spec B.named (hts0 _ List.mem_cons_self)
      cases Option.some.inj (h1.symm.trans B.method)
      cases Option.some.inj (h2.symm.trans X₀.code)
      rw [Array.isEmpty_iff.mp h7]
    have K : W p l e room_1 s m #[Value.ref b] below meth c s₁.heap [] 0 0 (lw_Z below #[Value.ref b] s) (entryFrame m ([Value.ref b] : List Value).toArray 6) := by
      rw [hh0]
      exact whole_start hG l hflags hbd ⟨B.exec, B.bytes, B.returns, hml, hown, hts, hX, hbl, B.notSynchronized, hgv⟩ (name_of_methodNamed B.named B.method).1 hexc
    obtain ⟨t, a1, o, b1, b2, b3⟩ := K s₁ rfl X₀
    exact ⟨t, o, a1, b1, b2, b3⟩
theorem lw_pre_spec {args : Array Value} {s : State} (h : (Jvm.Cond.and given_1 narrow_1).before args s = true) (hr : rest_1_c.before args s = true) : ∃ (b : Addr) (xs : List Int32), lw_P b xs args s := by
  have hs := flat_of_before _ h
  have hq := flat_of_before _ hr
  have hc : (Jvm.Cond.count 1).before args s = true := hs _ (by decide +kernel)
  have harr : (Jvm.Cond.arrayOf (.arg 0) .int).before args s = true := hs _ (by decide +kernel)
  have hle : (Jvm.Cond.le (.length (.arg 0)) (.int 260)).before args s = true := hs _ (by decide +kernel)
  have hlen : (Jvm.Cond.isInt (.length (.arg 0))).before args s = true := hq _ (by decide +kernel)
  have hall : (Jvm.Cond.all (.arg 0) (.isInt (.elem (.arg 0) (.index 0)))).before args s = true := hq _ (by decide +kernel)
  obtain ⟨b, xs, hb, hx⟩ := State.ints_of_pre rfl harr hlen hall
  have hsm : xs.length < 2 ^ 31 := hx.choose_spec.2.2.2
  have hev : (Term.length (.arg 0)).eval args s none [] s = some (.int xs.length.toInt32) := hx.length_eval hb
  have hv := Cond.le_ints hev (show (Term.int 260).eval args s none [] s = some (.int 260) from rfl)
  have hd : xs.length.toInt32 ≤ 260 := by
    simpa [Cond.before, Cond.holds, hv] using hle
  have hN : xs.length ≤ 260 := (Int32.ofNat_le_ofNat hsm (by decide)).mp (show Int32.ofNat xs.length ≤ Int32.ofNat 260 from hd)
  exact ⟨b, xs, Cond.one_arg hc (show args[0]? = some (.ref b) from hb), hx, hN, h⟩
theorem lw_comes (hG : lawGoal) (l : Launch) (hflags : l.flags = flags0) : Comes l x (Jvm.Cond.code x code maxLocals ret :: tables_1) room_1 (fun tb e args s => Calls_1 tb e args s ∧ rest_1 tb e args s ∧ Pre_1 tb e args s)
    (fun _ _ args s o t => lw_Q args s o t) := by
  intro p e ha hc hk s m args below hf hfit hheap happ hpre
  obtain ⟨b, xs, hP⟩ := lw_pre_spec hpre.2.2 hpre.2.1
  obtain ⟨k, o, h1, h2, h3, hQ⟩ := lw_walk hG l hflags b xs p e ha hc hk s m args below hf ((Spec.applies_iff_loose hf).mp happ).1 hP trivial
  exact ⟨k, o, h1, h2, h3, hQ⟩
theorem lw_frame {s t : State} {o : Outcome} {args : Array Value} (h : State.butDraws s t lw_cs (fun t1 => Framed s o t1 [] room_1.cells room_1.slots)) :
    State.butDraws s t [Jvm.Choice.named "NaN.bits"] (fun t1 => Framed s o t1 (fieldLocs frame_1_writes args s ++ arrayLocs frame_1_arrays args s ++ staticLocs frame_1_statics s) room_1.cells room_1.slots) := h
theorem lw_limb (hG : lawGoal) (Lc : Jvm.Cond) (hL : ∀ (args : Array Value) (s t : State), Lc.after args s (.returned (some (.int 1))) t = true) :
    ArmFor flags0 classFile x code maxLocals ret World_1 tables_1 room_1 Calls_1 rest_1 Pre_1
      (fun tb e a s o t => postC Lc tb e a s o t ∧ State.butDraws s t [Jvm.Choice.named "NaN.bits"] (fun t1 => Framed s o t1 (fieldLocs frame_1_writes a s ++ arrayLocs frame_1_arrays a s ++ staticLocs frame_1_statics s) room_1.cells room_1.slots)) := by
  intro l hflags _ _ p e ha hc hk s m args below hf hfit hheap happ hpre
  obtain ⟨k, o, h1, h2, h3, rfl, hF⟩ := lw_comes hG l hflags p e ha hc hk s m args below hf hfit hheap happ hpre
  exact ⟨k, _, h1, h2, h3, hL args s _, lw_frame hF⟩
/-- the claim, if the law answers 1 over the abstract machine -/
theorem i_all (hG : lawGoal) : Claimed_1_1 ∧ Claimed_1_2 := ⟨lw_limb hG limb_1_1 (fun args s t => by simp [limb_1_1, Cond.after, Cond.holds, Cond.value]), lw_limb hG limb_1_2 (fun args s t => Cond.after_iff.mpr (by
  first | (rw [show limb_1_2 = Cond.eq .result (.int 1) from rfl, Cond.eq_ints (x := 1) (y := 1) rfl rfl]; simp; done) | (simp [limb_1_2, Cond.value, Term.eval]; done)))⟩
