/-! ===== the law's start: what the Statement gives, for the abstract machine ===== -/
def R_law : String := "OvertureDeskLaw"
def lw_P (b : Addr) (xs : List Int32) (args : Array Value) (s : State) : Prop := args = #[.ref b] ∧ s.IntsAt b xs ∧ xs.length ≤ 260 ∧ (Jvm.Cond.and given_1 narrow_1).before args s = true
/-- what a walk over the start with the record d0 says of its end, said of the start itself -/
theorem lw_closed {s t : State} {o : Outcome} {d0 : Drawn} {L : List Loc} {k n : Nat} (hd0 : s.drawn.sameBut d0 lw_cs) (hv : ∃ v, o = .returned v) (hW : (s.setDrawn d0).WarmedH t.vm) (hs : (s.setDrawn d0).sameButNew ({ t with vm := s.vm } : State) L k n) : State.butDraws s t lw_cs (fun t1 => Framed s o t1 L k n) := by
  have h2 : t.drawn = d0 := congrArg State.drawn hs.1
  refine ⟨⟨hv, hW, State.sameButNew.setDrawn hs s.drawn⟩, ?_, by decide⟩
  rw [h2]
  exact hd0
def lw_Q (_ : Array Value) (s : State) (o : Outcome) (t : State) : Prop := o = .returned (some (.int 1)) ∧ State.butDraws s t lw_cs (fun t1 => Framed s o t1 [] room_1.cells room_1.slots)
def lw_Z (below : List Frame) (a : Array Value) (s : State) : State → Prop := fun t => ∃ o, t.status = .running ∧ Ended t below o ∧ lw_Q a s o t
/-- what holds at the law's entry -/
def lw_At (p : Program) (s : State) (m : MethodId) (meth : Method) (c : Code) (b L : Nat) (xs : Nat → Int32) : Prop :=
  p.tables.exec = Jvm.exec ∧ c.code = code ∧ meth.sig.returnType = ret ∧ c.maxLocals = 6 ∧ s.vm.findClass R_law = some m.cls ∧ (∀ w ∈ lw_tbl, w.before #[Value.ref b] s = true) ∧ va_X b L xs s s.heap ∧ b < s.heap.size ∧ meth.locks = false ∧ (Jvm.Cond.and given_1 narrow_1).before #[Value.ref b] s = true
/-- a walk that needs less room -/
theorem W.narrow {p : Program} {l : Launch} {e : Env} {R R2 : Room} {s : State} {m : MethodId} {args : Array Value} {below : List Frame} {meth : Method} {c : Code} {H : Heap} {locs : List Loc} {cells slots : Nat} {Q : State → Prop} {g : JFrame} (h1 : R2.frames ≤ R.frames) (h2 : R2.locals ≤ R.locals) (h3 : R2.cells ≤ R.cells) (h4 : R2.slots ≤ R.slots)
    (k : W p l e R2 s m args below meth c H locs cells slots Q g) : W p l e R s m args below meth c H locs cells slots Q g := by
  intro T hT X
  refine k T hT ⟨X.admits, X.cas, X.clock, X.frames, ?_, X.hears, X.method, X.code, X.here, X.tail, X.warmed, X.limits, X.bytes, X.same⟩
  have hr := X.room
  unfold State.hasRoom at hr ⊢
  simp only [Bool.and_eq_true, decide_eq_true_eq] at hr ⊢
  obtain ⟨⟨⟨⟨a1, b1, b2, b3, b4, b5⟩, c1⟩, c2⟩, c3⟩ := hr
  exact ⟨⟨⟨⟨by omega, by omega, by omega, by omega, by omega, b5⟩, by omega⟩, by omega⟩, c3⟩
/-! the classes' places -/
def chkKn (q : vw_C) : Bool := (u_ws q.1 q.2.1 q.2.2).all (fun w => decide (w ∈ lw_tbl)) && decide (Jvm.Cond.instantiable q.1 q.2.2 ∈ lw_tbl)
theorem okKn : aCl.all chkKn = true := by decide +kernel
theorem kn_all {s : State} {args : Array Value} (hts : ∀ w ∈ lw_tbl, w.before args s = true) : ∃ D : va_G, ∀ (k : Nat) (q : vw_C), aCl[k]? = some q → u_Kn s q.1 q.2.1 q.2.2 (D.1 k) (D.2 k) := by
  have h0 : ∀ k : Nat, ∃ x : ClassId × (Nat → Nat), ∀ q : vw_C, aCl[k]? = some q → u_Kn s q.1 q.2.1 q.2.2 x.1 x.2 := by
    intro k
    cases hq : aCl[k]? with
    | none => exact ⟨(0, fun _ => 0), fun q h => by cases h⟩
    | some q =>
      have hk := List.all_eq_true.mp okKn q (List.mem_of_getElem? hq)
      simp only [chkKn, Bool.and_eq_true, decide_eq_true_eq, List.all_eq_true] at hk
      obtain ⟨cC, iS, h⟩ := u_known (n := q.2.2) hts hk.1 (hts _ hk.2)
      exact ⟨(cC, iS), fun q' h' => by cases h'; exact h⟩
  obtain ⟨f, hf⟩ := Classical.axiomOfChoice h0
  exact ⟨(fun k => (f k).1, fun k => (f k).2), hf⟩
/-! what the Statement says of statics, texts, classes -/
def pre9 : List Jvm.Cond := flatC (Jvm.Cond.and given_1 narrow_1)
def stT : Term := .static "OvertureDesk" "STEPS_TO_TRY" "[I"
def st_f (j : Nat) : Int32 := [96, 48, 32, 24, 16, 12, 8, 6].getD j 0
theorem okSt : (decide (Jvm.Cond.arrayOf stT .int ∈ pre9) && decide (Jvm.Cond.eq (.length stT) (.int (Int32.ofNat 8)) ∈ pre9) && (List.range 8).all (fun j => decide (Jvm.Cond.eq (.elem stT (.int (Int32.ofNat j))) (.int (st_f j)) ∈ pre9))) = true := by decide +kernel
def chkNc (q : String × String) : Bool := decide (Jvm.Cond.not (.castable q.1 q.2) ∈ pre9)
theorem okNc : aNC.all chkNc = true := by decide +kernel
def chkTx (x : Nat × Nat × String × Nat × Nat × Nat × Bool × String) : Bool := decide (Jvm.Cond.stringRef "OvertureDesk" x.2.2.2.2.1 x.2.2.2.2.2.2.2 ∈ lw_tbl) && decide (Jvm.Cond.exactly (.string "OvertureDesk" x.2.2.2.2.1) "java/lang/String" ∈ pre9)
theorem okTx : aXT.all chkTx = true := by decide +kernel
theorem gt_r {s : State} {args : Array Value} {A : Nat → Prop} {C n d : String} {t : Nat} (hts : ∀ w ∈ lw_tbl, w.before args s = true) (hA : ∀ a : Nat, a < s.heap.size → ¬ A a)
    (h : (decide (Jvm.Cond.laysStatic C n d ∈ lw_tbl) && decide (Jvm.Cond.initialized C ∈ lw_tbl)) = true) (hv : (Term.static C n d).eval args s none [] s = some (.ref t)) : va_Z C n d (.ref t) A s s.heap := by
  simp only [Bool.and_eq_true, decide_eq_true_eq] at h
  exact va_Zof (hts _ h.1) (hts _ h.2) hv hA
theorem gt_ok {s : State} {args : Array Value} {A : Nat → Prop} {stp ua : Nat} (hts : ∀ w ∈ lw_tbl, w.before args s = true) (hst : stT.eval args s none [] s = some (.ref stp)) (hA : ∀ a : Nat, a < s.heap.size → ¬ A a) :
    ∀ q ∈ aGT, va_Z q.2.2.2.2.1 q.2.2.2.2.2.1 q.2.2.2.2.2.2 (gsV (fun _ => none, 0, 0, stp, ua) q.2.2.1) A s s.heap :=
  List.forall_mem_cons.mpr ⟨gt_r hts hA (by decide +kernel) hst, fun q hq => nomatch hq⟩
theorem okWd : (decide (Jvm.Cond.arrayClass .int ∈ lw_tbl) && decide (Jvm.Cond.arrayClass .long ∈ lw_tbl) && decide (Jvm.Cond.arrayOver (.object "OvertureDesk$Song") ∈ lw_tbl)) = true := by decide +kernel
theorem okTh : (decide (Jvm.Cond.laysStatic Bundle.tN "UNASSIGNED_STACK" Bundle.steD ∈ lw_tbl) && decide (Jvm.Cond.laysStatic Bundle.tN "SUPPRESSED_SENTINEL" Bundle.listD ∈ lw_tbl) && decide (Jvm.Cond.initialized Bundle.tN ∈ lw_tbl) && decide (Jvm.Cond.isRef (.static Bundle.tN "UNASSIGNED_STACK" Bundle.steD) ∈ pre9) && decide (Jvm.Cond.isRef (.static Bundle.tN "SUPPRESSED_SENTINEL" Bundle.listD) ∈ pre9)) = true := by decide +kernel
theorem st_len {s : State} {args : Array Value} {t : Term} {N a : Nat} {cell : Cell} (hN : N < 2 ^ 31) (ht : t.eval args s none [] s = some (.ref a)) (hc : s.heap[a]? = some cell) (h : (Term.length t).eval args s none [] s = some (.int (Int32.ofNat N))) : cell.slots.size = N := by
  obtain ⟨a', cell', h1, h2, h3⟩ := Term.length_spec h
  cases ht.symm.trans h1
  obtain ⟨h4, -⟩ := State.arrayAt?_spec h2
  cases hc.symm.trans h4
  have hsz : cell.slots.size < 2 ^ 31 := by
    simp only [Term.eval, ht, h2, Option.bind_eq_bind, Option.bind_some] at h
    by_cases hlt : cell.slots.size < 2147483648
    · exact hlt
    · simp [hlt] at h
  have e : Int32.ofNat N = Int32.ofNat cell.slots.size := Value.int.inj h3
  have e2 := congrArg Int32.toInt e
  rw [Int32.toInt_ofNat_small hN, Int32.toInt_ofNat_small hsz] at e2
  omega
/-- the start's heap as the law sees it -/
def hp0 (b stp L : Nat) (xs : Nat → Int32) : aHf := fun q => if q = b then some (aI .float L xs) else if q = stp then some (aI .float 8 st_f) else none
theorem start_ok {l : Launch} {s : State} {b L : Nat} {xs : Nat → Int32} (hflags : l.flags = flags0) (hL : L ≤ 260) (hts : ∀ w ∈ lw_tbl, w.before #[Value.ref b] s = true) (hX : va_X b L xs s s.heap) (hgv : (Jvm.Cond.and given_1 narrow_1).before #[Value.ref b] s = true) :
    ∃ (D : va_G) (stp ua : Nat) (h : aHf), aG l s D (stp, ua) ∧ gR D s (stp, ua) (h, s.heap.size, 0, stp, ua) s.heap ∧ h b = some (aI .float L xs) ∧ (∃ f, h stp = some (aI .float 8 f) ∧ ∀ j : Nat, j < 8 → f j = st_f j) ∧ b < s.heap.size ∧ stp < s.heap.size ∧ ∀ q : Nat, s.heap.size ≤ q → h q = none := by
  obtain ⟨D, hKn⟩ := kn_all hts
  have hs : ∀ w ∈ pre9, w.before #[Value.ref b] s = true := flat_of_before _ hgv
  have hA : ∀ a : Nat, a < s.heap.size → ¬ (fun a : Nat => s.heap.size ≤ a) a := fun a h => Nat.not_le.mpr h
  -- the steps
  have k1 := okSt
  simp only [Bool.and_eq_true, decide_eq_true_eq, List.all_eq_true, List.mem_range] at k1
  obtain ⟨⟨k1, k2⟩, k3⟩ := k1
  have hlen := va_eqt (hs _ k2)
  obtain ⟨stp, hst, hT⟩ := va_Tof (N := 8) (f := fun j => .int (st_f j)) (A := fun a : Nat => s.heap.size ≤ a) (by decide) (hs _ k1) hlen (fun j hj => va_eqt (hs _ (k3 j hj))) hA
  obtain ⟨cS, s1, s2, s3, -, -, s6, s7⟩ := hT
  have s5 := st_len (N := 8) (by decide) hst s1 hlen
  have hstp : stp < s.heap.size := (Array.getElem?_eq_some_iff.mp s1).1
  obtain ⟨scr, x1, x2, x3, x4, x5⟩ := hX
  have hb : b < s.heap.size := (Array.getElem?_eq_some_iff.mp x1).1
  have hw := okWd
  simp only [Bool.and_eq_true, decide_eq_true_eq] at hw
  obtain ⟨⟨w1, w2⟩, w4⟩ := hw
  have ht := okTh
  simp only [Bool.and_eq_true, decide_eq_true_eq] at ht
  obtain ⟨⟨⟨⟨t1, t2⟩, t3⟩, t4⟩, t5⟩ := ht
  refine ⟨D, stp, 0, hp0 b stp L xs, ⟨?_, ⟨_, hts⟩, hKn, ⟨?_, trivial⟩, ?_, w4, trivial, ?_, ?_, vx_Zqof (hts _ t1) (hts _ t3) (hs _ t4) hA, vx_Zqof (hts _ t2) (hts _ t3) (hs _ t5) hA⟩, ⟨rfl, ?_, ?_, Nat.le_refl _, fun _ _ => rfl, rfl⟩, if_pos rfl, ?_, hb, hstp, fun q hq => ?_⟩
  · unfold Launch.stackTraces
    rw [hflags]
    decide +kernel
  · exact gt_ok hts hst hA
  · intro ty hty
    rcases hty with rfl | rfl
    · exact w1
    · exact w2
  · intro q hq
    have hk := List.all_eq_true.mp okNc q hq
    exact va_Nc.of (hs _ (of_decide_eq_true hk))
  · intro x9 hx9
    have hk := List.all_eq_true.mp okTx x9 hx9
    simp only [chkTx, Bool.and_eq_true, decide_eq_true_eq] at hk
    obtain ⟨a9, c9, cell9, k9, v1, -⟩ := Cond.exactly_spec (hs _ hk.2)
    exact ⟨a9, vk_R.of (hts _ hk.1) v1⟩
  · intro a c hac
    by_cases ha : a = b
    · have e : c = aI .float L xs := (Option.some.inj ((if_pos ha).symm.trans hac)).symm
      rw [e, ha]
      show gI9 s b .float L xs s.heap
      unfold gI9
      rw [if_pos rfl]
      exact ⟨scr, x1, x2, x3, x4, x5, by omega⟩
    · by_cases ha2 : a = stp
      · have e : c = aI .float 8 st_f := (Option.some.inj (((if_neg ha).trans (if_pos ha2)).symm.trans hac)).symm
        rw [e, ha2]
        show gI9 s stp .float 8 st_f s.heap
        unfold gI9
        rw [if_pos rfl]
        exact ⟨cS, s1, s2, s3, s5, s6, by decide⟩
      · have := ((if_neg ha).trans (if_neg ha2)).symm.trans hac
        cases this
  · intro a c hac
    refine Or.inl ?_
    by_cases ha : a = b
    · have e : c = aI .float L xs := (Option.some.inj ((if_pos ha).symm.trans hac)).symm
      rw [e]
      rfl
    · by_cases ha2 : a = stp
      · have e : c = aI .float 8 st_f := (Option.some.inj (((if_neg ha).trans (if_pos ha2)).symm.trans hac)).symm
        rw [e]
        rfl
      · have := ((if_neg ha).trans (if_neg ha2)).symm.trans hac
        cases this
  · by_cases hbs : stp = b
    · subst hbs
      cases x1.symm.trans s1
      have hL8 : L = 8 := x4.symm.trans s5
      subst hL8
      refine ⟨xs, if_pos rfl, fun j hj => ?_⟩
      have := (x5 j hj).symm.trans (s6 j hj)
      exact Value.int.inj (Option.some.inj this)
    · refine ⟨st_f, ?_, fun _ _ => rfl⟩
      show (if stp = b then _ else if stp = stp then _ else _) = _
      rw [if_neg hbs, if_pos rfl]
  · show (if q = b then _ else if q = stp then _ else _) = _
    rw [if_neg (by omega), if_neg (by omega)]
