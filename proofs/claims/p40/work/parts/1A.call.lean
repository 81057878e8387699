/-! ===== calls ===== -/
/-- what is given once for the law's whole run: the tables at its start S0, the classes, the statics, the texts -/
def aG (l : Launch) (S0 : State) (D : va_G) (g0 : Nat × Nat) : Prop :=
  l.stackTraces = false ∧ (∃ A0, ∀ w ∈ lw_tbl, w.before A0 S0 = true) ∧
  (∀ (k : Nat) (q : vw_C), aCl[k]? = some q → u_Kn S0 q.1 q.2.1 q.2.2 (D.1 k) (D.2 k)) ∧
  ((∀ q ∈ aGT, va_Z q.2.2.2.2.1 q.2.2.2.2.2.1 q.2.2.2.2.2.2 (gsV (fun _ => none, 0, 0, g0) q.2.2.1) (fun a => S0.heap.size ≤ a) S0 S0.heap) ∧ unsF S0 g0) ∧
  (∀ ty, ty = FieldType.int ∨ ty = .long → (Jvm.Cond.arrayClass ty) ∈ lw_tbl) ∧ (Jvm.Cond.arrayOver (.object "OvertureDesk$Song")) ∈ lw_tbl ∧ True ∧
  (∀ q ∈ aNC, va_Nc q.1 q.2 S0) ∧ (∀ x ∈ aXT, ∃ sa, vk_R "OvertureDesk" x.2.2.2.2.1 x.2.2.2.2.2.2.2 sa S0) ∧
  vx_Zq Bundle.tN "UNASSIGNED_STACK" Bundle.steD (fun a => S0.heap.size ≤ a) S0 S0.heap ∧ vx_Zq Bundle.tN "SUPPRESSED_SENTINEL" Bundle.listD (fun a => S0.heap.size ≤ a) S0 S0.heap
def gPc (S0 : State) (D : va_G) (g0 : Nat × Nat) (H : aH) (as : List Value) : Array Value → State → Prop := fun v U => v = as.toArray ∧ gR D S0 g0 H U.heap ∧ S0.WarmedH U.vm
def gQc (S0 : State) (D : va_G) (g0 : Nat × Nat) (x : aO × aH) : Array Value → State → Outcome → State → Prop := fun _ _ o t => ∃ v, x.1 = .inl v ∧ o = .returned v ∧ gR D S0 g0 x.2 t.heap
def gXc (S0 : State) (D : va_G) (g0 : Nat × Nat) (x : aO × aH) : String → State → State → Prop := fun E _ t => x.1 = .inr E ∧ gR D S0 g0 x.2 t.heap
def rmD (M : Nat) (H : aH) (x : aO × aH) : Room := { frames := mFR M, cells := x.2.2.1 - H.2.1, slots := x.2.2.2.1 - H.2.2.1, locals := mLO M }
/-- the methods' contracts up to a depth: what the abstract machine answers -/
def gOk (l : Launch) (S0 : State) (D : va_G) (g0 : Nat × Nat) (d : Nat) : Prop := ∀ (M : Nat) (as : List Value) (H : aH) (x : aO × aH) (r : aMR), aRec M = some r → M ≠ 0 → aE d M as H = some x →
  H.2.1 ≤ x.2.2.1 ∧ H.2.2.1 ≤ x.2.2.2.1 ∧ vx_Met l (rY r) [cwM r] (rmD M H x) (gPc S0 D g0 H as) (gQc S0 D g0 x) (gXc S0 D g0 x) (x.2.2.1 - H.2.1) (x.2.2.2.1 - H.2.2.1) (fun q => S0.heap.size ≤ q)
theorem gPc_blind {S0 : State} {D : va_G} {g0 : Nat × Nat} {H : aH} {as : List Value} : FrameBlind (gPc S0 D g0 H as) := fun _ _ _ _ h => h
def exW (w : Jvm.Cond) : Bool := goodWord w || (match w with
  | .castable .. => true
  | .declares .. => true
  | .methodLinkNest .. => true
  | _ => false)
theorem drop1 {α : Type} {l : List α} {j : Nat} {x : α} (h : l[j]? = some x) (hj : j ≠ 0) : (l.drop 1)[j - 1]? = some x := by
  rw [List.getElem?_drop]
  have e : 1 + (j - 1) = j := by omega
  rw [e]; exact h
theorem rec_code {M : Nat} {r : aMR} (h : aRec M = some r) (hM : M ≠ 0) : cwM r ∈ lw_tbl ∧ goodWord (cwM r) = true := by
  have h1 := drop1 (l := aMT) h hM
  constructor
  · have h2 := congrArg (fun l => l[M - 1]?) okMc
    simp only [List.getElem?_map, h1, Option.map_some] at h2
    exact tb_in (Option.some.inj h2)
  · exact List.all_eq_true.mp okMg r (List.mem_of_getElem? h)
theorem rec_chk {M : Nat} {r : aMR} (h : aRec M = some r) (hM : M ≠ 0) : chkM r = true := List.all_eq_true.mp okM r (List.mem_of_getElem? (drop1 (l := aMT) h hM))
section
variable {p : Program} {l : Launch} {e : Env} {R : Room} {s : State} {m : MethodId} {args : Array Value} {below : List Frame} {meth : Method} {c : Code} {Q : State → Prop} {S0 : State} {D : va_G} {g0 : Nat × Nat} {M n0 w0 : Nat}
theorem cx_exw (C : aCx p s m meth c S0 D g0 M) {w : Jvm.Cond} (hw : w ∈ lw_tbl) (hg : exW w = true) : w.before args s = true := by
  by_cases hgd : goodWord w = true
  · exact cx_word C hw hgd args s C.2.2.2.2.1
  · obtain ⟨-, -, -, -, hW, ⟨A0, hts⟩, -⟩ := C
    have h := hts w hw
    cases w with
    | castable a b => exact va_Nw.use rfl (va_Nw.warmC hW (va_Nw.of rfl h))
    | declares a => exact va_Nw.use rfl (va_Nw.warmD hW (va_Nw.of rfl h))
    | methodLinkNest a b x d => exact va_Nw.use rfl (va_Nw.warmM hW (va_Nw.of rfl h))
    | _ => exact absurd (by simpa [exW] using hg) hgd
theorem kT_ok {k : Nat} {q : Nat × String × Nat} {O : String} (h : fnd3 aKT (mOc M) k = some q) (hO : aON[mOc M]? = some O) : q.1 ≠ 0 ∧ (q.2.1 = "" → tb q.2.2 = some (.methodLink O k (mY q.1))) ∧ (q.2.1 ≠ "" → tb q.2.2 = some (.methodLinkNest O k (mY q.1) q.2.1)) := by
  have hk := List.all_eq_true.mp okK _ (fnd3_mem h)
  obtain ⟨M', ho, p9⟩ := q
  simp only [chkK, hO, Bool.and_eq_true, decide_eq_true_eq] at hk
  refine ⟨hk.1, fun z => ?_, fun z => ?_⟩
  · have z : ho = "" := z
    have h2 := hk.2
    rw [if_pos z] at h2
    exact of_decide_eq_true h2
  · have z : ho ≠ "" := z
    have h2 := hk.2
    rw [if_neg z] at h2
    exact of_decide_eq_true h2
theorem aArgs_ok {n : Nat} {st as rest : List Value} (h : aArgs n st = some (as, rest)) : st = as.reverse ++ rest ∧ as.length = n := by
  unfold aArgs at h
  split at h
  next hn =>
    cases h
    refine ⟨by rw [List.reverse_reverse, List.take_append_drop], by rw [List.length_reverse, List.length_take]; omega⟩
  next => cases h
def insK (kd k : Nat) : Instr := match kd with
  | 0 => .invokevirtual k
  | 1 => .invokestatic k
  | _ => .invokespecial k
theorem call_run (C : aCx p s m meth c S0 D g0 M) {d kd k pc : Nat} (hOk : gOk l S0 D g0 d) {q : Nat × String × Nat} {st as rest : List Value} {H : aH} {x : aO × aH} {Hr : Heap} {lsr : Array Slot} {locs : List Loc} {cells slots : Nat}
    (hq : fnd3 aKT (mOc M) k = some q) (hlt : ¬ 1000 ≤ q.1) (hkd : mKd q.1 = kd) (hrq : rqC M q.1 = true) (hargs : aArgs (mNA q.1 + (if kd = 1 then 0 else 1)) st = some (as, rest)) (hcat : catS rest ≤ 8) (hrecv : recv kd (mCi q.1) as H = true) (hE : aE d q.1 as H = some x)
    (hd : decode c.code pc = .ok (insK kd k, 3)) (hR : gR D S0 g0 H Hr) (hsz : lsr.size = mML M) (hRf : R.frames = mFR M) (hRl : R.locals = mLO M) (hc : cells + (x.2.2.1 - H.2.1) ≤ R.cells) (hs : slots + (x.2.2.2.1 - H.2.2.1) ≤ R.slots) :
    vx_Run p l e R s m args below meth c Hr locs cells slots (x.2.2.1 - H.2.1) (x.2.2.2.1 - H.2.2.1) (F0 m pc lsr st) rest (gQc S0 D g0 x as.toArray) (gXc S0 D g0 x) (fun q => S0.heap.size ≤ q) := by
  obtain ⟨O, hO, hown⟩ := C.2.2.2.1
  obtain ⟨hne, hl1, hl2⟩ := kT_ok hq hO
  have hx := C.1
  have hml := C.2.2.1
  have hal := C.2.2.2.2.2.2.2.2.2.2.2.2
  have hW := C.2.2.2.2.1
  cases hr : aRec q.1 with
  | none =>
    have h9 := List.all_eq_true.mp okH2 _ (fnd3_mem hq)
    simp only [hr, Option.isSome_none, Bool.false_or, decide_eq_true_eq] at h9
    exact absurd h9 hlt
  | some r =>
    obtain ⟨-, -, hM⟩ := hOk q.1 as H x r hr hne hE
    obtain ⟨hcw, hcg⟩ := rec_code hr hne
    have hck := rec_chk hr hne
    have e1 : mKd q.1 = rKd r := by unfold mKd; rw [hr]
    have e2 : mNA q.1 = rNA r := by unfold mNA; rw [hr]
    have e3 : mCi q.1 = rCi r := by unfold mCi; rw [hr]
    have e4 : mY q.1 = rY r := by unfold mY; rw [hr]
    rw [e1] at hkd
    rw [e2] at hargs
    rw [e3] at hrecv
    rw [e4] at hl1 hl2
    simp only [chkM, Bool.and_eq_true, decide_eq_true_eq] at hck
    obtain ⟨⟨⟨⟨⟨⟨⟨⟨⟨⟨⟨k1, k2⟩, k3⟩, k4⟩, k5⟩, k6⟩, k7⟩, k8⟩, k9⟩, k10⟩, k11⟩, k12⟩ := hck
    obtain ⟨hst, hlen⟩ := aArgs_ok hargs
    have hws : ∀ w ∈ [cwM r], ∀ (a' : Array Value) (U : State), s.WarmedH U.vm → w.before a' U = true := fun w hw a' U hU => by
      rw [List.mem_singleton.mp hw]
      exact cx_word C hcw hcg a' U (State.WarmedH.trans hW hU)
    have hini : (Jvm.Cond.initialized (rY r).cls).before args s = true := cx_tb C k2 rfl
    have hcode : (cwM r).before args s = true := cx_word C hcw hcg args s hW
    have hsig : ∀ sig, parseMethodDescriptor (rY r).desc = some sig → rNA r = sig.parameters.length := fun sig h => by
      rw [h] at k9
      exact (Option.some.inj k9).symm
    simp only [rqC, Bool.and_eq_true, Nat.ble_eq] at hrq
    have e5 : mML q.1 = rML r := by unfold mML; rw [hr]
    have hfr : (rmD q.1 H x).frames + 1 ≤ R.frames := by rw [hRf]; exact hrq.1
    have hlo : 8 + (rML r + 11) + (rmD q.1 H x).locals ≤ R.locals := by rw [hRl]; show 8 + (rML r + 11) + mLO q.1 ≤ _; have := hrq.2; omega
    have S : CallFix p m c c.code (mML M) s args [] O := ⟨hx, rfl, hml, hown, fun w h => nomatch h⟩
    have hroom : 2 * (F0 m pc lsr st).monitorRoom + (rest.map fun v => v.category).sum ≤ 8 := by
      show 2 * 0 + catS rest ≤ 8
      omega
    by_cases hh : rHH r = []
    · have hcwe : cwM r = .code (rY r) (rB r) (rML r) (rRet r) := by unfold cwM; rw [if_pos hh]
      rw [hcwe] at hws hcode hM
      have base : (rmD q.1 H x).cells = x.2.2.1 - H.2.1 ∧ (rmD q.1 H x).slots = x.2.2.2.1 - H.2.2.1 ∧ (rmD q.1 H x).frames + 1 ≤ R.frames ∧ 8 + (rML r + 11) + (rmD q.1 H x).locals ≤ R.locals ∧ (∀ w ∈ [Jvm.Cond.code (rY r) (rB r) (rML r) (rRet r)], ∀ (a' : Array Value) (U : State), s.WarmedH U.vm → w.before a' U = true) ∧ Jvm.Cond.code (rY r) (rB r) (rML r) (rRet r) ∈ [Jvm.Cond.code (rY r) (rB r) (rML r) (rRet r)] :=
        ⟨rfl, rfl, hfr, hlo, hws, List.mem_cons_self⟩
      subst hkd
      have hk3 : rKd r = 0 ∨ rKd r = 1 ∨ rKd r = 2 := by omega
      rcases hk3 with hk3 | hk3 | hk3
      · rw [hk3] at hrecv hargs k1 hd hlen
        rw [if_neg (by decide)] at k1
        rw [if_pos hk3] at k3
        match as, hrecv, hst, hlen, hM with
        | .ref b :: As, hrecv, hst, hlen, hM =>
          have hp0 : ∃ cell : Cell, Hr[b]? = some cell ∧ cell.vm.isStatics = false ∧ s.vm.findClass (rY r).cls = some cell.cls := by
            have hrecv : (if rCi r = 11 then false else (match H.1 b with | some (.inr (cj, _)) => cj == rCi r | _ => false)) = true := hrecv
            cases hcl : aCl[rCi r]? with
            | none =>
              simp only [hcl, Bool.and_eq_true, decide_eq_true_eq] at k3
              obtain ⟨⟨z1, z2⟩, -⟩ := k3
              rw [if_pos z1] at hrecv
              cases hrecv
            | some r' =>
              obtain ⟨C9, T9, N9⟩ := r'
              simp only [hcl, Bool.and_eq_true, decide_eq_true_eq] at k3
              obtain ⟨⟨hC9, z1⟩, -⟩ := k3
              rw [if_neg z1] at hrecv
              cases hb : H.1 b with
              | none => rw [hb] at hrecv; cases hrecv
              | some y =>
                rw [hb] at hrecv
                match y, hrecv, hb with
                | .inr (cj, fs), hrecv, hb =>
                  have hcj : cj = rCi r := by simpa using hrecv
                  subst hcj
                  obtain ⟨r', c1, c2, cell, q1, q2, q3, q4⟩ := hR.2.1 b _ hb
                  cases hcl.symm.trans c1
                  have hcls := (cx_Kn C hcl).2.1
                  exact ⟨cell, q1, obV_ns q3, by rw [q2, ← hC9]; exact hcls⟩
          obtain ⟨cell, q1, q3, hcls⟩ := hp0
          have hsel := cx_tb (args := args) C (show tb r.2.2.2.2.2.2.2.2.2.2.2.2.2 = some (.selects (rY r).cls (rY r) (rY r)) by
            simp only [Bool.and_eq_true, decide_eq_true_eq] at k3
            exact k3.2) rfl
          have hp : PreV s Hr (rY r).cls b (gPc S0 D g0 H (.ref b :: As)) As := ⟨gPc_blind, ⟨cell, q1, q3, hcls⟩, fun U hU hUW => ⟨rfl, by rw [hU]; exact hR, State.WarmedH.trans hW hUW⟩⟩
          have hlen' : As.length = rNA r := by
            have : (Value.ref b :: As).length = rNA r + 1 := hlen
            exact Nat.succ.inj this
          have hst' : (F0 m pc lsr st).stack = As.reverse ++ .ref b :: rest := by
            show st = _
            rw [hst, List.reverse_cons, List.append_assoc]; rfl
          by_cases hn : q.2.1 = ""
          · exact vx_runV S hM ⟨⟨base.1, base.2.1, base.2.2.1, base.2.2.2.1, base.2.2.2.2.1, base.2.2.2.2.2, hcode, hini, ⟨k7, k8⟩, hsig, cx_tb C (hl1 hn) rfl⟩, cx_tb C k1 rfl, hsel⟩ hp rfl hlen' hsz hst' hroom hd ⟨hc, hs⟩
          · exact vx_runVN S hM ⟨⟨base, hcode, hini, ⟨k7, k8⟩, hsig, cx_exw C (tb_in (hl2 hn)) rfl⟩, cx_tb C k1 rfl, hsel⟩ hp rfl hlen' hsz hst' hroom hd ⟨hc, hs⟩
      · rw [hk3] at hargs k1 hd
        rw [if_pos rfl] at k1
        have hp : PreS s Hr (gPc S0 D g0 H as) as := ⟨gPc_blind, fun U hU hUW => ⟨rfl, by rw [hU]; exact hR, State.WarmedH.trans hW hUW⟩⟩
        rw [hk3] at hlen
        have hlen' : as.length = rNA r := hlen
        by_cases hn : q.2.1 = ""
        · exact vx_runS S hM ⟨⟨base.1, base.2.1, base.2.2.1, base.2.2.2.1, base.2.2.2.2.1, base.2.2.2.2.2, hcode, hini, ⟨k7, k8⟩, hsig, cx_tb C (hl1 hn) rfl⟩, cx_tb C k1 rfl⟩ hp rfl hlen' hsz hst hroom hd ⟨hc, hs⟩
        · exact vx_runSN S hM ⟨⟨base, hcode, hini, ⟨k7, k8⟩, hsig, cx_exw C (tb_in (hl2 hn)) rfl⟩, cx_tb C k1 rfl, trivial⟩ hp rfl hlen' hsz hst hroom hd ⟨hc, hs⟩
      · rw [hk3] at hrecv hargs k1 hd hlen
        rw [if_neg (by decide)] at k1
        rw [if_pos hk3] at k4
        simp only [Bool.and_eq_true, decide_eq_true_eq] at k4
        rw [k4.2] at base hcode hM
        match as, hrecv, hst, hlen, hM with
        | .ref b :: As, hrecv, hst, hlen, hM =>
          have hlen' : As.length = rNA r := Nat.succ.inj hlen
          have hst' : (F0 m pc lsr st).stack = As.reverse ++ .ref b :: rest := by
            show st = _
            rw [hst, List.reverse_cons, List.append_assoc]; rfl
          have hp : PreS s Hr (gPc S0 D g0 H (.ref b :: As)) (.ref b :: As) := ⟨gPc_blind, fun U hU hUW => ⟨rfl, by rw [hU]; exact hR, State.WarmedH.trans hW hUW⟩⟩
          by_cases hn : q.2.1 = ""
          · exact vx_runI S hM ⟨⟨base.1, base.2.1, base.2.2.1, base.2.2.2.1, base.2.2.2.2.1, base.2.2.2.2.2, hcode, hini, ⟨k7, k8⟩, hsig, cx_tb C (hl1 hn) rfl⟩, k4.1, cx_tb C k1 rfl⟩ hp rfl hlen' hsz hst' hroom hd ⟨hc, hs⟩
          · exact vx_runIN S hM ⟨⟨base, hcode, hini, ⟨k7, k8⟩, hsig, cx_exw C (tb_in (hl2 hn)) rfl⟩, k4.1, cx_tb C k1 rfl⟩ hp rfl hlen' hsz hst' hroom hd ⟨hc, hs⟩
    · have hcwe : cwM r = .codeWith (rY r) (rB r) (rML r) (rRet r) (rHH r) := by unfold cwM; rw [if_neg hh]
      rw [hcwe] at hws hcode hM
      rw [if_neg hh] at k12
      have hk3 : rKd r = 1 := of_decide_eq_true k12
      subst hkd
      rw [hk3] at hargs k1 hd hlen
      rw [if_pos rfl] at k1
      have hp : PreS s Hr (gPc S0 D g0 H as) as := ⟨gPc_blind, fun U hU hUW => ⟨rfl, by rw [hU]; exact hR, State.WarmedH.trans hW hUW⟩⟩
      have hlen' : as.length = rNA r := hlen
      by_cases hn : q.2.1 = ""
      · exact vx_runSX S hM ⟨⟨rfl, rfl, hfr, hlo, hws, List.mem_cons_self⟩, hcode, hini, ⟨k7, k8⟩, hsig, cx_tb C (hl1 hn) rfl, cx_tb C k1 rfl⟩ hp rfl hlen' hsz hst hroom hd ⟨hc, hs⟩
      · have := List.all_eq_true.mp okH _ (fnd3_mem hq)
        simp only [Bool.or_eq_true, decide_eq_true_eq, hn, false_or, hr, hh] at this
end
