/-! ===== ends, throws; a run; the contracts of all methods ===== -/
def tn1 : List String := ["java/lang/RuntimeException", "java/lang/Exception"]
def aXE : List (Nat × Nat × String) := (aXT.map fun x => (x.2.2.2.1, x.2.2.2.2.2.1, x.2.2.1)).eraseDups
def chkXE (x : Nat × Nat × String) : Bool := Bundle.fit x.2.2 && (Jvm.Cond.classLink "OvertureDesk" x.1 x.2.2 :: .initialized x.2.2 :: vx_atS "OvertureDesk" x.2.1 x.2.2 tn1).all (fun w => decide (w ∈ lw_tbl) && exW w && vx_ot w)
theorem okXE : aXE.all chkXE = true := by decide +kernel
theorem okTn : tn1.all Bundle.fit = true := by decide +kernel
def chkX (x : Nat × Nat × String × Nat × Nat × Nat × Bool × String) : Bool := match x with
  | (M, pc, E, ik, is, ic, wd, _) => decide ((ik, ic, E) ∈ aXE) && decide (aON[mOc M]? = some "OvertureDesk") && decide (mDec M pc = some (.new ik, 3)) && decide (mDec M (pc + 3) = some (.dup, 1)) &&
    (if wd then decide (mDec M (pc + 4) = some (.ldc_w is, 3)) && decide (mDec M (pc + 7) = some (.invokespecial ic, 3)) && decide (mDec M (pc + 10) = some (.athrow, 1))
      else decide (mDec M (pc + 4) = some (.ldc is, 2)) && decide (mDec M (pc + 6) = some (.invokespecial ic, 3)) && decide (mDec M (pc + 9) = some (.athrow, 1))) && decide (mHH M = [])
theorem okX : aXT.all chkX = true := by decide +kernel
def nor (o : Option (aQ ⊕ (aO × aH))) : Prop := ∀ x, o ≠ some (.inr x)
theorem nor_0 : nor none := fun x h => by cases h
theorem nor_g {H : aH} {pc : Nat} {ls : aLs} {st : List Value} : nor (go pc ls st H) := fun x h => by cases h
theorem nor_b {α : Type} {x : Option α} {f : α → Option (aQ ⊕ (aO × aH))} (h : ∀ v, nor (f v)) : nor (x.bind f) := by
  cases x with
  | none => exact nor_0
  | some v => exact h v
theorem nor_i {p : Prop} [Decidable p] {a b : Option (aQ ⊕ (aO × aH))} (h1 : nor a) (h2 : nor b) : nor (if p then a else b) := by
  split
  · exact h1
  · exact h2
theorem nor_r {c : Jvm.ClassFile.Cond} {x y : Int32} {a b : Option (aQ ⊕ (aO × aH))} (h1 : nor a) (h2 : nor b) : nor (aBr c x y a b) := by
  unfold aBr
  split <;> split <;> assumption
theorem nor_S (M pc len : Nat) (i : Instr) (ls : aLs) (st : List Value) (H : aH) : nor (aS M pc len i ls st H) := by
  unfold aS
  split <;> repeat' (first | exact nor_0 | exact nor_g | (refine nor_b fun _ => ?_) | (refine nor_i ?_ ?_) | (refine nor_r ?_ ?_) | split)
section
variable {p : Program} {l : Launch} {e : Env} {R : Room} {s : State} {m : MethodId} {args : Array Value} {below : List Frame} {meth : Method} {c : Code} {S0 : State} {D : va_G} {g0 : Nat × Nat} {M n0 w0 : Nat}
/-- an invocation of M in the law's run: its frame's facts, and what is given for the whole run -/
def aBd (p : Program) (l : Launch) (s : State) (m : MethodId) (meth : Method) (c : Code) (S0 : State) (D : va_G) (g0 : Nat × Nat) (M n0 : Nat) : Prop :=
  aCx p s m meth c S0 D g0 M ∧ aG l S0 D g0 ∧ meth.locks = false ∧ meth.sig.returnType = mRet M ∧ c.exceptionTable.toList = tableOf (mHH M) ∧ s.heap.size = n0 ∧ S0.heap.size ≤ s.heap.size ∧ ∀ q : Nat, q < S0.heap.size → s.heap[q]? = S0.heap[q]?
abbrev Qe (below : List Frame) (args : Array Value) (s : State) (S0 : State) (D : va_G) (g0 : Nat × Nat) (n0 w0 : Nat) (x : aO × aH) : State → Prop :=
  vx_MQ below (gQc S0 D g0 x) (gXc S0 D g0 x) args s (x.2.2.1 - n0) (x.2.2.2.1 - w0) (fun q => S0.heap.size ≤ q)
theorem en_ret (B : aBd p l s m meth c S0 D g0 M n0) {pc : Nat} {ls : aLs} {st : List Value} {H : aH} {v : Option Value} {x : aO × aH} {i : Instr} {len : Nat} {u : Value} (hm : mDec M pc = some (i, len)) (hi : (i = .ireturn ∧ kI u = true) ∨ (i = .lreturn ∧ kL u = true) ∨ (i = .dreturn ∧ kD u = true) ∨ (i = .areturn ∧ kA u = true)) (hst : st = [u]) (hk : retK (mRet M) u = true) (hx1 : x.1 = .inl (some u)) (hx2 : x.2.2 = H.2)
    (hfin : ∀ Hr, gR D S0 g0 H Hr → gR D S0 g0 x.2 Hr) : Wq p l e R s m args below meth c (Qe below args s S0 D g0 n0 w0 x) S0 D g0 (mML M) n0 w0 (pc, ls, st, H) := by
  obtain ⟨C, G, hlocks, hret, hT, -⟩ := B
  have hd := C.2.1 pc _ hm
  have hx := C.1
  subst hst
  intro Hr lsr locs hR hL hl
  obtain ⟨xo, xh, xr⟩ := x
  have hx2 : xr = H.2 := hx2
  subst hx2
  have hx1 : xo = .inl (some u) := hx1
  subst hx1
  have hq : ∀ t : State, t.heap = Hr → s.WarmedH t.vm → gQc S0 D g0 (.inl (some u), xh, H.2) args s (.returned (some u)) t := fun t ht _ => ⟨some u, rfl, rfl, by rw [ht]; exact hfin Hr hR⟩
  have h1 : ilen i = 1 := by rcases hi with ⟨rfl, -⟩ | ⟨rfl, -⟩ | ⟨rfl, -⟩ | ⟨rfl, -⟩ <;> rfl
  obtain rfl : 1 = len := by
    rcases mDec_len hm with z | z
    · rw [h1] at z; cases z
    · rw [h1] at z; exact z
  refine vx_ret ?_
  rcases hi with ⟨rfl, hu⟩ | ⟨rfl, hu⟩ | ⟨rfl, hu⟩ | ⟨rfl, hu⟩
  · cases u with
    | int z =>
      cases hr : mRet M with
      | none => rw [hr] at hk; cases hk
      | some ty =>
        rw [hr] at hk hret
        cases ty with
        | int => exact W.iret hx rfl hret hq hl hd hlocks
        | boolean =>
          have hk : (z == 0 || z == 1) = true := hk
          simp only [Bool.or_eq_true, beq_iff_eq] at hk
          exact W.zret hx rfl hret (by rcases hk with rfl | rfl <;> decide) hq hl hd hlocks
        | _ => cases hk
    | _ => cases hu
  · cases u with
    | long z =>
      cases hr : mRet M with
      | none => rw [hr] at hk; cases hk
      | some ty =>
        rw [hr] at hk hret
        cases ty with
        | long => exact W.lret hx rfl hret hq hl hd hlocks
        | _ => cases hk
    | _ => cases hu
  · cases u with
    | double z =>
      cases hr : mRet M with
      | none => rw [hr] at hk; cases hk
      | some ty =>
        rw [hr] at hk hret
        cases ty with
        | double => exact W.dret hx rfl hret hq hl hd hlocks
        | _ => cases hk
    | _ => cases hu
  · have hv : u = .null ∨ ∃ a, u = .ref a := by
      cases u with
      | null => exact Or.inl rfl
      | ref a => exact Or.inr ⟨a, rfl⟩
      | _ => cases hu
    cases hr : mRet M with
    | none => rw [hr] at hk; cases u <;> cases hk
    | some ty =>
      rw [hr] at hk hret
      have hrt : (∃ n, ty = .object n) ∨ ∃ t, ty = .array t := by
        rcases hv with rfl | ⟨a, rfl⟩
        · cases ty with
          | object n => exact Or.inl ⟨n, rfl⟩
          | array t => exact Or.inr ⟨t, rfl⟩
          | _ => cases hk
        · cases ty with
          | object n => exact Or.inl ⟨n, rfl⟩
          | array t => exact Or.inr ⟨t, rfl⟩
          | _ => cases hk
      exact W.aret hx rfl hret hrt hv hq hl hd hlocks
theorem en_void (B : aBd p l s m meth c S0 D g0 M n0) {pc : Nat} {ls : aLs} {H : aH} {x : aO × aH} (hm : mDec M pc = some (.return_, 1)) (hk : mRet M = none) (hx1 : x.1 = .inl none) (hx2 : x.2.2 = H.2)
    (hfin : ∀ Hr, gR D S0 g0 H Hr → gR D S0 g0 x.2 Hr) : Wq p l e R s m args below meth c (Qe below args s S0 D g0 n0 w0 x) S0 D g0 (mML M) n0 w0 (pc, ls, [], H) := by
  obtain ⟨C, G, hlocks, hret, hT, -⟩ := B
  have hd := C.2.1 pc _ hm
  have hx := C.1
  intro Hr lsr locs hR hL hl
  obtain ⟨xo, xh, xr⟩ := x
  have hx2 : xr = H.2 := hx2
  subst hx2
  have hx1 : xo = .inl none := hx1
  subst hx1
  have hq : ∀ t : State, t.heap = Hr → s.WarmedH t.vm → gQc S0 D g0 (.inl none, xh, H.2) args s (.returned none) t := fun t ht _ => ⟨none, rfl, rfl, by rw [ht]; exact hfin Hr hR⟩
  rw [hk] at hret
  exact vx_ret (W.vret hx rfl hret hq hl hd hlocks)
theorem en_call (B : aBd p l s m meth c S0 D g0 M n0) {d kd k pc : Nat} (hOk : gOk l S0 D g0 d) {ls : aLs} {st : List Value} {H : aH} {x0 x : aO × aH} (hm : mDec M pc = some (insK kd k, 3)) (h : aCall (aE d) M pc kd k ls st H = some (.inr x0))
    (hRf : R.frames = mFR M) (hRl : R.locals = mLO M) (hc : x0.2.2.1 - n0 ≤ R.cells) (hs : x0.2.2.2.1 - w0 ≤ R.slots) (hn : n0 ≤ H.2.1) (hw0 : w0 ≤ H.2.2.1) (hx1 : x.1 = x0.1) (hx2 : x.2.2 = x0.2.2) (hfin : ∀ Hr, gR D S0 g0 x0.2 Hr → gR D S0 g0 x.2 Hr) :
    Wq p l e R s m args below meth c (Qe below args s S0 D g0 n0 w0 x) S0 D g0 (mML M) n0 w0 (pc, ls, st, H) := by
  obtain ⟨C, G, hlocks, hret, hT, -⟩ := B
  have hd := C.2.1 pc _ hm
  have hx := C.1
  obtain ⟨O, hO, hown⟩ := C.2.2.2.1
  obtain ⟨q9, hq, hcase⟩ := aCall_ok h
  rcases hcase with ⟨hge, hkd, as, rest, y, ha, hcat, hE, hb⟩ | ⟨hge, hkd, as, rest, y, ha, hcat, hrecv, hE, hb⟩
  · obtain ⟨o, H'⟩ := y
    obtain ⟨⟨v, hv⟩, -⟩ := aPrim_inl hE
    have hv : o = .inl v := hv
    subst hv
    cases hb
  · cases hr : aRec q9.1 with
    | none =>
      have h9 := List.all_eq_true.mp okH2 _ (fnd3_mem hq)
      simp only [hr, Option.isSome_none, Bool.false_or, decide_eq_true_eq] at h9
      exact absurd h9 hge
    | some r =>
      obtain ⟨hne, -, -⟩ := kT_ok hq hO
      obtain ⟨m1, m2, -⟩ := hOk q9.1 as H y r hr hne hE
      obtain ⟨o, H'⟩ := y
      have m1 : H.2.1 ≤ H'.2.1 := m1
      have m2 : H.2.2.1 ≤ H'.2.2.1 := m2
      cases o with
      | inl v => cases hb
      | inr E =>
        replace hb : (match hnd (mOc M) pc E (mHH M) with
          | none => none
          | some (some hp) => match mDec M hp with
            | some (.astore k, len) => if k < ls.length then go (hp + len) ((klA ls k).set k none) [] H' else none
            | some (.astore_n k, len) => if (k : Nat) < ls.length then go (hp + len) ((klA ls k).set k none) [] H' else none
            | _ => none
          | some none => if mHH M = [] then some (.inr (.inr E, H')) else none) = some (Sum.inr x0) := hb
        cases hh : hnd (mOc M) pc E (mHH M) with
        | none => rw [hh] at hb; cases hb
        | some o9 =>
          rw [hh] at hb
          cases o9 with
          | some hp =>
            exfalso
            replace hb : (match mDec M hp with
              | some (.astore k, len) => if k < ls.length then go (hp + len) ((klA ls k).set k none) [] H' else none
              | some (.astore_n k, len) => if (k : Nat) < ls.length then go (hp + len) ((klA ls k).set k none) [] H' else none
              | _ => none) = some (Sum.inr x0) := hb
            split at hb
            · split at hb <;> cases hb
            · split at hb <;> cases hb
            · cases hb
          | none =>
            replace hb : (if mHH M = [] then (some (Sum.inr ((Sum.inr E : aO), H')) : Option (aQ ⊕ (aO × aH))) else none) = some (Sum.inr x0) := hb
            split at hb
            next hH =>
              cases hb
              have hc : H'.2.1 - n0 ≤ R.cells := hc
              have hs : H'.2.2.1 - w0 ≤ R.slots := hs
              obtain ⟨xo, xh, xr⟩ := x
              have hx1 : xo = .inr E := hx1
              have hx2 : xr = H'.2 := hx2
              subst hx1
              subst hx2
              intro Hr lsr locs hR hL hl
              have hrun := call_run C hOk hq hge hkd.1 hkd.2 ha hcat hrecv hE hd hR (LR_size hL) hRf hRl (cells := H.2.1 - n0) (slots := H.2.2.1 - w0) (locs := locs) (args := args) (below := below) (p := p) (e := e) (m := m) (by show H.2.1 - n0 + (H'.2.1 - H.2.1) ≤ _; omega) (by show H.2.2.1 - w0 + (H'.2.2.1 - H.2.2.1) ≤ _; omega)
              intro T hTh X
              rcases hrun T hTh X with ⟨v', st₀, t, T', L, h0, X', hL9, e1, e2, ⟨v9, g1, g2, g3⟩, stp⟩ | ⟨q', st₀, t, T', L, E', ce, h0, X', hL9, e1, e2, ⟨g1, g3⟩, hce, hcv, hcl, stp⟩
              · cases g1
              · cases g1
                have c1 : H.2.1 - n0 + (H'.2.1 - H.2.1) = H'.2.1 - n0 := by omega
                have c2 : H.2.2.1 - w0 + (H'.2.2.1 - H.2.2.1) = H'.2.2.1 - w0 := by omega
                replace X' : Stand p l e R s m args below meth c T' (locs ++ L) (H.2.1 - n0 + (H'.2.1 - H.2.1)) (H.2.2.1 - w0 + (H'.2.2.1 - H.2.2.1)) := X'
                rw [c1, c2] at X'
                have hout : vx_W p l e R s m args below meth c t.heap (locs ++ L) (H'.2.1 - n0) (H'.2.2.1 - w0) (Qe below args s S0 D g0 n0 w0 (.inr E, xh, H'.2)) (F0 m pc lsr rest) q' := by
                  refine vx_out (fun z hz => ?_) hlocks hce hcv hcl (fun t9 ht9 _ => ⟨rfl, by rw [ht9]; exact hfin _ g3⟩) (fun z hz => (List.mem_append.mp hz).elim (hl z) (hL9 z)) (Nat.le_refl _) (Nat.le_refl _)
                  rw [hT, hH] at hz
                  cases hz
                obtain ⟨t9, a1, b1⟩ := hout T' e1 X'
                exact ⟨t9, stp.trans a1, b1⟩
            next => cases hb
theorem en_thr (B : aBd p l s m meth c S0 D g0 M n0) {k pc : Nat} {ls : aLs} {H : aH} {u : String × Nat × Nat × Nat × Bool × String} {x : aO × aH} (hm : mDec M pc = some (.new k, 3)) (hu : fnd3 aXT M pc = some u) (h8 : rqT M = true)
    (hRf : R.frames = mFR M) (hRl : R.locals = mLO M) (hc : H.2.1 + 1 - n0 ≤ R.cells) (hs : H.2.2.1 + 6 - w0 ≤ R.slots) (hn : n0 ≤ H.2.1) (hw0 : w0 ≤ H.2.2.1) (hx1 : x.1 = .inr u.1) (hx2 : x.2.2 = (H.2.1 + 1, H.2.2.1 + 6, H.2.2.2)) (hfin : ∀ Hr, gR D S0 g0 (H.1, H.2.1 + 1, H.2.2.1 + 6, H.2.2.2) Hr → gR D S0 g0 x.2 Hr) :
    Wq p l e R s m args below meth c (Qe below args s S0 D g0 n0 w0 x) S0 D g0 (mML M) n0 w0 (pc, ls, [], H) := by
  obtain ⟨C, G, hlocks, hret, hT, hs0, hlo, hlow⟩ := B
  have hx := C.1
  have hal := C.2.2.2.2.2.2.2.2.2.2.2.2
  obtain ⟨O, hO, hown⟩ := C.2.2.2.1
  have hmem := fnd3_mem hu
  have hk := List.all_eq_true.mp okX _ hmem
  obtain ⟨hG1, -, -, -, -, -, -, -, hstr, hUU, hNN⟩ := G
  obtain ⟨sa, hsa⟩ := hstr _ hmem
  obtain ⟨E, ik, is, ic, wd, tx⟩ := u
  simp only [chkX, Bool.and_eq_true, decide_eq_true_eq] at hk
  obtain ⟨⟨⟨⟨⟨k1, k2⟩, k3⟩, k4⟩, k5⟩, k6⟩ := hk
  rw [k2] at hO
  cases hO
  have hxe := List.all_eq_true.mp okXE _ k1
  simp only [chkXE, Bool.and_eq_true, List.all_eq_true, decide_eq_true_eq] at hxe
  obtain ⟨hfit, hws⟩ := hxe
  have hat : ∀ w ∈ Jvm.Cond.classLink "OvertureDesk" ik E :: .initialized E :: vx_atS "OvertureDesk" ic E tn1, w.before args s = true := fun w hw => cx_exw C (hws w hw).1.1 (hws w hw).1.2
  have hgood : ∀ w ∈ Jvm.Cond.classLink "OvertureDesk" ik E :: .initialized E :: vx_atS "OvertureDesk" ic E tn1, vx_ot w = true := fun w hw => (hws w hw).2
  have hfn : ∀ n ∈ tn1, Bundle.fit n = true := List.all_eq_true.mp okTn
  simp only [rqT, Bool.and_eq_true, Nat.ble_eq] at h8
  obtain ⟨h8a, h8b⟩ := h8
  intro Hr lsr locs hR hL hl
  have hsz : Hr.size = H.2.1 := hR.1
  have hS : va_S (fun a => S0.heap.size ≤ a) s.heap Hr locs := ⟨by omega, fun q hq hnq => by
    have hq9 : q < S0.heap.size := Nat.not_le.mp hnq
    rw [hlow q hq9]; exact hR.2.2.2.2.1 q hq9, hl⟩
  have hlow' : ∀ a : Nat, a < S0.heap.size → ¬ S0.heap.size ≤ a → s.heap[a]? = S0.heap[a]? := fun a ha _ => hlow a ha
  have hU : vx_Zq Bundle.tN "UNASSIGNED_STACK" Bundle.steD (fun a => S0.heap.size ≤ a) s s.heap := vx_Zq.moved hal (vx_Zq.kept hUU hlow')
  have hN : vx_Zq Bundle.tN "SUPPRESSED_SENTINEL" Bundle.listD (fun a => S0.heap.size ≤ a) s s.heap := vx_Zq.moved hal (vx_Zq.kept hNN hlow')
  obtain ⟨xo, xh, xr⟩ := x
  have hx1 : xo = .inr E := hx1
  have hx2 : xr = (H.2.1 + 1, H.2.2.1 + 6, H.2.2.2) := hx2
  subst hx1
  subst hx2
  have hout : ∀ (y : ExceptionTableEntry) (j : Nat), y ∈ c.exceptionTable.toList → covers y j = false := fun y j hy => by
    rw [hT, k6] at hy
    cases hy
  have hX : ∀ t : State, s.vm.Alike t.vm → Hr.size ≤ t.heap.size → (∀ q : Nat, q < Hr.size → t.heap[q]? = Hr[q]?) → t.heap.size = Hr.size + 1 → gXc S0 D g0 (.inr E, xh, H.2.1 + 1, H.2.2.1 + 6, H.2.2.2) E s t := fun t _ g1 g2 g3 =>
    ⟨rfl, hfin _ (gR_same (h := H.1) (n := H.2.1) (w := H.2.2.1) (g := H.2.2.2) hR (by rw [g3, hsz]) (Nat.le_succ _) (fun q hq => g2 q (by omega)))⟩
  have hsar : vk_R "OvertureDesk" is tx sa s := vk_R.warm C.2.2.2.2.1 hsa
  cases wd with
  | false =>
    simp only [Bool.false_eq_true, if_false, Bool.and_eq_true, decide_eq_true_eq] at k5
    exact vx_throwS hx rfl hG1 hown hfit hfn (hat _ List.mem_cons_self) (hat _ (List.mem_cons_of_mem _ List.mem_cons_self)) hsar (fun w hw => hat w (List.mem_cons_of_mem _ (List.mem_cons_of_mem _ hw))) hgood hU hN hS (by rw [C.2.2.1]; exact LR_size hL)
      (C.2.1 _ _ k3) (C.2.1 _ _ k4) (C.2.1 _ _ k5.1.1) (C.2.1 _ _ k5.1.2) (C.2.1 _ _ k5.2) (fun y hy => hout y _ hy) (by show 2 + 3 < _; omega) (by show 0 + (13 * (2 + 1) + 43) ≤ _; omega) (by show H.2.1 - n0 + 1 ≤ _; omega) (by show H.2.2.1 - w0 + 6 ≤ _; omega) hlocks hX hl (by show H.2.1 - n0 + 1 ≤ H.2.1 + 1 - n0; omega) (by show H.2.2.1 - w0 + 6 ≤ H.2.2.1 + 6 - w0; omega)
  | true =>
    simp only [if_true, Bool.and_eq_true, decide_eq_true_eq] at k5
    exact vx_throwSW hx rfl hG1 hown hfit hfn (hat _ List.mem_cons_self) (hat _ (List.mem_cons_of_mem _ List.mem_cons_self)) hsar (fun w hw => hat w (List.mem_cons_of_mem _ (List.mem_cons_of_mem _ hw))) hgood hU hN hS (by rw [C.2.2.1]; exact LR_size hL)
      (C.2.1 _ _ k3) (C.2.1 _ _ k4) (C.2.1 _ _ k5.1.1) (C.2.1 _ _ k5.1.2) (C.2.1 _ _ k5.2) (fun y hy => hout y _ hy) (by show 2 + 3 < _; omega) (by show 0 + (13 * (2 + 1) + 43) ≤ _; omega) (by show H.2.1 - n0 + 1 ≤ _; omega) (by show H.2.2.1 - w0 + 6 ≤ _; omega) hlocks hX hl (by show H.2.1 - n0 + 1 ≤ H.2.1 + 1 - n0; omega) (by show H.2.2.1 - w0 + 6 ≤ H.2.2.1 + 6 - w0; omega)
end
