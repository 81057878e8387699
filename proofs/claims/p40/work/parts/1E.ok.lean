/-! ===== a run is sound; the contracts of all methods ===== -/
theorem act_mono {l : Launch} {S0 : State} {D : va_G} {g0 : Nat × Nat} {d M pc : Nat} (hOk : gOk l S0 D g0 d) {O : String} (hO : aON[mOc M]? = some O) {ls : aLs} {st : List Value} {H : aH} {il : Instr × Nat} {y : aQ ⊕ (aO × aH)} (h : aAct2 (aE d) d M pc ls st H il = some y) :
    (∀ q, y = .inl q → H.2.1 ≤ q.2.2.2.2.1 ∧ H.2.2.1 ≤ q.2.2.2.2.2.1) ∧ (∀ x, y = .inr x → H.2.1 ≤ x.2.2.1 ∧ H.2.2.1 ≤ x.2.2.2.1) := by
  have hcall : ∀ kd k, aCall (aE d) M pc kd k ls st H = some y → (∀ q, y = .inl q → H.2.1 ≤ q.2.2.2.2.1 ∧ H.2.2.1 ≤ q.2.2.2.2.2.1) ∧ (∀ x, y = .inr x → H.2.1 ≤ x.2.2.1 ∧ H.2.2.1 ≤ x.2.2.2.1) := by
    intro kd k h
    obtain ⟨q9, hq, hcase⟩ := aCall_ok h
    have hback : ∃ rest x, H.2.1 ≤ x.2.2.1 ∧ H.2.2.1 ≤ x.2.2.2.1 ∧ aBack M pc ls rest (some x) = some y := by
      rcases hcase with ⟨hge, hkd, as, rest, x, ha, hcat, hE, hb⟩ | ⟨hge, hkd, as, rest, x, ha, hcat, hrecv, hE, hb⟩
      · obtain ⟨-, e⟩ := aPrim_inl hE
        exact ⟨rest, x, by rw [e]; exact Nat.le_refl _, by rw [e]; exact Nat.le_refl _, hb⟩
      · cases hr : aRec q9.1 with
        | none =>
          have h9 := List.all_eq_true.mp okH2 _ (fnd3_mem hq)
          simp only [hr, Option.isSome_none, Bool.false_or, decide_eq_true_eq] at h9
          exact absurd h9 hge
        | some r =>
          obtain ⟨hne, -, -⟩ := kT_ok hq hO
          obtain ⟨m1, m2, -⟩ := hOk q9.1 as H x r hr hne hE
          exact ⟨rest, x, m1, m2, hb⟩
    obtain ⟨rest, ⟨o, H'⟩, m1, m2, hb⟩ := hback
    have m1 : H.2.1 ≤ H'.2.1 := m1
    have m2 : H.2.2.1 ≤ H'.2.2.1 := m2
    cases o with
    | inl v =>
      replace hb : go (pc + 3) ls (v.toList ++ rest) H' = some y := hb
      unfold go at hb
      cases hb
      exact ⟨fun q e => by cases e; exact ⟨m1, m2⟩, fun x e => by cases e⟩
    | inr E =>
      replace hb : (match hnd (mOc M) pc E (mHH M) with
        | none => none
        | some (some hp) => match mDec M hp with
          | some (.astore k, len) => if k < ls.length then go (hp + len) ((klA ls k).set k none) [] H' else none
          | some (.astore_n k, len) => if (k : Nat) < ls.length then go (hp + len) ((klA ls k).set k none) [] H' else none
          | _ => none
        | some none => if mHH M = [] then some (.inr (.inr E, H')) else none) = some y := hb
      unfold go at hb
      split at hb
      · cases hb
      · split at hb
        · split at hb
          · cases hb
            exact ⟨fun q e => by cases e; exact ⟨m1, m2⟩, fun x e => by cases e⟩
          · cases hb
        · split at hb
          · cases hb
            exact ⟨fun q e => by cases e; exact ⟨m1, m2⟩, fun x e => by cases e⟩
          · cases hb
        · cases hb
      · split at hb
        · cases hb
          exact ⟨fun q e => (by cases e), fun x e => by cases e; exact ⟨m1, m2⟩⟩
        · cases hb
  have hret : ∀ (b : Bool) (v : Option Value), (if b then some (.inr ((.inl v : aO), H)) else none : Option (aQ ⊕ (aO × aH))) = some y → (∀ q, y = .inl q → H.2.1 ≤ q.2.2.2.2.1 ∧ H.2.2.1 ≤ q.2.2.2.2.2.1) ∧ (∀ x, y = .inr x → H.2.1 ≤ x.2.2.1 ∧ H.2.2.1 ≤ x.2.2.2.1) := by
    intro b v h
    split at h
    · cases h
      exact ⟨fun q e => (by cases e), fun x e => by cases e; exact ⟨Nat.le_refl _, Nat.le_refl _⟩⟩
    · cases h
  unfold aAct2 at h
  split at h
  · exact hcall _ _ h
  · exact hcall _ _ h
  · exact hcall _ _ h
  · split at h
    · exact hret _ _ h
    · cases h
  · split at h
    · exact hret _ _ h
    · cases h
  · split at h
    · exact hret _ _ h
    · cases h
  · split at h
    · exact hret _ _ h
    · cases h
  · split at h
    · exact hret _ _ h
    · cases h
  · split at h
    · split at h
      · split at h
        · cases h
          exact ⟨fun q e => (by cases e), fun x e => by cases e; exact ⟨Nat.le_succ _, Nat.le_add_right _ _⟩⟩
        · cases h
      · cases h
    · rename_i k len _ hx
      cases h1 : fnd3 aNT (mOc M) k with
      | none => rw [h1] at h; cases h
      | some q =>
        rw [h1] at h
        cases h2 : aFK[q.1]? with
        | none => rw [Option.bind_some, h2] at h; cases h
        | some ks =>
          rw [Option.bind_some, h2] at h
          replace h : go (pc + len) ls (.ref H.2.1 :: st) (mk H (aB q.1 (ks.map dflK)) ks.length) = some y := h
          unfold go at h
          cases h
          exact ⟨fun q e => by cases e; exact ⟨Nat.le_succ _, Nat.le_add_right _ _⟩, fun x e => by cases e⟩
  · refine ⟨fun q e => ?_, fun x e => ?_⟩
    · subst e
      exact mon_S M pc _ _ ls st H q h
    · subst e
      exact absurd h (nor_S M pc _ _ ls st H x)
theorem run_mono {l : Launch} {S0 : State} {D : va_G} {g0 : Nat × Nat} {d M : Nat} (hOk : gOk l S0 D g0 d) {O : String} (hO : aON[mOc M]? = some O) {x : aO × aH} : ∀ (f pc : Nat) (ls : aLs) (st : List Value) (H : aH), aRun (aE d) d M f pc ls st H = some x → H.2.1 ≤ x.2.2.1 ∧ H.2.2.1 ≤ x.2.2.2.1 := by
  intro f
  induction f with
  | zero => intro pc ls st H h; cases h
  | succ f ih =>
    intro pc ls st H h
    rw [aRun] at h
    unfold aAct at h
    cases hm : mDec M pc with
    | none => rw [hm] at h; cases h
    | some il =>
      rw [hm] at h
      replace h : (match aAct2 (aE d) d M pc ls st H il with
        | none => none
        | some (.inr x) => some x
        | some (.inl q) => aRun (aE d) d M f q.1 q.2.1 q.2.2.1 q.2.2.2) = some x := h
      cases ha : aAct2 (aE d) d M pc ls st H il with
      | none => rw [ha] at h; cases h
      | some y =>
        rw [ha] at h
        obtain ⟨g1, g2⟩ := act_mono hOk hO ha
        cases y with
        | inl q =>
          obtain ⟨a1, a2⟩ := g1 q rfl
          obtain ⟨b1, b2⟩ := ih _ _ _ _ h
          exact ⟨Nat.le_trans a1 b1, Nat.le_trans a2 b2⟩
        | inr x9 =>
          cases h
          exact g2 _ rfl
theorem act_inl {EE : Nat → List Value → aH → aR} {d M pc : Nat} {ls : aLs} {st : List Value} {H : aH} {il : Instr × Nat} {q : aQ} (h : aAct2 EE d M pc ls st H il = some (.inl q)) :
    (∃ kd k len, il = (insK kd k, len) ∧ aCall EE M pc kd k ls st H = some (.inl q)) ∨ (∃ k len, il = (.new k, len) ∧ (fnd3 aNT (mOc M) k).bind (fun q => (aFK[q.1]?).bind fun ks => go (pc + len) ls (.ref H.2.1 :: st) (mk H (aB q.1 (ks.map dflK)) ks.length)) = some (.inl q)) ∨ aS M pc il.2 il.1 ls st H = some (.inl q) := by
  have hret : ∀ (b : Bool) (x : aO × aH), (if b then some (.inr x) else none : Option (aQ ⊕ (aO × aH))) = some (.inl q) → False := by
    intro b x h
    split at h <;> cases h
  unfold aAct2 at h
  split at h
  · exact Or.inl ⟨0, _, _, rfl, h⟩
  · exact Or.inl ⟨1, _, _, rfl, h⟩
  · exact Or.inl ⟨2, _, _, rfl, h⟩
  · split at h
    · exact (hret _ _ h).elim
    · cases h
  · split at h
    · exact (hret _ _ h).elim
    · cases h
  · split at h
    · exact (hret _ _ h).elim
    · cases h
  · split at h
    · exact (hret _ _ h).elim
    · cases h
  · split at h
    · exact (hret _ _ h).elim
    · cases h
  · split at h
    · split at h
      · split at h <;> cases h
      · cases h
    · exact Or.inr (Or.inl ⟨_, _, rfl, h⟩)
  · exact Or.inr (Or.inr h)
theorem act_inr {EE : Nat → List Value → aH → aR} {d M pc : Nat} {ls : aLs} {st : List Value} {H : aH} {il : Instr × Nat} {x : aO × aH} (h : aAct2 EE d M pc ls st H il = some (.inr x)) :
    (∃ kd k len, il = (insK kd k, len) ∧ aCall EE M pc kd k ls st H = some (.inr x)) ∨
    (∃ i len u, il = (i, len) ∧ ((i = .ireturn ∧ kI u = true) ∨ (i = .lreturn ∧ kL u = true) ∨ (i = .dreturn ∧ kD u = true) ∨ (i = .areturn ∧ kA u = true)) ∧ st = [u] ∧ retK (mRet M) u = true ∧ x = (.inl (some u), H)) ∨
    (∃ len, il = (.return_, len) ∧ st = [] ∧ mRet M = none ∧ x = (.inl none, H)) ∨
    (∃ k len u, il = (.new k, len) ∧ fnd3 aXT M pc = some u ∧ st = [] ∧ rqT M = true ∧ x = (.inr u.1, (H.1, H.2.1 + 1, H.2.2.1 + 6, H.2.2.2))) := by
  have hret : ∀ (a b : Bool) (u : Value), (if a && b then some (.inr ((.inl (some u) : aO), H)) else none : Option (aQ ⊕ (aO × aH))) = some (.inr x) → a = true ∧ b = true ∧ x = (.inl (some u), H) := by
    intro a b u h
    split at h
    next hc =>
      cases h
      rw [Bool.and_eq_true] at hc
      exact ⟨hc.1, hc.2, rfl⟩
    next => cases h
  unfold aAct2 at h
  split at h
  · exact Or.inl ⟨0, _, _, rfl, h⟩
  · exact Or.inl ⟨1, _, _, rfl, h⟩
  · exact Or.inl ⟨2, _, _, rfl, h⟩
  · split at h
    · obtain ⟨h1, h2, h3⟩ := hret _ _ _ h
      exact Or.inr (Or.inl ⟨_, _, _, rfl, Or.inl ⟨rfl, h1⟩, rfl, h2, h3⟩)
    · cases h
  · split at h
    · obtain ⟨h1, h2, h3⟩ := hret _ _ _ h
      exact Or.inr (Or.inl ⟨_, _, _, rfl, Or.inr (Or.inl ⟨rfl, h1⟩), rfl, h2, h3⟩)
    · cases h
  · split at h
    · obtain ⟨h1, h2, h3⟩ := hret _ _ _ h
      exact Or.inr (Or.inl ⟨_, _, _, rfl, Or.inr (Or.inr (Or.inl ⟨rfl, h1⟩)), rfl, h2, h3⟩)
    · cases h
  · split at h
    · obtain ⟨h1, h2, h3⟩ := hret _ _ _ h
      exact Or.inr (Or.inl ⟨_, _, _, rfl, Or.inr (Or.inr (Or.inr ⟨rfl, h1⟩)), rfl, h2, h3⟩)
    · cases h
  · split at h
    · split at h
      next hc =>
        cases h
        exact Or.inr (Or.inr (Or.inl ⟨_, rfl, rfl, Option.isNone_iff_eq_none.mp hc, rfl⟩))
      next => cases h
    · cases h
  · split at h
    next u hu =>
      split at h
      · split at h
        next hc =>
          cases h
          exact Or.inr (Or.inr (Or.inr ⟨_, _, u, rfl, hu, rfl, hc.2, rfl⟩))
        next => cases h
      · cases h
    next =>
      exfalso
      cases h1 : fnd3 aNT (mOc M) _ with
      | none => rw [h1] at h; cases h
      | some q =>
        rw [h1, Option.bind_some] at h
        cases h2 : aFK[q.1]? with
        | none => rw [h2] at h; cases h
        | some ks =>
          rw [h2] at h
          cases h
  · exact absurd h (nor_S M pc _ _ ls st H x)
section
variable {p : Program} {l : Launch} {e : Env} {R : Room} {s : State} {m : MethodId} {args : Array Value} {below : List Frame} {meth : Method} {c : Code} {S0 : State} {D : va_G} {g0 : Nat × Nat} {M n0 w0 : Nat}
theorem run_sound (B : aBd p l s m meth c S0 D g0 M n0) {d : Nat} (hOk : gOk l S0 D g0 d) (hRf : R.frames = mFR M) (hRl : R.locals = mLO M) {x0 x : aO × aH} (hc : x0.2.2.1 - n0 ≤ R.cells) (hs : x0.2.2.2.1 - w0 ≤ R.slots) (hx1 : x.1 = x0.1) (hx2 : x.2.2 = x0.2.2) (hfin : ∀ Hr, gR D S0 g0 x0.2 Hr → gR D S0 g0 x.2 Hr) :
    ∀ (f pc : Nat) (ls : aLs) (st : List Value) (H : aH), aRun (aE d) d M f pc ls st H = some x0 → n0 ≤ H.2.1 → w0 ≤ H.2.2.1 → Wq p l e R s m args below meth c (Qe below args s S0 D g0 n0 w0 x) S0 D g0 (mML M) n0 w0 (pc, ls, st, H) := by
  obtain ⟨O, hO, hown⟩ := B.1.2.2.2.1
  intro f
  induction f with
  | zero => intro pc ls st H h; cases h
  | succ f ih =>
    intro pc ls st H h hn hw0
    rw [aRun] at h
    unfold aAct at h
    cases hm : mDec M pc with
    | none => rw [hm] at h; cases h
    | some il =>
      rw [hm] at h
      replace h : (match aAct2 (aE d) d M pc ls st H il with
        | none => none
        | some (.inr x) => some x
        | some (.inl q) => aRun (aE d) d M f q.1 q.2.1 q.2.2.1 q.2.2.2) = some x0 := h
      cases ha : aAct2 (aE d) d M pc ls st H il with
      | none => rw [ha] at h; cases h
      | some y =>
        rw [ha] at h
        obtain ⟨g1, g2⟩ := act_mono hOk hO ha
        cases y with
        | inl q =>
          obtain ⟨a1, a2⟩ := g1 q rfl
          obtain ⟨b1, b2⟩ := run_mono hOk hO _ _ _ _ _ h
          have kk := ih q.1 q.2.1 q.2.2.1 q.2.2.2 h (Nat.le_trans hn a1) (Nat.le_trans hw0 a2)
          have hcq : q.2.2.2.2.1 - n0 ≤ R.cells := by omega
          have hsq : q.2.2.2.2.2.1 - w0 ≤ R.slots := by omega
          rcases act_inl ha with ⟨kd, k, len, rfl, hb⟩ | ⟨k, len, rfl, hb⟩ | hb
          · have hk3 : ilen (insK kd k) = 3 := by
              unfold insK
              split <;> rfl
            obtain rfl : 3 = len := by
              rcases mDec_len hm with z | z
              · rw [hk3] at z; cases z
              · rw [hk3] at z; exact z
            exact st_call B.1 hOk B.2.2.2.2.1 B.2.1.2.2.2.2.2.2.2.1 hm hb hRf hRl hcq hsq hn hw0 kk
          · obtain rfl : 3 = len := (mDec_len hm).resolve_left (Nat.succ_ne_zero _)
            exact st_new B.1 hm hb hcq hsq hn hw0 kk
          · obtain ⟨i, len⟩ := il
            exact stepS B.1 hm hb hcq hsq hn hw0 kk
        | inr x9 =>
          replace h : some x9 = some x0 := h
          cases h
          rcases act_inr ha with ⟨kd, k, len, rfl, hb⟩ | ⟨i, len, u, rfl, hi, hst, hk, hx0⟩ | ⟨len, rfl, hst, hk, hx0⟩ | ⟨k, len, u, rfl, hu, hst, h8, hx0⟩
          · have hk3 : ilen (insK kd k) = 3 := by
              unfold insK
              split <;> rfl
            obtain rfl : 3 = len := by
              rcases mDec_len hm with z | z
              · rw [hk3] at z; cases z
              · rw [hk3] at z; exact z
            exact en_call B hOk hm hb hRf hRl hc hs hn hw0 hx1 hx2 hfin
          · subst hx0
            exact en_ret B (v := none) hm hi hst hk hx1 hx2 hfin
          · obtain rfl : 1 = len := (mDec_len hm).resolve_left (Nat.succ_ne_zero _)
            subst hx0
            subst hst
            exact en_void B hm hk hx1 hx2 hfin
          · obtain rfl : 3 = len := (mDec_len hm).resolve_left (Nat.succ_ne_zero _)
            subst hx0
            subst hst
            exact en_thr B hm hu h8 hRf hRl hc hs hn hw0 hx1 hx2 hfin
end
/-- a method's contract, by its word -/
theorem met_of {l : Launch} {r : aMR} {rm : Room} {Pc : Array Value → State → Prop} {Qc : Array Value → State → Outcome → State → Prop} {XC : String → State → State → Prop} {mc ms : Nat} {free : Addr → Prop} (hy : plainFor (rY r) = true)
    (body : ∀ p e s m args below meth c s₁, BodyLoose p l (rY r) (headSpec [cwM r] rm) (rB r) (rML r) (rRet r) e s m args below meth c s₁ → c.maxLocals = rML r → c.exceptionTable.toList = tableOf (rHH r) → Pc args s →
      W p l e (headSpec [cwM r] rm).room s m args below meth c s.heap [] 0 0 (vx_MQ below Qc XC args s mc ms free) (entryFrame m args (rML r))) : vx_Met l (rY r) [cwM r] rm Pc Qc XC mc ms free := by
  refine MetFree.of_bodySF (code := rB r) (maxLocals := rML r) (ret := rRet r) hy ?_ ?_
  · intro args s m h hn
    have h9 := atoms_spec (ws := [cwM r]) h _ List.mem_cons_self
    unfold cwM at h9
    split at h9
    · obtain ⟨meth, c, h1, h2, h3, h4, h5, h6, -, -⟩ := Cond.code_spec hn h9
      exact ⟨meth, c, h1, h2, h3, h4, h5, h6⟩
    · obtain ⟨m9, meth, c, hn9, h1, h2, h3, h4, -, h5, h6, -⟩ := Cond.codeWith_spec h9
      cases hn.symm.trans hn9
      exact ⟨meth, c, h1, h2, h3, h4, h5, h6⟩
  · intro p e s m args below meth c s₁ B hml hP _
    have hh0 : s₁.heap = s.heap := by rw [B.state]; rfl
    have ht : c.exceptionTable.toList = tableOf (rHH r) := by
      have h9 := atoms_spec (ws := [cwM r]) B.pre _ List.mem_cons_self
      unfold cwM at h9
      split at h9
      next hh =>
        obtain ⟨meth9, c9, h1, h2, -, -, -, -, h7, -⟩ := Cond.code_spec B.named h9
        cases Option.some.inj (h1.symm.trans B.method)
        cases Option.some.inj (h2.symm.trans (Stand.of_body B).code)
        rw [hh, Array.isEmpty_iff.mp h7]
        rfl
      next hh => exact vx_table (x := rY r) B h9
    obtain ⟨t, a1, o, b1, b2, b3⟩ := body p e s m args below meth c s₁ B hml ht hP s₁ hh0 (Stand.of_body B)
    exact ⟨t, o, a1, b1, b2, b3⟩
/-- what the abstract machine answers, the machine answers -/
theorem gOk_all {l : Launch} {S0 : State} {D : va_G} {g0 : Nat × Nat} (G : aG l S0 D g0) : ∀ d, gOk l S0 D g0 d := by
  intro d
  induction d with
  | zero => intro M as H x r hr hne hE; cases hE
  | succ d ih =>
    intro M as H x r hr hne hE
    obtain ⟨hcw, hcg⟩ := rec_code hr hne
    have hck := rec_chk hr hne
    simp only [chkM, Bool.and_eq_true, decide_eq_true_eq] at hck
    obtain ⟨⟨⟨⟨⟨⟨⟨⟨⟨⟨⟨k1, k2⟩, k3⟩, k4⟩, k5⟩, k6⟩, k7⟩, k8⟩, k9⟩, k10⟩, k11⟩, k12⟩ := hck
    have e1 : mOc M = rOc r := by unfold mOc; rw [hr]
    have e2 : mML M = rML r := by unfold mML; rw [hr]
    have e3 : mRet M = rRet r := by unfold mRet; rw [hr]
    have e4 : mHH M = rHH r := by unfold mHH; rw [hr]
    have e5 : mNm M = (rY r).name := by unfold mNm; rw [hr]
    have hO : aON[mOc M]? = some (rY r).cls := by rw [e1]; exact k5
    rw [aE_succ] at hE
    split at hE
    next hle =>
      -- the run that ends
      have hx : ∃ x0 f, aRun (aE d) d M f 0 (entL as (mML M)) [] H = some x0 ∧ x.1 = x0.1 ∧ x.2.2 = x0.2.2 ∧ ∀ s : State, gR D S0 g0 H s.heap → ∀ Hr, gR D S0 g0 x0.2 Hr → gR D S0 g0 x.2 Hr := by
        cases hL : L d M 0 (entL as (mML M)) [] H with
        | none =>
          rw [hL] at hE
          unfold aFin at hE
          split at hE <;> cases hE
        | some x0 =>
          obtain ⟨f, hf⟩ := L_some.mp hL
          rw [hL] at hE
          refine ⟨x0, f, hf, ?_⟩
          unfold aFin at hE
          split at hE
          · obtain ⟨o, H'⟩ := x0
            replace hE : some (o, (fun q => if q < H.2.1 then H'.1 q else H.1 q, H'.2)) = some x := hE
            cases hE
            refine ⟨rfl, rfl, fun s hR Hr hR' => ?_⟩
            obtain ⟨r1, r2, r3, r4, r5, r6⟩ := hR'
            have hnone : ∀ (a : Nat) (c : aC), (if a < H.2.1 then H'.1 a else H.1 a) = some c → H'.1 a = some c := by
              intro a c hac
              by_cases hlt : a < H.2.1
              · rw [if_pos hlt] at hac; exact hac
              · rw [if_neg hlt] at hac
                have := gC_lt (hR.2.1 a c hac)
                have h1 := hR.1
                omega
            exact ⟨r1, fun a c hac => r2 a c (hnone a c hac), fun a c hac => r3 a c (hnone a c hac), r4, r5, r6⟩
          · cases hE
            exact ⟨rfl, rfl, fun _ _ _ h => h⟩
      obtain ⟨x0, f, hf, hx1, hx2, hfin⟩ := hx
      obtain ⟨m1, m2⟩ := run_mono ih hO f _ _ _ _ hf
      rw [← hx2] at m1 m2
      refine ⟨m1, m2, met_of k6 ?_⟩
      intro p e s m args below meth c s₁ B hml hT hP
      obtain ⟨rfl, hR, hW⟩ := hP
      have hbytes : c.code = rB r := B.bytes
      have hlow : ∀ q : Nat, q < S0.heap.size → s.heap[q]? = S0.heap[q]? := hR.2.2.2.2.1
      have hsz : s.heap.size = H.2.1 := hR.1
      have C : aCx p s m meth c S0 D g0 M := by
        refine ⟨B.exec, fun pc il hd => ?_, by rw [hml, e2], ⟨_, hO, findClass_of_methodNamed B.named⟩, hW, G.2.1, G.2.2.1, ?_, G.2.2.2.1, G.2.2.2.2.1, G.2.2.2.2.2.1, G.2.2.2.2.2.2.1, hW.alike⟩
        · rw [hbytes]
          unfold mDec at hd
          rw [hr] at hd
          replace hd : (match decode (rB r) pc with
            | .ok q => if ilen q.1 = 0 ∨ ilen q.1 = q.2 then some q else none
            | .error _ => none) = some il := hd
          split at hd
          next q hq =>
            split at hd
            · cases hd; exact hq
            · cases hd
          next => cases hd
        · rw [e5]; exact (name_of_methodNamed B.named B.method).1
      have hB : aBd p l s m meth c S0 D g0 M s.heap.size := ⟨C, G, B.notSynchronized, by rw [B.returns, e3], by rw [hT, e4], rfl, hR.2.2.2.1, hlow⟩
      rw [lg_entry_eq]
      have hrs := run_sound (p := p) (l := l) (e := e) (R := (headSpec [cwM r] (rmD M H x)).room) (s := s) (m := m) (args := as.toArray) (below := below) (meth := meth) (c := c) (w0 := H.2.2.1) hB ih rfl rfl (x0 := x0) (x := x)
        (by rw [← hx2, hsz]; exact Nat.le_refl _) (by rw [← hx2]; exact Nat.le_refl _) hx1 hx2 (hfin s hR) f 0 (entL as (mML M)) [] H hf (by rw [hsz]; exact Nat.le_refl _) (Nat.le_refl _)
      have hL := LR_ent (vs := as) (n := mML M) hle
      have hw := hrs s.heap _ [] hR hL (fun z hz => nomatch hz)
      rw [e2, hsz, Nat.sub_self, Nat.sub_self] at hw
      exact hw
    next => cases hE
