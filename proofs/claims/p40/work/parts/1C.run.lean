/-! ===== a step that calls ===== -/
theorem hnd_ok {oc pc : Nat} {E : String} {hp : Nat} : ∀ {hh : List (Nat × Nat × Nat × Nat)}, hnd oc pc E hh = some (some hp) → ∃ pre x suf, tableOf hh = pre ++ x :: suf ∧ covers x pc = true ∧ x.handlerPc = hp ∧ (∃ p9, fnd3 aCT oc x.catchType = some (E, p9)) ∧ ∀ z ∈ pre, covers z pc = false ∨ ∃ nm p9, fnd3 aCT oc z.catchType = some (nm, p9) ∧ (E, nm) ∈ aNC
  | [], h => by cases h
  | (a, b, hq, t) :: r, h => by
    rw [hnd] at h
    split at h
    next hc =>
      cases hf : fnd3 aCT oc t with
      | none => rw [hf] at h; cases h
      | some nm =>
        rw [hf] at h
        replace h : (if nm.1 = E then some (some hq) else if (E, nm.1) ∈ aNC then hnd oc pc E r else none) = some (some hp) := h
        split at h
        next he =>
          cases h
          obtain ⟨n1, n2⟩ := nm
          have he : n1 = E := he
          subst he
          exact ⟨[], ⟨a, b, hp, t⟩, tableOf r, rfl, by simp [covers, hc], rfl, ⟨n2, hf⟩, fun z hz => nomatch hz⟩
        next he =>
          split at h
          next hn =>
            obtain ⟨pre, x, suf, h1, h2, h3, h4, h5⟩ := hnd_ok h
            refine ⟨⟨a, b, hq, t⟩ :: pre, x, suf, by rw [List.cons_append, ← h1]; rfl, h2, h3, h4, fun z hz => ?_⟩
            rcases List.mem_cons.mp hz with rfl | hz
            · exact Or.inr ⟨nm.1, nm.2, hf, hn⟩
            · exact h5 z hz
          next => cases h
    next hc =>
      obtain ⟨pre, x, suf, h1, h2, h3, h4, h5⟩ := hnd_ok h
      refine ⟨⟨a, b, hq, t⟩ :: pre, x, suf, by rw [List.cons_append, ← h1]; rfl, h2, h3, h4, fun z hz => ?_⟩
      rcases List.mem_cons.mp hz with rfl | hz
      · refine Or.inl ?_
        simp only [covers, Bool.and_eq_false_iff, decide_eq_false_iff_not]
        by_cases h9 : a ≤ pc
        · exact Or.inr fun h8 => hc ⟨h9, h8⟩
        · exact Or.inl h9
      · exact h5 z hz
theorem aPrim_inl {p : Nat} {as : List Value} {H : aH} {x : aO × aH} (h : aPrim p as H = some x) : (∃ v, x.1 = .inl v) ∧ x.2.2 = H.2 := by
  unfold aPrim at h
  split at h
  · cases h; exact ⟨⟨_, rfl⟩, rfl⟩
  · cases h
section
variable {p : Program} {l : Launch} {e : Env} {R : Room} {s : State} {m : MethodId} {args : Array Value} {below : List Frame} {meth : Method} {c : Code} {Q : State → Prop} {S0 : State} {D : va_G} {g0 : Nat × Nat} {M n0 w0 : Nat}
/-- what a call comes to: a step, or an end -/
theorem aCall_ok {d kd k pc : Nat} {ls : aLs} {st : List Value} {H : aH} {y : aQ ⊕ (aO × aH)} (h : aCall (aE d) M pc kd k ls st H = some y) : ∃ q : Nat × String × Nat, fnd3 aKT (mOc M) k = some q ∧
    ((1000 ≤ q.1 ∧ (pKd q.1 = kd ∧ rqP M = true) ∧ ∃ as rest x, aArgs (pNA q.1) st = some (as, rest) ∧ catS rest ≤ 8 ∧ aPrim q.1 as H = some x ∧ aBack M pc ls rest (some x) = some y) ∨
     (¬ 1000 ≤ q.1 ∧ (mKd q.1 = kd ∧ rqC M q.1 = true) ∧ ∃ as rest x, aArgs (mNA q.1 + (if kd = 1 then 0 else 1)) st = some (as, rest) ∧ catS rest ≤ 8 ∧ recv kd (mCi q.1) as H = true ∧ aE d q.1 as H = some x ∧ aBack M pc ls rest (some x) = some y)) := by
  unfold aCall at h
  cases hq : fnd3 aKT (mOc M) k with
  | none => rw [hq] at h; cases h
  | some q =>
    rw [hq] at h
    refine ⟨q, rfl, ?_⟩
    by_cases hge : 1000 ≤ q.1
    · replace h : (if 1000 ≤ q.1 then (if pKd q.1 = kd ∧ rqP M = true then (aArgs (pNA q.1) st).bind fun a => if catS a.2 ≤ 8 then aBack M pc ls a.2 (aPrim q.1 a.1 H) else none else none) else (if mKd q.1 = kd ∧ rqC M q.1 = true then (aArgs (mNA q.1 + (if kd = 1 then 0 else 1)) st).bind fun a => if catS a.2 ≤ 8 ∧ recv kd (mCi q.1) a.1 H = true then aBack M pc ls a.2 (aE d q.1 a.1 H) else none else none)) = some y := h
      rw [if_pos hge] at h
      split at h
      next hkd =>
        cases ha : aArgs (pNA q.1) st with
        | none => rw [ha] at h; cases h
        | some a =>
          rw [ha] at h
          replace h : (if catS a.2 ≤ 8 then aBack M pc ls a.2 (aPrim q.1 a.1 H) else none) = some y := h
          split at h
          next hcat =>
            cases hE : aPrim q.1 a.1 H with
            | none => rw [hE] at h; cases h
            | some x => rw [hE] at h; exact Or.inl ⟨hge, hkd, a.1, a.2, x, rfl, hcat, hE, h⟩
          next => cases h
      next => cases h
    · replace h : (if 1000 ≤ q.1 then (if pKd q.1 = kd ∧ rqP M = true then (aArgs (pNA q.1) st).bind fun a => if catS a.2 ≤ 8 then aBack M pc ls a.2 (aPrim q.1 a.1 H) else none else none) else (if mKd q.1 = kd ∧ rqC M q.1 = true then (aArgs (mNA q.1 + (if kd = 1 then 0 else 1)) st).bind fun a => if catS a.2 ≤ 8 ∧ recv kd (mCi q.1) a.1 H = true then aBack M pc ls a.2 (aE d q.1 a.1 H) else none else none)) = some y := h
      rw [if_neg hge] at h
      split at h
      next hkd =>
        cases ha : aArgs (mNA q.1 + (if kd = 1 then 0 else 1)) st with
        | none => rw [ha] at h; cases h
        | some a =>
          rw [ha] at h
          replace h : (if catS a.2 ≤ 8 ∧ recv kd (mCi q.1) a.1 H = true then aBack M pc ls a.2 (aE d q.1 a.1 H) else none) = some y := h
          split at h
          next hcat =>
            cases hE : aE d q.1 a.1 H with
            | none => rw [hE] at h; cases h
            | some x => rw [hE] at h; exact Or.inr ⟨hge, hkd, a.1, a.2, x, rfl, hcat.1, hcat.2, hE, h⟩
          next => cases h
      next => cases h
theorem st_call (C : aCx p s m meth c S0 D g0 M) {d kd k pc : Nat} (hOk : gOk l S0 D g0 d) (hT : c.exceptionTable.toList = tableOf (mHH M)) (hnc : ∀ q ∈ aNC, va_Nc q.1 q.2 S0) {ls : aLs} {st : List Value} {H : aH} {q : aQ} (hm : mDec M pc = some (insK kd k, 3)) (h : aCall (aE d) M pc kd k ls st H = some (.inl q))
    (hRf : R.frames = mFR M) (hRl : R.locals = mLO M) (hc : q.2.2.2.2.1 - n0 ≤ R.cells) (hs : q.2.2.2.2.2.1 - w0 ≤ R.slots) (hn : n0 ≤ H.2.1) (hw0 : w0 ≤ H.2.2.1)
    (kk : Wq p l e R s m args below meth c Q S0 D g0 (mML M) n0 w0 q) : Wq p l e R s m args below meth c Q S0 D g0 (mML M) n0 w0 (pc, ls, st, H) := by
  have hd := C.2.1 pc _ hm
  have hx := C.1
  have hal := C.2.2.2.2.2.2.2.2.2.2.2.2
  obtain ⟨O, hO, hown⟩ := C.2.2.2.1
  obtain ⟨q9, hq, hcase⟩ := aCall_ok h
  rcases hcase with ⟨hge, hkd, as, rest, x, ha, hcat, hE, hb⟩ | ⟨hge, hkd, as, rest, x, ha, hcat, hrecv, hE, hb⟩
  · obtain ⟨o, H'⟩ := x
    obtain ⟨⟨v, hv⟩, -⟩ := aPrim_inl hE
    have hv : o = .inl v := hv
    subst hv
    have hb := go_inj (show go _ _ _ _ = _ from hb)
    subst hb
    have hrq := hkd.2
    simp only [rqP, Bool.and_eq_true, Nat.ble_eq] at hrq
    exact prim_ok C hq hge hkd.1 ha hcat hE hm (by omega) (by omega) kk
  · cases hr : aRec q9.1 with
    | none =>
      have h9 := List.all_eq_true.mp okH2 _ (fnd3_mem hq)
      simp only [hr, Option.isSome_none, Bool.false_or, decide_eq_true_eq] at h9
      exact absurd h9 hge
    | some r =>
      obtain ⟨hne, -, -⟩ := kT_ok hq hO
      obtain ⟨m1, m2, -⟩ := hOk q9.1 as H x r hr hne hE
      obtain ⟨o, H'⟩ := x
      have m1 : H.2.1 ≤ H'.2.1 := m1
      have m2 : H.2.2.1 ≤ H'.2.2.1 := m2
      cases o with
      | inl v =>
        have hb := go_inj (show go _ _ _ _ = _ from hb)
        subst hb
        have hc : H'.2.1 - n0 ≤ R.cells := hc
        have hs : H'.2.2.1 - w0 ≤ R.slots := hs
        intro Hr lsr locs hR hL hl
        have hrun := call_run C hOk hq hge hkd.1 hkd.2 ha hcat hrecv hE hd hR (LR_size hL) hRf hRl (cells := H.2.1 - n0) (slots := H.2.2.1 - w0) (locs := locs) (args := args) (below := below) (p := p) (e := e) (m := m) (by show H.2.1 - n0 + (H'.2.1 - H.2.1) ≤ _; omega) (by show H.2.2.1 - w0 + (H'.2.2.1 - H.2.2.1) ≤ _; omega)
        intro T hTh X
        rcases hrun T hTh X with ⟨v', st₀, t, T', L, h0, X', hL9, e1, e2, ⟨v9, g1, g2, g3⟩, stp⟩ | ⟨q', st₀, t, T', L, E', ce, h0, X', hL9, e1, e2, ⟨g1, -⟩, -⟩
        · cases g1
          cases g2
          have c1 : H.2.1 - n0 + (H'.2.1 - H.2.1) = H'.2.1 - n0 := by omega
          have c2 : H.2.2.1 - w0 + (H'.2.2.1 - H.2.2.1) = H'.2.2.1 - w0 := by omega
          replace X' : Stand p l e R s m args below meth c T' (locs ++ L) (H.2.1 - n0 + (H'.2.1 - H.2.1)) (H.2.2.1 - w0 + (H'.2.2.1 - H.2.2.1)) := X'
          rw [c1, c2] at X'
          obtain ⟨t2, a1, b1⟩ := kk t.heap lsr (locs ++ L) g3 hL (fun z hz => (List.mem_append.mp hz).elim (hl z) (hL9 z)) T' e1 X'
          exact ⟨t2, stp t2 a1, b1⟩
        · cases g1
      | inr E =>
        replace hb : (match hnd (mOc M) pc E (mHH M) with
          | none => none
          | some (some hp) => match mDec M hp with
            | some (.astore k, len) => if k < ls.length then go (hp + len) ((klA ls k).set k none) [] H' else none
            | some (.astore_n k, len) => if (k : Nat) < ls.length then go (hp + len) ((klA ls k).set k none) [] H' else none
            | _ => none
          | some none => if mHH M = [] then some (.inr (.inr E, H')) else none) = some (Sum.inl q) := hb
        cases hh : hnd (mOc M) pc E (mHH M) with
        | none => rw [hh] at hb; cases hb
        | some o9 =>
          rw [hh] at hb
          cases o9 with
          | none =>
            replace hb : (if mHH M = [] then (some (Sum.inr ((Sum.inr E : aO), H')) : Option (aQ ⊕ (aO × aH))) else none) = some (Sum.inl q) := hb
            split at hb <;> cases hb
          | some hp =>
            obtain ⟨pre, x9, suf, t1, t2, t3, ⟨p9, t4⟩, t5⟩ := hnd_ok hh
            have ck : ∀ t nm p9, fnd3 aCT (mOc M) t = some (nm, p9) → t ≠ 0 ∧ (Jvm.Cond.classLink O t nm).before args s = true := fun t nm p9 hf => by
              have a1 := List.all_eq_true.mp okC _ (fnd3_mem hf)
              have a2 := List.all_eq_true.mp okC0 _ (fnd3_mem hf)
              simp only [chkC, hO, decide_eq_true_eq] at a1 a2
              exact ⟨a2, cx_tb C a1 rfl⟩
            have hEE : (Jvm.Cond.castable E E).before args s = true := by
              have a1 := List.all_eq_true.mp okCC _ (fnd3_mem t4)
              simp only [decide_eq_true_eq, Bool.or_eq_true] at a1
              rcases a1 with a1 | a1
              · have hmem : (mHH M) ≠ [] := fun z => by rw [z] at hh; cases hh
                exact absurd (okHO M hmem) (fun z => by rw [z] at a1; exact absurd a1 (by decide))
              · exact cx_exw C a1 rfl
            -- what follows the handler's store
            have key : ∀ (k9 len9 : Nat), k9 < ls.length → (∀ (cells slots : Nat) (H9 : Heap) (lsr : Array Slot) (lv : List (Nat × Value)) (locs9 : List Loc) (q' : Nat), lv_has lsr (mML M) lv → k9 < mML M → (∀ ls' : Array Slot, lv_has ls' (mML M) ((k9, .ref q') :: lv.filter (fun q => !(q.1 == k9) && !(q.1 + 1 == k9 && q.2.category == 2))) → W p l e R s m args below meth c H9 locs9 cells slots Q (F0 m (hp + len9) ls' [])) → W p l e R s m args below meth c H9 locs9 cells slots Q (F0 m hp lsr [.ref q'])) →
                q = (hp + len9, (klA ls k9).set k9 none, [], H') → Wq p l e R s m args below meth c Q S0 D g0 (mML M) n0 w0 (pc, ls, st, H) := by
              intro k9 len9 hk9 hst9 hq9
              subst hq9
              have hc : H'.2.1 - n0 ≤ R.cells := hc
              have hs : H'.2.2.1 - w0 ≤ R.slots := hs
              intro Hr lsr locs hR hL hl
              have hrun := call_run C hOk hq hge hkd.1 hkd.2 ha hcat hrecv hE hd hR (LR_size hL) hRf hRl (cells := H.2.1 - n0) (slots := H.2.2.1 - w0) (locs := locs) (args := args) (below := below) (p := p) (e := e) (m := m) (by show H.2.1 - n0 + (H'.2.1 - H.2.1) ≤ _; omega) (by show H.2.2.1 - w0 + (H'.2.2.1 - H.2.2.1) ≤ _; omega)
              intro T hTh X
              rcases hrun T hTh X with ⟨v', st₀, t, T', L, h0, X', hL9, e1, e2, ⟨v9, g1, g2, g3⟩, stp⟩ | ⟨q', st₀, t, T', L, E', ce, h0, X', hL9, e1, e2, ⟨g1, g3⟩, hce, hcv, hcl, stp⟩
              · cases g1
              · cases g1
                have c1 : H.2.1 - n0 + (H'.2.1 - H.2.1) = H'.2.1 - n0 := by omega
                have c2 : H.2.2.1 - w0 + (H'.2.2.1 - H.2.2.1) = H'.2.2.1 - w0 := by omega
                replace X' : Stand p l e R s m args below meth c T' (locs ++ L) (H.2.1 - n0 + (H'.2.1 - H.2.1)) (H.2.2.1 - w0 + (H'.2.2.1 - H.2.2.1)) := X'
                rw [c1, c2] at X'
                obtain ⟨hle, lv, hlv, hin⟩ := id hL
                obtain ⟨hk1, hk2⟩ := LR_un (a := q') hL hk9
                have hcatch : vx_W p l e R s m args below meth c t.heap (locs ++ L) (H'.2.1 - n0) (H'.2.2.1 - w0) Q (F0 m pc lsr rest) q' := by
                  refine vx_catch hown pre x9 suf (hT.trans t1) (fun z hz => ?_) t2 (ck _ _ _ t4).1 (ck _ _ _ t4).2 hEE hce hcv hcl ?_
                  · rcases t5 z hz with z1 | ⟨nm, p8, z1, z2⟩
                    · exact Or.inl z1
                    · exact Or.inr ⟨(ck _ _ _ z1).1, nm, (ck _ _ _ z1).2, va_Nc.moved hal (hnc _ z2)⟩
                  · rw [t3]
                    exact hst9 _ _ _ _ lv _ q' hlv hk1 (fun ls' hl' => kk t.heap ls' (locs ++ L) g3 (hk2 lv ls' hlv hin hl') (fun z hz => (List.mem_append.mp hz).elim (hl z) (hL9 z)))
                obtain ⟨t9, a1, b1⟩ := hcatch T' e1 X'
                exact ⟨t9, stp.trans a1, b1⟩
            replace hb : (match mDec M hp with
              | some (.astore k, len) => if k < ls.length then go (hp + len) ((klA ls k).set k none) [] H' else none
              | some (.astore_n k, len) => if (k : Nat) < ls.length then go (hp + len) ((klA ls k).set k none) [] H' else none
              | _ => none) = some (Sum.inl q) := hb
            split at hb
            · rename_i k9 len9 hm9
              split at hb
              next hk9 =>
                obtain rfl : 2 = len9 := (mDec_len hm9).resolve_left (Nat.succ_ne_zero _)
                exact key k9 2 hk9 (fun cells slots H9 lsr lv locs9 q' hlv hk1 kk9 => lv_astore hx rfl (C.2.1 hp _ hm9) hlv hk1 rfl kk9) (go_inj hb)
              next => cases hb
            · rename_i k9 len9 hm9
              split at hb
              next hk9 =>
                obtain rfl : 1 = len9 := (mDec_len hm9).resolve_left (Nat.succ_ne_zero _)
                exact key k9 1 hk9 (fun cells slots H9 lsr lv locs9 q' hlv hk1 kk9 => lv_astore_n hx rfl (C.2.1 hp _ hm9) rfl hlv hk1 rfl kk9) (go_inj hb)
              next => cases hb
            · cases hb
end
