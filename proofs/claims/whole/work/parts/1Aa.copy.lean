/-! ===== System.arraycopy between arrays of one type ===== -/
theorem okAC : Jvm.Cond.native arraycopyName ∈ lw_tbl ∧ Jvm.Cond.static arraycopyName ∈ lw_tbl ∧ Jvm.Cond.initialized "java/lang/System" ∈ lw_tbl := by decide +kernel
section
variable {p : Program} {l : Launch} {e : Env} {R : Room} {s : State} {m : MethodId} {args : Array Value} {below : List Frame} {meth : Method} {c : Code} {Q : State → Prop} {S0 : State} {D : va_G} {g0 : Nat × Nat} {M n0 w0 : Nat}
theorem g_copy {α : Type} (mk : α → Value) (C : aCx p s m meth c S0 D g0 M) {O : String} {k pc : Nat} (hown : s.vm.findClass O = some m.cls) (hlink : (Cond.methodLink O k arraycopyName).before args s = true) {H : Heap} {ls : Array Slot} (hsz : ls.size = mML M) {rest : List Value} {locs : List Loc} {cells slots : Nat}
    {a0 a : Nat} {c0 c1 : ClassId} {N0 N1 : Nat} {f g : Nat → α} {ty : FieldType} (e0 : H[a0]? = some (arrV c0 N0 (fun j => mk (f j)))) (e1 : H[a]? = some (arrV c1 N1 (fun j => mk (g j)))) (t0 : ArrOfT S0 c0 ty) (t1 : ArrOfT S0 c1 ty)
    {sp dp n : Int32} (h1 : ¬ sp < 0) (h2 : ¬ dp < 0) (h3 : ¬ n < 0) (h4 : sp.toNatClampNeg + n.toNatClampNeg ≤ N0) (h5 : dp.toNatClampNeg + n.toNatClampNeg ≤ N1)
    (hvals : ∀ (T : State), T.heap = H → ∀ (k1 : Class) (comp : ClassId), s.vm.classes[c1]? = some k1 → k1.kind = .array comp ty → ∀ vm', s.vm.Alike vm' → ∀ i : Nat, i < n.toNatClampNeg → fits ty (mk (f (sp.toNatClampNeg + i))) = true ∧ (T.setVm vm').takes comp (mk (f (sp.toNatClampNeg + i))))
    (hframes : 1 ≤ R.frames) (hlocals : catS rest + 100 ≤ R.locals) (hd : decode c.code pc = .ok (.invokestatic k, 3))
    (kk : ∀ (H1 : Heap) (locs1 : List Loc), H1[a]? = some (arrV c1 N1 (fun j => mk (va_cpy f g sp.toNatClampNeg dp.toNatClampNeg n.toNatClampNeg j))) → H1.size = H.size → (∀ q : Nat, q ≠ a → H1[q]? = H[q]?) → (∀ z ∈ locs1, z ∈ locs ∨ z.base = a) → W p l e R s m args below meth c H1 locs1 cells slots Q (F0 m (pc + 3) ls rest)) :
    W p l e R s m args below meth c H locs cells slots Q (F0 m pc ls (.int n :: .int dp :: .ref a :: .int sp :: .ref a0 :: rest)) := by
  have nn : ∀ z : Int32, ¬ z < 0 → z.toInt = (z.toNatClampNeg : Int) := by
    intro z hz
    have hz0 : (0 : Int) ≤ z.toInt := by
      have := Int32.not_lt.mp hz
      simpa using Int32.le_iff_toInt_le.mp this
    show z.toInt = ((z.toInt.toNat : Nat) : Int)
    omega
  intro T hT X
  obtain ⟨-, k0, hk0, cm0, hkk0⟩ := cx_arr C t0 N0 (fun j => mk (f j))
  obtain ⟨-, k1, hk1, cm1, hkk1⟩ := cx_arr C t1 N1 (fun j => mk (g j))
  have hw := fun {w : Jvm.Cond} (hw : w ∈ lw_tbl) (hg : goodWord w = true) => cx_word C hw hg args s C.2.2.2.2.1
  obtain ⟨vm', X', step⟩ := X.arraycopy C.1 hown hlink (hw okAC.1 rfl) (hw okAC.2.1 rfl) (hw okAC.2.2 rfl) (src := a0) (dst := a) (cs := arrV c0 N0 (fun j => mk (f j))) (cd := arrV c1 N1 (fun j => mk (g j))) (srcPos := sp) (destPos := dp) (n := n) (by rw [hT]; exact e0) (by rw [hT]; exact e1)
    (fun _ h => by cases h) (fun _ h => by cases h) (fun h => by cases h) (fun h => by cases h) hk0 hk1 hkk0 hkk1 (by simp) h1 h2 h3
    (by rw [nn sp h1, nn n h3, arrV_size]; omega)
    (by rw [nn dp h2, nn n h3, arrV_size]; omega)
    (fun vm₁ hal i hi => by
      have e : (arrV c0 N0 (fun j => mk (f j))).slots.getD (sp.toNatClampNeg + i) .null = mk (f (sp.toNatClampNeg + i)) := by
        rw [Array.getD_eq_getD_getElem?, arrV_read _ _ (by omega)]
        rfl
      rw [e]
      exact hvals T hT k1 cm1 hk1 hkk1 vm₁ hal i hi)
    (g := F0 m pc ls (.int n :: .int dp :: .ref a :: .int sp :: .ref a0 :: rest)) rfl (by rw [C.2.2.1]; exact hsz) (rest := rest) rfl hd hframes (by
      have e9 : nativeFrameWords "java/lang/System" "arraycopy" 5 + 11 ≤ 100 := by decide +kernel
      show 2 * 0 + catS rest + _ ≤ _
      omega)
  have ec : copied (arrV c0 N0 (fun j => mk (f j))) (arrV c1 N1 (fun j => mk (g j))) sp dp n = arrV c1 N1 (fun j => mk (va_cpy f g sp.toNatClampNeg dp.toNatClampNeg n.toNatClampNeg j)) := va_copied mk c0 c1 f g h4
  rw [ec] at X' step
  have hl : a < H.size := (Array.getElem?_eq_some_iff.mp e1).1
  have hheap : ((T.setVm vm').setCell a (arrV c1 N1 (fun j => mk (va_cpy f g sp.toNatClampNeg dp.toNatClampNeg n.toNatClampNeg j)))).heap = H.setIfInBounds a (arrV c1 N1 (fun j => mk (va_cpy f g sp.toNatClampNeg dp.toNatClampNeg n.toNatClampNeg j))) := by rw [← hT]; rfl
  obtain ⟨t, a1, b1⟩ := kk _ _ (by simp [Array.getElem?_setIfInBounds, hl]) (by simp) (fun q hq => by simp [Array.getElem?_setIfInBounds, Ne.symm hq]) (fun z hz => by
      rcases List.mem_append.mp hz with h | h
      · exact Or.inl h
      · obtain ⟨y, -, hy⟩ := List.mem_map.mp h
        exact Or.inr (by rw [← hy])) _ hheap X'
  exact ⟨t, step t a1, b1⟩
theorem prim_copy (C : aCx p s m meth c S0 D g0 M) {O : String} {k pc : Nat} (hown : s.vm.findClass O = some m.cls) (hlink : (Cond.methodLink O k arraycopyName).before args s = true) {ls : aLs} {rest : List Value} {H : aH} {h' : aHf} {a0 a : Nat} {sp dp n : Int32}
    (hw : wr H.1 a (cpC H.1 (H.1 a0) (H.1 a) sp dp n) = some h') (hframes : 1 ≤ R.frames) (hlocals : catS rest + 100 ≤ R.locals) (hd : decode c.code pc = .ok (.invokestatic k, 3))
    (kk : Wq p l e R s m args below meth c Q S0 D g0 (mML M) n0 w0 (pc + 3, ls, rest, (h', H.2))) : Wq p l e R s m args below meth c Q S0 D g0 (mML M) n0 w0 (pc, ls, .int n :: .int dp :: .ref a :: .int sp :: .ref a0 :: rest, H) := by
  have hal := C.2.2.2.2.2.2.2.2.2.2.2.2
  intro Hr lsr locs hR hL hl
  obtain ⟨c', hc', rfl⟩ := wr_some hw
  cases hs : H.1 a0 with
  | none => rw [hs] at hc'; cases hc'
  | some x =>
    cases ht : H.1 a with
    | none =>
      rw [hs, ht] at hc'
      unfold cpC at hc'
      split at hc' <;> first | cases hc' | (rename_i q; cases q)
    | some y =>
      rw [hs, ht] at hc'
      have ha : roC y ∨ S0.heap.size ≤ a := hR.2.2.1 a _ ht
      have hR1 := hR.2.1 a0 _ hs
      have hR2 := hR.2.1 a _ ht
      have hln : ∀ (locs1 : List Loc), S0.heap.size ≤ a → (∀ z ∈ locs1, z ∈ locs ∨ z.base = a) → ∀ z ∈ locs1, S0.heap.size ≤ z.base := fun locs1 h9 h z hz => by
        rcases h z hz with q | q
        · exact hl z q
        · rw [q]; exact h9
      unfold cpC at hc'
      split at hc'
      · rename_i N f K g q1 q2
        cases q1
        cases q2
        split at hc'
        · cases hc'
        · rename_i hb
          cases hc'
          obtain ⟨cA, ty', e1, e2, e3, e4, e5, e6⟩ := hR1
          obtain ⟨cB, tz', b1, b2, b3, b4, b5, b6⟩ := hR2
          have hty : ty' = .int := e4.elim (fun z => z.symm) (fun z => by cases z.1)
          have htz : tz' = .int := b4.elim (fun z => z.symm) (fun z => by cases z.1)
          subst hty
          subst htz
          have ha : S0.heap.size ≤ a := ha.elim (fun z => by cases z) id
          refine g_copy (fun z => Value.int z) C hown hlink (LR_size hL) e1 b1 e2 b2 (fun z => hb (Or.inl z)) (fun z => hb (Or.inr (Or.inl z))) (fun z => hb (Or.inr (Or.inr (Or.inl z)))) (Nat.le_of_not_lt fun z => hb (Or.inr (Or.inr (Or.inr (Or.inl z))))) (Nat.le_of_not_lt fun z => hb (Or.inr (Or.inr (Or.inr (Or.inr z)))))
            (fun T hT k1 comp hk1 hkk1 vm' hal' i hi => ⟨rfl, trivial⟩) hframes hlocals hd fun H1 locs1 f1 f2 f3 f4 => ?_
          exact kk H1 lsr _ (gR_put hR f2 f3 ⟨cB, .int, f1, b2, b3, Or.inl rfl, b5, b6⟩ ha) hL (hln _ ha f4)
      · rename_i N f K g q1 q2
        cases q1
        cases q2
        split at hc'
        · cases hc'
        · rename_i hb
          cases hc'
          obtain ⟨cA, e1, e2, e3, e4, e6⟩ := hR1
          obtain ⟨cB, b1, b2, b3, b4, b6⟩ := hR2
          have ha : S0.heap.size ≤ a := ha.elim (fun z => by cases z) id
          have hall : ((List.range n.toNatClampNeg).all fun i => match f (sp.toNatClampNeg + i) with | some y => isIA (H.1 y) | none => true) = true := by
            cases hz : ((List.range n.toNatClampNeg).all fun i => match f (sp.toNatClampNeg + i) with | some y => isIA (H.1 y) | none => true) with
            | true => rfl
            | false => exact absurd (Or.inr (Or.inr (Or.inr (Or.inr (Or.inr hz))))) hb
          refine g_copy (fun z => va_rf z) C hown hlink (LR_size hL) e1 b1 e2 b2 (fun z => hb (Or.inl z)) (fun z => hb (Or.inr (Or.inl z))) (fun z => hb (Or.inr (Or.inr (Or.inl z)))) (Nat.le_of_not_lt fun z => hb (Or.inr (Or.inr (Or.inr (Or.inl z))))) (Nat.le_of_not_lt fun z => hb (Or.inr (Or.inr (Or.inr (Or.inr (Or.inl z))))))
            (fun T hT k1 comp hk1 hkk1 vm' hal' i hi => ?_) hframes hlocals hd fun H1 locs1 f1 f2 f3 f4 => ?_
          · have hi9 := List.all_eq_true.mp hall i (List.mem_range.mpr hi)
            cases hy : f (sp.toNatClampNeg + i) with
            | none => exact ⟨rfl, trivial⟩
            | some y9 =>
              rw [hy] at hi9
              replace hi9 : isIA (H.1 y9) = true := hi9
              cases hv : H.1 y9 with
              | none => rw [hv] at hi9; cases hi9
              | some z9 =>
                rw [hv] at hi9
                match z9, hi9, hv with
                | .inl (.int, N2, .inl f2), hi9, hv =>
                  obtain ⟨cE, ty', v1, v2, v3, v4, v5, v6⟩ := hR.2.1 y9 _ hv
                  have hty : ty' = .int := v4.elim (fun z => z.symm) (fun z => by cases z.1)
                  subst hty
                  obtain ⟨kA, comp', r1, r2, r3⟩ := raK.moved hal b3
                  cases hk1.symm.trans r1
                  cases hkk1.symm.trans r2
                  have b3' : s.vm.findClass (rcN (.array .int)) = some cE := by rw [hal.findClass]; exact v3
                  have hcomp : comp = cE := Option.some.inj (r3.symm.trans b3')
                  subst hcomp
                  obtain ⟨kC, hkC, -⟩ := Vm.findClass_spec b3'
                  obtain ⟨kC', hkC', -⟩ := hal'.2.2 _ _ hkC
                  refine ⟨rfl, _, (show T.heap[y9]? = some _ by rw [hT]; exact v1), (fun q h => by cases h), ⟨kC', hkC'⟩, ⟨kC', hkC'⟩, ?_⟩
                  exact Vm.assignable_self _ _
          · exact kk H1 lsr _ (gR_put hR f2 f3 ⟨cB, f1, b2, b3, b4, b6⟩ ha) hL (hln _ ha f4)
      · cases hc'
end
