/-! ===== new int[n][c]: the array of rows, then its rows ===== -/
def mnO (cA : ClassId) (N h i : Nat) : Cell := arrV cA N (fun j => va_rf (if j < i then some (h + 1 + j) else none))
def mnR (cy : ClassId) (K : Nat) : Cell := arrV cy K (fun _ => .int 0)
theorem mnO_new (cA : ClassId) (N h : Nat) : ({ cls := cA, slots := Array.replicate N .null, vm := .none } : Cell) = mnO cA N h 0 := by
  rw [arrV_new]
  refine congrArg (arrV cA N) (funext fun j => ?_)
  rw [if_neg (Nat.not_lt_zero j)]
  rfl
theorem mnO_next (cA : ClassId) (N h i : Nat) : (mnO cA N h i).setSlot i (.ref (h + 1 + i)) = mnO cA N h (i + 1) := by
  unfold mnO
  rw [arrV_store]
  refine congrArg (arrV cA N) (funext fun j => ?_)
  unfold updV
  by_cases e : j = i
  · rw [if_pos e, e, if_pos (Nat.lt_succ_self i)]
    rfl
  · rw [if_neg e]
    show va_rf (if j < i then some (h + 1 + j) else none) = _
    by_cases h9 : j < i
    · rw [if_pos h9, if_pos (Nat.lt_succ_of_lt h9)]
    · rw [if_neg h9, if_neg (by omega)]
/-- what is so of the heap after i rows -/
def mnF (u v : State) (cA cy : ClassId) (N K i : Nat) : Prop :=
  v.vm = u.vm ∧ v.heap.size = u.heap.size + 1 + i ∧ v.slotsUsed = u.slotsUsed + N + i * K ∧ v.heap[u.heap.size]? = some (mnO cA N u.heap.size i) ∧
    (∀ j : Nat, j < i → v.heap[u.heap.size + 1 + j]? = some (mnR cy K)) ∧ (∀ q : Nat, q < u.heap.size → v.heap[q]? = u.heap[q]?)
theorem mnF_zero (u : State) (cA cy : ClassId) (N K : Nat) : mnF u (u.pushCell (mnO cA N u.heap.size 0)) cA cy N K 0 := by
  refine ⟨rfl, by show (u.heap.push _).size = _; rw [Array.size_push], ?_, ?_, fun j hj => absurd hj (Nat.not_lt_zero j), fun q hq => ?_⟩
  · show u.slotsUsed + (mnO cA N u.heap.size 0).slots.size = _
    rw [show (mnO cA N u.heap.size 0).slots.size = N from arrV_size _ _ _]
    omega
  · show (u.heap.push _)[u.heap.size]? = _
    rw [Array.getElem?_push_size]
  · show (u.heap.push _)[q]? = _
    rw [Array.getElem?_push, if_neg (Nat.ne_of_lt hq)]
theorem mnF_next {u v : State} {cA cy : ClassId} {N K i : Nat} (h : mnF u v cA cy N K i) : mnF u ((v.pushCell (mnR cy K)).setCell u.heap.size (mnO cA N u.heap.size (i + 1))) cA cy N K (i + 1) := by
  obtain ⟨f1, f2, f3, f4, f5, f6⟩ := h
  have hlt : u.heap.size < (v.pushCell (mnR cy K)).heap.size := by
    show _ < (v.heap.push _).size
    rw [Array.size_push]; omega
  have hp : ∀ q : Nat, q < v.heap.size → (v.pushCell (mnR cy K)).heap[q]? = v.heap[q]? := fun q hq => by
    show (v.heap.push _)[q]? = _
    rw [Array.getElem?_push, if_neg (Nat.ne_of_lt hq)]
  refine ⟨f1, ?_, ?_, heapAt_setCell_self _ hlt, fun j hj => ?_, fun q hq => ?_⟩
  · rw [size_setCell]
    show (v.heap.push _).size = _
    rw [Array.size_push, f2]; omega
  · show v.slotsUsed + (mnR cy K).slots.size = _
    rw [show (mnR cy K).slots.size = K from arrV_size _ _ _, f3, Nat.succ_mul]; omega
  · rw [heapAt_setCell_ne _ (show u.heap.size ≠ u.heap.size + 1 + j by omega)]
    by_cases e : j < i
    · rw [hp _ (by omega)]
      exact f5 j e
    · have e : j = i := by omega
      subst e
      show (v.heap.push _)[u.heap.size + 1 + j]? = _
      rw [← f2, Array.getElem?_push_size]
  · rw [heapAt_setCell_ne _ (show u.heap.size ≠ q by omega), hp _ (by omega)]
    exact f6 q hq
/-- the model's making of rows, by what holds (P) after i of them -/
theorem mna_make {E : CtlPost} {e : Env} {d : Bool} {acts : List Action} {cA cy cc : ClassId} {n k : Int32} {kA kC : Class} {u : State} {g : JFrame} (hkA : u.vm.classes[cA]? = some kA) (hA : kA.kind = .array cy (.array .int)) (hkC : u.vm.classes[cy]? = some kC) (hC : kC.kind = .array cc .int)
    (hn : ¬ n < 0) (hk : ¬ k < 0) (hl1 : ¬ n.toNatClampNeg > e.platform.arrayLengthLimit) (hh1 : ¬ n.toNatClampNeg * 4 > e.platform.maxHeapBytes) (hl2 : ¬ k.toNatClampNeg > e.platform.arrayLengthLimit) (hh2 : ¬ k.toNatClampNeg * 4 > e.platform.maxHeapBytes)
    (hc : u.heap.size + (1 + n.toNatClampNeg) ≤ e.platform.maxCells) (hs : u.slotsUsed + (n.toNatClampNeg + n.toNatClampNeg * k.toNatClampNeg) ≤ e.platform.maxSlots)
    (P : Nat → State → Prop) (hP0 : P 0 (u.pushCell (mnO cA n.toNatClampNeg u.heap.size 0)))
    (hPs : ∀ (i : Nat) (v : State), i < n.toNatClampNeg → P i v → mnF u v cA cy n.toNatClampNeg k.toNatClampNeg i → P (i + 1) ((v.pushCell (mnR cy k.toNatClampNeg)).setCell u.heap.size (mnO cA n.toNatClampNeg u.heap.size (i + 1))))
    {Q : Addr → Pre} (hq : ∀ (v : State) (d' : Bool) (acts' : List Action), P n.toNatClampNeg v → mnF u v cA cy n.toNatClampNeg k.toNatClampNeg n.toNatClampNeg → Q u.heap.size d' acts' (v.setTop g)) :
    wp (multianewarray.make cA [n, k]) Q E e d acts (u.setTop g) := by
  have hfind : ([k].find? (· < 0)) = none := by simp [hk]
  have hkA' : (u.setTop g).vm.classes[cA]? = some kA := hkA
  rw [multianewarray.make]
  simp only [wp_bind', W.ite, hn, if_false, wp_pure', W.theClass, hkA', hA, Option.some.injEq, exists_eq_left']
  refine W.newArray_of hkA' hA hl1 hh1 (by show u.heap.size < _; omega) (by show u.slotsUsed + _ ≤ _; omega) rfl (fun acts0 => ?_)
  simp only [hfind]
  rw [ite_self, wp_bind', Std.Legacy.Range.forIn_eq_forIn_range']
  rw [show ([:n.toNatClampNeg] : Std.Legacy.Range).size = n.toNatClampNeg by simp [Std.Legacy.Range.size]]
  show wp (forIn (List.range' 0 n.toNatClampNeg 1) PUnit.unit _) _ E e d acts0 _
  refine wp_forIn_inv (fun rest s' => ∃ (i : Nat) (v : State), i ≤ n.toNatClampNeg ∧ rest = List.range' i (n.toNatClampNeg - i) ∧ s' = v.setTop g ∧ P i v ∧ mnF u v cA cy n.toNatClampNeg k.toNatClampNeg i) _ _ ⟨0, u.pushCell (mnO cA n.toNatClampNeg u.heap.size 0), Nat.zero_le _, rfl, ?_, hP0, mnF_zero u cA cy _ _⟩ ?_ ?_
  · rw [← mnO_new]
    rfl
  · rintro x rest s' d' acts' Q' ⟨i, v, hi, hl, rfl, hPv, hF⟩ hnext
    have hlt : i < n.toNatClampNeg := by
      rcases Nat.lt_or_ge i n.toNatClampNeg with h | h
      · exact h
      · rw [show n.toNatClampNeg - i = 0 by omega] at hl; cases hl
    have hl2' : n.toNatClampNeg - i = (n.toNatClampNeg - (i + 1)) + 1 := by omega
    rw [hl2', List.range'_succ] at hl
    obtain ⟨rfl, rfl⟩ := List.cons.inj hl
    have hF' := hF
    obtain ⟨f1, f2, f3, f4, f5, f6⟩ := hF'
    have hmul : x * k.toNatClampNeg + k.toNatClampNeg ≤ n.toNatClampNeg * k.toNatClampNeg := by
      have := Nat.mul_le_mul_right k.toNatClampNeg (show x + 1 ≤ n.toNatClampNeg from hlt)
      rwa [Nat.succ_mul] at this
    have hkC' : (v.setTop g).vm.classes[cy]? = some kC := by
      show v.vm.classes[cy]? = _
      rw [f1]; exact hkC
    simp only [wp_bind']
    rw [multianewarray.make]
    simp only [wp_bind', W.ite, hk, if_false, wp_pure', W.theClass, hkC', hC, Option.some.injEq, exists_eq_left']
    refine W.newArray_of hkC' hC hl2 hh2 (by show v.heap.size < _; omega) (by show v.slotsUsed + _ ≤ _; omega) rfl (fun acts1 => ?_)
    have hcell : (v.pushCell (mnR cy k.toNatClampNeg)).heap[u.heap.size]? = some (mnO cA n.toNatClampNeg u.heap.size x) := by
      show (v.heap.push _)[u.heap.size]? = _
      rw [Array.getElem?_push, if_neg (by omega)]
      exact f4
    have hro : ({ cls := cy, slots := Array.replicate k.toNatClampNeg (defaultValue .int), vm := .none } : Cell) = mnR cy k.toNatClampNeg := arrV_new _ _ _
    have hpush : (v.setTop g).pushCell { cls := cy, slots := Array.replicate k.toNatClampNeg (defaultValue .int) } = (v.pushCell (mnR cy k.toNatClampNeg)).setTop g := by
      rw [← hro]; rfl
    rw [hpush]
    simp only [wp_bind', W.writeLoc, wp_pure']
    refine ⟨mnO cA n.toNatClampNeg u.heap.size x, hcell, fun h => (by cases h), by rw [show (mnO cA n.toNatClampNeg u.heap.size x).slots.size = n.toNatClampNeg from arrV_size _ _ _]; exact hlt, ?_, hnext _ _ _ ⟨x + 1, _, hlt, rfl, ?_, hPs x v hlt hPv hF, mnF_next hF⟩⟩
    · show State.fitsSlot ((v.pushCell (mnR cy k.toNatClampNeg)).setTop g) cA .none x _ = true
      have hkA2 : ((v.pushCell (mnR cy k.toNatClampNeg)).setTop g).vm.classes[cA]? = some kA := by
        show v.vm.classes[cA]? = _
        rw [f1]; exact hkA
      have hkA3 : v.vm.classes[cA]? = some kA := hkA2
      simp [State.fitsSlot, State.slotType?, hkA3, hA, fits]
    · rw [← mnO_next]
      show _ = State.setTop _ g
      rw [show (v.setTop g).heap.size = u.heap.size + 1 + x from f2]
      rfl
  · rintro s' d' acts' ⟨i, v, hi, hl, rfl, hPv, hF⟩
    have hiN : i = n.toNatClampNeg := by
      rcases Nat.lt_or_ge i n.toNatClampNeg with h | h
      · rw [show n.toNatClampNeg - i = (n.toNatClampNeg - (i + 1)) + 1 by omega, List.range'_succ] at hl; cases hl
      · omega
    subst hiN
    simp only [wp_pure']
    exact hq v _ _ hPv hF
def mnS (u : State) (cA cy : ClassId) (N K : Nat) : Nat → State
  | 0 => u.pushCell (mnO cA N u.heap.size 0)
  | i + 1 => ((mnS u cA cy N K i).pushCell (mnR cy K)).setCell u.heap.size (mnO cA N u.heap.size (i + 1))
theorem mnS_ok (u : State) (cA cy : ClassId) (N K : Nat) : ∀ i, mnF u (mnS u cA cy N K i) cA cy N K i
  | 0 => mnF_zero u cA cy N K
  | i + 1 => mnF_next (mnS_ok u cA cy N K i)
section
variable {p : Program} {l : Launch} {e : Env} {R : Room} {s : State} {m : MethodId} {args : Array Value} {below : List Frame} {meth : Method} {c : Code} {Q : State → Prop} {S0 : State} {D : va_G} {g0 : Nat × Nat} {M n0 w0 : Nat}
theorem mnS_st {u : State} {locs : List Loc} {cells slots : Nat} (X : Stand p l e R s m args below meth c u locs cells slots) (cA cy : ClassId) (N K : Nat) :
    ∀ i, Stand p l e R s m args below meth c (mnS u cA cy N K i) (locs ++ (List.range i).map fun j => ⟨u.heap.size, j⟩) (cells + 1 + i) (slots + N + i * K)
  | 0 => by
    have h := X.pushed (mnO cA N u.heap.size 0)
    rw [show (mnO cA N u.heap.size 0).slots.size = N from arrV_size _ _ _] at h
    rw [Nat.zero_mul, List.range_zero, List.map_nil, List.append_nil]
    exact h
  | i + 1 => by
    have Xi := mnS_st X cA cy N K i
    obtain ⟨-, f2, -, f4, -, -⟩ := mnS_ok u cA cy N K i
    have hcell : ((mnS u cA cy N K i).pushCell (mnR cy K)).heap[u.heap.size]? = some (mnO cA N u.heap.size i) := by
      show ((mnS u cA cy N K i).heap.push _)[u.heap.size]? = _
      rw [Array.getElem?_push, if_neg (by omega)]
      exact f4
    have h := (Xi.pushed (mnR cy K)).stored hcell i (.ref (u.heap.size + 1 + i))
    rw [show (mnR cy K).slots.size = K from arrV_size _ _ _, mnO_next] at h
    rw [List.range_succ, List.map_append, ← List.append_assoc, Nat.succ_mul, ← Nat.add_assoc (slots + N)]
    exact h
theorem W.mna {cc : ByteArray} {H : Heap} {locs : List Loc} {cells slots : Nat} (hexec : p.tables.exec = Jvm.exec) (hb : c.code = cc) {own nm : String} {index : Nat} (hown : s.vm.findClass own = some m.cls) (hclink : (Jvm.Cond.classLink own index nm).before args s = true)
    {cA cy c9 : ClassId} {kA kC : Class} (hfA : s.vm.findClass nm = some cA) (hkA : s.vm.classes[cA]? = some kA) (hA : kA.kind = .array cy (.array .int)) (hkC : s.vm.classes[cy]? = some kC) (hC : kC.kind = .array c9 .int)
    {g : JFrame} (hg : g.method = m) (hdg : decode cc g.pc = .ok (.multianewarray index 2, 4)) {n k : Int32} {rest : List Value} (hstack : g.stack = .int k :: .int n :: rest) (hn : ¬ n < 0) (hk : ¬ k < 0) (hn6 : n.toNatClampNeg ≤ 60000) (hk6 : k.toNatClampNeg ≤ 60000)
    (hcells : cells + (1 + n.toNatClampNeg) ≤ R.cells) (hslots : slots + (n.toNatClampNeg + n.toNatClampNeg * k.toNatClampNeg) ≤ R.slots) {h : Nat} (hh : H.size = h)
    (kk : ∀ H' : Heap, H'.size = h + 1 + n.toNatClampNeg → H'[h]? = some (mnO cA n.toNatClampNeg h n.toNatClampNeg) → (∀ j : Nat, j < n.toNatClampNeg → H'[h + 1 + j]? = some (mnR cy k.toNatClampNeg)) → (∀ q : Nat, q < h → H'[q]? = H[q]?) →
      W p l e R s m args below meth c H' (locs ++ (List.range n.toNatClampNeg).map fun j => ⟨h, j⟩) (cells + 1 + n.toNatClampNeg) (slots + n.toNatClampNeg + n.toNatClampNeg * k.toNatClampNeg) Q { g with pc := g.pc + 4, stack := .ref h :: rest }) : W p l e R s m args below meth c H locs cells slots Q g := by
  intro T hT X
  subst hT; subst hh; subst hb; subst hg
  have hpl : e.platform.magicAccessors = ({} : Platform).magicAccessors := by rw [X.admits.platform]
  obtain ⟨c0, hfc0, hcl⟩ := Cond.classLink_spec hown hclink e.platform hpl
  cases hfA.symm.trans hfc0
  obtain ⟨hg₁, hwarm₁, hready₁⟩ := State.classEntry (e := e) X.warmed hcl
  generalize T.vm.noted g.method.cls index (.cls cA) = vm₁ at hg₁ hwarm₁ hready₁
  have hal : s.vm.Alike vm₁ := hwarm₁.alike
  obtain ⟨kA₁, hkA₁, heA⟩ := hal.2.2 _ _ hkA
  obtain ⟨kC₁, hkC₁, heC⟩ := hal.2.2 _ _ hkC
  have hA₁ : kA₁.kind = .array cy (.array .int) := by rw [heA]; exact hA
  have hC₁ : kC₁.kind = .array c9 .int := by rw [heC]; exact hC
  have X₁ := X.noted hwarm₁
  obtain ⟨hr1, hr2⟩ := X.roomAbove hcells hslots
  have XF := mnS_st X₁ cA cy n.toNatClampNeg k.toNatClampNeg n.toNatClampNeg
  obtain ⟨-, f2, -, f4, f5, f6⟩ := mnS_ok (T.setVm vm₁) cA cy n.toNatClampNeg k.toNatClampNeg n.toNatClampNeg
  obtain ⟨t, a1, b1⟩ := kk _ f2 f4 f5 f6 (mnS (T.setVm vm₁) cA cy n.toNatClampNeg k.toNatClampNeg n.toNatClampNeg) rfl XF
  refine ⟨t, ?_, b1⟩
  have hl1 : ¬ n.toNatClampNeg > e.platform.arrayLengthLimit := by rw [Launch.admits_arrayLengthLimit X.admits]; omega
  have hh1 : ¬ n.toNatClampNeg * 4 > e.platform.maxHeapBytes := by rw [Launch.admits_maxHeapBytes X.admits]; omega
  have hl2 : ¬ k.toNatClampNeg > e.platform.arrayLengthLimit := by rw [Launch.admits_arrayLengthLimit X.admits]; omega
  have hh2 : ¬ k.toNatClampNeg * 4 > e.platform.maxHeapBytes := by rw [Launch.admits_maxHeapBytes X.admits]; omega
  jvm_step X.here [hexec, hdg]
  simp only [multianewarray.sem, wp_bind', W.resolveClassAt_links (State.method?_setTop g X.here.top) hg₁]
  rw [W.popN, if_neg (by decide)]
  refine ⟨g, State.topJava?_setTop' (s := T.setVm vm₁) g X.here.top, [.int n, .int k], rest, rfl, hstack, ?_⟩
  simp only [List.mapM_cons, List.mapM_nil, wp_bind', wp_pure']
  have eS : ((T.setTop g).setVm vm₁).setTop { g with stack := rest } = (T.setVm vm₁).setTop { g with stack := rest } := by
    show ((T.setVm vm₁).setTop g).setTop _ = _
    rw [State.setTop_setTop]
  rw [eS]
  refine mna_make (u := T.setVm vm₁) hkA₁ hA₁ hkC₁ hC₁ hn hk hl1 hh1 hl2 hh2 hr1 hr2 (fun i v => v = mnS (T.setVm vm₁) cA cy n.toNatClampNeg k.toNatClampNeg i) rfl (fun i v _ hv _ => by rw [hv]; rfl) (fun v d' acts' hv hF => ?_)
  subst hv
  simp only [wp_bind', W.mark, W.pushRef, State.topJava?_setTop' _ XF.here.top, Option.some.injEq, exists_eq_left', State.setTop_setTop]
  intro acts
  simp [jvm, XF.here.top]
  exact a1
theorem st_mna (C : aCx p s m meth c S0 D g0 M) {pc j : Nat} {ls : aLs} {st : List Value} {H : aH} {q : aQ} (hm : mDec M pc = some (.multianewarray j 2, 4)) (h : aS M pc 4 (.multianewarray j 2) ls st H = some (.inl q)) (hc : q.2.2.2.2.1 - n0 ≤ R.cells) (hs : q.2.2.2.2.2.1 - w0 ≤ R.slots) (hn : n0 ≤ H.2.1) (hw0 : w0 ≤ H.2.2.1)
    (k : Wq p l e R s m args below meth c Q S0 D g0 (mML M) n0 w0 q) : Wq p l e R s m args below meth c Q S0 D g0 (mML M) n0 w0 (pc, ls, st, H) := by
  have hd := C.2.1 pc _ hm
  have hx := C.1
  have hAC := C.2.2.2.2.2.2.2.2.2.1
  have hAO := C.2.2.2.2.2.2.2.2.2.2.2.1
  have hal := C.2.2.2.2.2.2.2.2.2.2.2.2
  obtain ⟨O, b1, b2⟩ := C.2.2.2.1
  obtain ⟨A0, hts⟩ := C.2.2.2.2.2.1
  match st, h with
  | .int k9 :: .int n :: t, h =>
    have h : (if k9 < 0 ∨ 60000 < k9.toNatClampNeg ∨ n < 0 ∨ 60000 < n.toNatClampNeg then none else (fnd3 aUT (mOc M) j).bind fun _ => go (pc + 4) ls (.ref H.2.1 :: t) (mk2 H n.toNatClampNeg k9.toNatClampNeg)) = _ := h
    split at h
    next => cases h
    next hz =>
      have hz1 : ¬ k9 < 0 := fun z => hz (Or.inl z)
      have hz2 : k9.toNatClampNeg ≤ 60000 := Nat.not_lt.mp fun z => hz (Or.inr (Or.inl z))
      have hz3 : ¬ n < 0 := fun z => hz (Or.inr (Or.inr (Or.inl z)))
      have hz4 : n.toNatClampNeg ≤ 60000 := Nat.not_lt.mp fun z => hz (Or.inr (Or.inr (Or.inr z)))
      cases hf : fnd3 aUT (mOc M) j with
      | none => rw [hf] at h; cases h
      | some u =>
        rw [hf] at h
        have h := go_inj (show go _ _ _ _ = _ from h)
        subst h
        have hck := List.all_eq_true.mp okUT _ (fnd3_mem hf)
        obtain ⟨nm, p9⟩ := u
        simp only [chkC, b1, Bool.and_eq_true, decide_eq_true_eq] at hck
        obtain ⟨hk1, rfl⟩ := hck
        obtain ⟨cy, cA, kA, hcy, -, hkA, hkindA, hname⟩ := arrayOverA_spec (hts _ hAO)
        obtain ⟨cy', kC, c9, hcy', hkC, hkindC⟩ := Cond.arrayClass_spec (hts _ (hAC .int (Or.inl rfl)))
        have ecy : cy' = cy := Option.some.inj (hcy'.symm.trans hcy)
        subst ecy
        obtain ⟨kA1, hkA1, heA⟩ := hal.2.2 _ _ hkA
        obtain ⟨kC1, hkC1, heC⟩ := hal.2.2 _ _ hkC
        have hstr : "[" ++ (FieldType.array FieldType.int).toString = "[[I" := by decide +kernel
        rw [hstr] at hname
        obtain ⟨h0, nn, ww, gg⟩ := H
        have hn : n0 ≤ nn := hn
        have hw0 : w0 ≤ ww := hw0
        intro Hr lsr locs hR hL hl
        have hsz : Hr.size = nn := hR.1
        have hc : nn + 1 + n.toNatClampNeg - n0 ≤ R.cells := hc
        have hs : ww + n.toNatClampNeg + n.toNatClampNeg * k9.toNatClampNeg - w0 ≤ R.slots := hs
        obtain ⟨r1, r2, r3, r4, r5, r6⟩ := hR
        refine W.mna hx rfl b2 (cx_tb C hk1 rfl) (by rw [hal.findClass]; exact hname) hkA1 (by rw [heA]; exact hkindA) hkC1 (by rw [heC]; exact hkindC) rfl hd rfl hz3 hz1 hz4 hz2 (by show nn - n0 + _ ≤ _; omega) (by show ww - w0 + _ ≤ _; omega) hsz (fun H' g1 g2 g3 g4 => ?_)
        have e1 : nn - n0 + 1 + n.toNatClampNeg = nn + 1 + n.toNatClampNeg - n0 := by omega
        have e2 : ww - w0 + n.toNatClampNeg + n.toNatClampNeg * k9.toNatClampNeg = ww + n.toNatClampNeg + n.toNatClampNeg * k9.toNatClampNeg - w0 := by omega
        show W p l e R s m args below meth c H' _ (nn - n0 + 1 + n.toNatClampNeg) (ww - w0 + n.toNatClampNeg + n.toNatClampNeg * k9.toNatClampNeg) Q _
        rw [e1, e2]
        refine k H' lsr _ ⟨g1, fun a c9' hac => ?_, fun a c9' hac => ?_, by omega, fun q hq => ?_, r6⟩ hL (fun z hz9 => ?_)
        · have hac : (if a = nn then some (aP (.array .int) n.toNatClampNeg (fun i => if i < n.toNatClampNeg then some (nn + 1 + i) else none)) else if nn < a ∧ a ≤ nn + n.toNatClampNeg then some (aI .int k9.toNatClampNeg (fun _ => 0)) else h0 a) = some c9' := hac
          split at hac
          next ha =>
            subst ha
            cases hac
            exact ⟨cA, g2, fun N z => ⟨(fun k h => by cases h), kA, hkA, _, hkindA⟩, ⟨kA, _, hkA, hkindA, hcy⟩, rfl, by omega⟩
          next ha =>
            split at hac
            next hb =>
              cases hac
              have := g3 (a - nn - 1) (by omega)
              rw [show nn + 1 + (a - nn - 1) = a by omega] at this
              exact ⟨_, .int, this, fun N z => ⟨(fun k h => by cases h), kC, hkC, _, hkindC⟩, hcy', Or.inl rfl, Or.inl rfl, by omega⟩
            next hb =>
              have hg := r2 a c9' hac
              have hlt := gC_lt hg
              exact gC_keep (g4 a (by omega)) hg
        · have hac : (if a = nn then some (aP (.array .int) n.toNatClampNeg (fun i => if i < n.toNatClampNeg then some (nn + 1 + i) else none)) else if nn < a ∧ a ≤ nn + n.toNatClampNeg then some (aI .int k9.toNatClampNeg (fun _ => 0)) else h0 a) = some c9' := hac
          split at hac
          next ha => exact Or.inr (by omega)
          next ha =>
            split at hac
            next hb => exact Or.inr (by omega)
            next hb => exact r3 a c9' hac
        · rw [g4 q (by omega)]
          exact r5 q hq
        · rcases List.mem_append.mp hz9 with z1 | z1
          · exact hl z z1
          · obtain ⟨jj, -, rfl⟩ := List.mem_map.mp z1
            show S0.heap.size ≤ nn
            omega
end
