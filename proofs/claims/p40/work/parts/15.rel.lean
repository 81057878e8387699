/-! ===== what the abstract machine's cells say of the heap ===== -/
/-- read only: an array of ints under another type; the library's access to memory -/
def roC (c : aC) : Prop := match c with
  | .inl (ty, _) => ty = .float
  | .inr _ => False
/-- the name of the class of what an array of references holds -/
def rcN : FieldType → String
  | .object C => C
  | t => t.toString
def raK (S0 : State) (cA : ClassId) (ty : FieldType) : Prop := ∃ (kA : Class) (comp : ClassId), S0.vm.classes[cA]? = some kA ∧ kA.kind = .array comp ty ∧ S0.vm.findClass (rcN ty) = some comp
theorem raK.moved {u U : State} (hvm : u.vm.Alike U.vm) {cA : ClassId} {ty : FieldType} (h : raK u cA ty) : raK U cA ty := by
  obtain ⟨kA, comp, h1, h2, h3⟩ := h
  obtain ⟨k', hk', he⟩ := hvm.2.2 _ _ h1
  exact ⟨k', comp, hk', by rw [he]; exact h2, by rw [hvm.findClass]; exact h3⟩
/-- an array of ints or booleans; one that is only read may be any such cell -/
def gI9 (S0 : State) (a : Nat) (ty : FieldType) (N : Nat) (f : Nat → Int32) (H : Heap) : Prop :=
  if ty = .float then ∃ cl : Cell, H[a]? = some cl ∧ S0.isArrayOf cl .int ∧ cl.vm ≠ .unknown ∧ cl.slots.size = N ∧ (∀ j : Nat, j < N → cl.slots[j]? = some (.int (f j))) ∧ N < 2147483648
  else ∃ cA ty', H[a]? = some (arrV cA N (fun j => .int (f j))) ∧ ArrOfT S0 cA ty' ∧ S0.vm.findClass ("[" ++ ty'.toString) = some cA ∧ (ty = ty' ∨ (ty = .float ∧ ty' = .int)) ∧ (ty' = .int ∨ ty' = .boolean) ∧ N < 2147483648
theorem gI9_keep {S0 : State} {a : Nat} {ty : FieldType} {N : Nat} {f : Nat → Int32} {H H1 : Heap} (h : H1[a]? = H[a]?) (k : gI9 S0 a ty N f H) : gI9 S0 a ty N f H1 := by
  unfold gI9 at k ⊢
  rw [h]
  exact k
theorem gI9_rd {S0 : State} {a : Nat} {ty : FieldType} {N : Nat} {f : Nat → Int32} {H : Heap} (k : gI9 S0 a ty N f H) : ∃ (cl : Cell) (ty' : FieldType), H[a]? = some cl ∧ S0.isArrayOf cl ty' ∧ cl.vm ≠ .unknown ∧ cl.slots.size = N ∧ (∀ j : Nat, j < N → cl.slots[j]? = some (.int (f j))) ∧ (ty = ty' ∨ (ty = .float ∧ ty' = .int)) ∧ (ty' = .int ∨ ty' = .boolean) := by
  unfold gI9 at k
  split at k
  next hf =>
    obtain ⟨cl, e1, e2, e3, e4, e5, -⟩ := k
    exact ⟨cl, .int, e1, e2, e3, e4, e5, Or.inr ⟨hf, rfl⟩, Or.inl rfl⟩
  next hf =>
    obtain ⟨cA, ty', e1, e2, -, e4, e5, -⟩ := k
    exact ⟨_, ty', e1, e2 _ _, (fun z => by cases z), arrV_size _ _ _, fun j hj => arrV_read _ _ hj, e4, e5⟩
def obV (_ : Nat) (cell : Cell) : Prop := cell.vm = .none
theorem obV_ns {ci : Nat} {cell : Cell} (h : obV ci cell) : cell.vm.isStatics = false := by
  have h : cell.vm = .none := h
  rw [h]; rfl
theorem obV_nq {ci : Nat} {cell : Cell} (h : obV ci cell) (q : ClassId) : cell.vm ≠ .statics q := fun z => by
  have := obV_ns h
  rw [z] at this
  cases this
theorem ob_mk {ci a N : Nat} {dc : ClassId} {iS : Nat → Nat} {H : Heap} {V : Nat → Value} (h : t_OB a dc N iS H V) : ∃ cell : Cell, H[a]? = some cell ∧ cell.cls = dc ∧ obV ci cell ∧ ∀ k, k < N → cell.slots[iS k]? = some (V k) := by
  obtain ⟨cell, e1, e2, e3, e4⟩ := h
  exact ⟨cell, e1, e2, e3, e4⟩
def gC (D : va_G) (S0 : State) (a : Nat) (c : aC) (H : Heap) : Prop := match c with
  | .inl (ty, N, .inl f) => gI9 S0 a ty N f H
  | .inl (ty, N, .inr (.inl f)) => ∃ cA, H[a]? = some (arrV cA N (fun j => .long (f j))) ∧ ArrOfT S0 cA ty ∧ S0.vm.findClass ("[" ++ ty.toString) = some cA ∧ ty = .long ∧ N < 2147483648
  | .inl (ty, N, .inr (.inr (.inr (.inr f)))) => ∃ cA, H[a]? = some (arrV cA N (fun j => va_rf (f j))) ∧ ArrOfT S0 cA ty ∧ raK S0 cA ty ∧ ty.isReference = true ∧ N < 2147483648
  | .inl _ => False
  | .inr (ci, fs) => ∃ q, aCl[ci]? = some q ∧ fs.length = q.2.2 ∧ ∃ cell : Cell, H[a]? = some cell ∧ cell.cls = D.1 ci ∧ obV ci cell ∧ ∀ k, k < q.2.2 → cell.slots[D.2 ci k]? = some (vp_V fs k)
theorem gC_keep {D : va_G} {S0 : State} {a : Nat} {c : aC} {H H1 : Heap} (h : H1[a]? = H[a]?) (k : gC D S0 a c H) : gC D S0 a c H1 := by
  match c, k with
  | .inl (ty, N, .inl f), k => exact gI9_keep h k
  | .inl (ty, N, .inr (.inl f)), k => obtain ⟨cA, e, k⟩ := k; exact ⟨cA, by rw [h]; exact e, k⟩
  | .inl (ty, N, .inr (.inr (.inr (.inr f)))), k => obtain ⟨cA, e, k⟩ := k; exact ⟨cA, by rw [h]; exact e, k⟩
  | .inr (ci, fs), k => obtain ⟨q, e1, e2, cell, e3, k⟩ := k; exact ⟨q, e1, e2, cell, by rw [h]; exact e3, k⟩
theorem gC_lt {D : va_G} {S0 : State} {a : Nat} {c : aC} {H : Heap} (k : gC D S0 a c H) : a < H.size := by
  match c, k with
  | .inl (ty, N, .inl f), k => obtain ⟨cl, ty', e, -⟩ := gI9_rd k; exact (Array.getElem?_eq_some_iff.mp e).1
  | .inl (ty, N, .inr (.inl f)), k => obtain ⟨cA, e, k⟩ := k; exact (Array.getElem?_eq_some_iff.mp e).1
  | .inl (ty, N, .inr (.inr (.inr (.inr f)))), k => obtain ⟨cA, e, k⟩ := k; exact (Array.getElem?_eq_some_iff.mp e).1
  | .inr (ci, fs), k => obtain ⟨q, e1, e2, ⟨cell, e3, -⟩⟩ := k; exact (Array.getElem?_eq_some_iff.mp e3).1
/-- the relation of the abstract heap to the machine's -/
def gR (D : va_G) (S0 : State) (g0 : Nat × Nat) (H : aH) (Hr : Heap) : Prop :=
  Hr.size = H.2.1 ∧ (∀ a c, H.1 a = some c → gC D S0 a c Hr) ∧ (∀ a c, H.1 a = some c → roC c ∨ S0.heap.size ≤ a) ∧ S0.heap.size ≤ Hr.size ∧ (∀ q : Nat, q < S0.heap.size → Hr[q]? = S0.heap[q]?) ∧ H.2.2.2 = g0
theorem gR_put {D : va_G} {S0 : State} {g0 : Nat × Nat} {h : aHf} {r : Nat × Nat × Nat × Nat} {Hr H1 : Heap} {a : Nat} {c : aC} (hR : gR D S0 g0 (h, r) Hr) (hs : H1.size = Hr.size) (ho : ∀ q : Nat, q ≠ a → H1[q]? = Hr[q]?) (hc : gC D S0 a c H1) (ha : S0.heap.size ≤ a) : gR D S0 g0 (aup h a c, r) H1 := by
  obtain ⟨r1, r2, r3, r4, r5, r6⟩ := hR
  refine ⟨hs.trans r1, fun b e hb => ?_, fun b e hb => ?_, by rw [hs]; exact r4, fun q hq => ?_, r6⟩
  · have hb : aup h a c b = some e := hb
    by_cases hab : b = a
    · subst hab
      rw [aup_s] at hb
      cases hb
      exact hc
    · rw [aup_n hab] at hb
      exact gC_keep (ho b hab) (r2 b e hb)
  · have hb : aup h a c b = some e := hb
    by_cases hab : b = a
    · subst hab; exact Or.inr ha
    · rw [aup_n hab] at hb
      exact r3 b e hb
  · rw [ho q (by omega)]; exact r5 q hq
theorem gR_new {D : va_G} {S0 : State} {g0 : Nat × Nat} {h : aHf} {n w s : Nat} {g : Nat × Nat} {Hr H1 : Heap} {c : aC} (hR : gR D S0 g0 (h, n, w, g) Hr) (hs : H1.size = n + 1) (ho : ∀ q : Nat, q < n → H1[q]? = Hr[q]?) (hc : gC D S0 n c H1) : gR D S0 g0 (aup h n c, n + 1, s, g) H1 := by
  obtain ⟨r1, r2, r3, r4, r5, r6⟩ := hR
  have r1 : Hr.size = n := r1
  refine ⟨hs, fun b e hb => ?_, fun b e hb => ?_, by omega, fun q hq => ?_, r6⟩
  · have hb : aup h n c b = some e := hb
    by_cases hab : b = n
    · subst hab
      rw [aup_s] at hb
      cases hb
      exact hc
    · rw [aup_n hab] at hb
      have := gC_lt (r2 b e hb)
      exact gC_keep (ho b (by omega)) (r2 b e hb)
  · have hb : aup h n c b = some e := hb
    by_cases hab : b = n
    · subst hab; exact Or.inr (by omega)
    · rw [aup_n hab] at hb
      exact r3 b e hb
  · rw [ho q (by omega)]; exact r5 q hq
theorem gR_same {D : va_G} {S0 : State} {g0 : Nat × Nat} {h : aHf} {n w s m : Nat} {g : Nat × Nat} {Hr H1 : Heap} (hR : gR D S0 g0 (h, n, w, g) Hr) (hs : H1.size = m) (hn : n ≤ m) (ho : ∀ q : Nat, q < n → H1[q]? = Hr[q]?) : gR D S0 g0 (h, m, s, g) H1 := by
  obtain ⟨r1, r2, r3, r4, r5, r6⟩ := hR
  have r1 : Hr.size = n := r1
  refine ⟨hs, fun b e hb => ?_, r3, by omega, fun q hq => ?_, r6⟩
  · have := gC_lt (r2 b e hb)
    exact gC_keep (ho b (by omega)) (r2 b e hb)
  · rw [ho q (by omega)]; exact r5 q hq
/-! locals -/
def LR (nL : Nat) (ls : aLs) (lsr : Array Slot) : Prop := ls.length = nL ∧ ∃ lv, lv_has lsr nL lv ∧ ∀ i v, ls[i]? = some (some v) → (i, v) ∈ lv
theorem LR_ld {nL : Nat} {ls : aLs} {lsr : Array Slot} {k : Nat} {v : Value} (h : LR nL ls lsr) (hl : ldL ls k = some v) : lsr[k]? = some (.val v) := by
  obtain ⟨-, lv, h1, h2⟩ := h
  unfold ldL at hl
  split at hl
  next u hu =>
    cases hl
    exact h1.2.2 (k, v) (h2 k v hu)
  next => cases hl
theorem LR_size {nL : Nat} {ls : aLs} {lsr : Array Slot} (h : LR nL ls lsr) : lsr.size = nL := by
  obtain ⟨-, lv, h1, h2⟩ := h
  exact h1.1
theorem kl_some {x : Option Value} {v : Value} (h : klL x = some v) : x = some v ∧ v.category = 1 := by
  match x, h with
  | some (.int _), h => cases h; exact ⟨rfl, rfl⟩
  | some (.float _), h => cases h; exact ⟨rfl, rfl⟩
  | some .null, h => cases h; exact ⟨rfl, rfl⟩
  | some (.ref _), h => cases h; exact ⟨rfl, rfl⟩
  | some (.retAddr _), h => cases h; exact ⟨rfl, rfl⟩
theorem klA_at {ls : aLs} {k i : Nat} {v : Value} (h : (klA ls k)[i]? = some (some v)) : ls[i]? = some (some v) ∧ (i + 1 = k → v.category = 1) := by
  cases k with
  | zero => exact ⟨h, fun e => by omega⟩
  | succ j =>
    have h : (ls.modify j klL)[i]? = some (some v) := h
    rw [List.getElem?_modify] at h
    cases hx : ls[i]? with
    | none => rw [hx] at h; cases h
    | some x =>
      rw [hx] at h
      have h' : (if j = i then klL x else x) = some v := Option.some.inj h
      by_cases e : j = i
      · subst e
        rw [if_pos rfl] at h'
        obtain ⟨h1, h2⟩ := kl_some h'
        exact ⟨by rw [h1], fun _ => h2⟩
      · rw [if_neg e] at h'
        exact ⟨by rw [h'], fun q => by omega⟩
theorem klA_len {ls : aLs} {k : Nat} : (klA ls k).length = ls.length := by
  cases k with
  | zero => rfl
  | succ j => exact List.length_modify ..
theorem LR_st {nL : Nat} {ls ls' : aLs} {lsr : Array Slot} {k : Nat} {v : Value} (h : LR nL ls lsr) (hs : stL ls k v = some ls') : (v.category = 1 → k < nL ∧ ∀ lv lsr', lv_has lsr nL lv → (∀ i u, ls[i]? = some (some u) → (i, u) ∈ lv) → lv_has lsr' nL ((k, v) :: lv.filter (fun q => !(q.1 == k) && !(q.1 + 1 == k && q.2.category == 2))) → LR nL ls' lsr')
    ∧ (v.category = 2 → k + 1 < nL ∧ ∀ lv lsr', lv_has lsr nL lv → (∀ i u, ls[i]? = some (some u) → (i, u) ∈ lv) → lv_has lsr' nL ((k, v) :: lv.filter (fun q => !(q.1 == k) && (!(q.1 == k + 1) && !(q.1 + 1 == k && q.2.category == 2)))) → LR nL ls' lsr') := by
  obtain ⟨hlen, -⟩ := h
  unfold stL at hs
  constructor
  · intro hc
    rw [if_neg (by omega)] at hs
    split at hs
    next hk =>
      cases hs
      refine ⟨by omega, fun lv lsr' _ hin hl => ⟨by unfold stL1; rw [List.length_set, klA_len]; exact hlen, _, hl, fun i u hu => ?_⟩⟩
      unfold stL1 at hu
      by_cases e : k = i
      · subst e
        rw [List.getElem?_set_self (by rw [klA_len]; omega)] at hu
        cases hu
        exact List.mem_cons_self
      · rw [List.getElem?_set_ne e] at hu
        obtain ⟨h1, h2⟩ := klA_at hu
        refine List.mem_cons_of_mem _ (List.mem_filter.mpr ⟨hin i u h1, ?_⟩)
        by_cases e2 : i + 1 = k
        · simp [h2 e2, Ne.symm e]
        · simp [e2, Ne.symm e]
    next => cases hs
  · intro hc
    rw [if_pos hc] at hs
    split at hs
    next hk =>
      cases hs
      refine ⟨by omega, fun lv lsr' _ hin hl => ⟨by unfold stL2; rw [List.length_set, List.length_set, klA_len]; exact hlen, _, hl, fun i u hu => ?_⟩⟩
      unfold stL2 at hu
      by_cases e0 : k + 1 = i
      · subst e0
        rw [List.getElem?_set_self (by rw [List.length_set, klA_len]; omega)] at hu
        cases hu
      · rw [List.getElem?_set_ne e0] at hu
        by_cases e : k = i
        · subst e
          rw [List.getElem?_set_self (by rw [klA_len]; omega)] at hu
          cases hu
          exact List.mem_cons_self
        · rw [List.getElem?_set_ne e] at hu
          obtain ⟨h1, h2⟩ := klA_at hu
          refine List.mem_cons_of_mem _ (List.mem_filter.mpr ⟨hin i u h1, ?_⟩)
          by_cases e2 : i + 1 = k
          · simp [h2 e2, Ne.symm e, Ne.symm e0]
          · simp [e2, Ne.symm e, Ne.symm e0]
    next => cases hs
/-- a local that is forgotten -/
theorem LR_un {nL : Nat} {ls : aLs} {lsr : Array Slot} {k a : Nat} (h : LR nL ls lsr) (hk : k < ls.length) : k < nL ∧ ∀ lv lsr', lv_has lsr nL lv → (∀ i u, ls[i]? = some (some u) → (i, u) ∈ lv) → lv_has lsr' nL ((k, .ref a) :: lv.filter (fun q => !(q.1 == k) && !(q.1 + 1 == k && q.2.category == 2))) → LR nL ((klA ls k).set k none) lsr' := by
  obtain ⟨hlen, -⟩ := h
  refine ⟨by omega, fun lv lsr' _ hin hl => ⟨by rw [List.length_set, klA_len]; exact hlen, _, hl, fun i u hu => ?_⟩⟩
  by_cases e : k = i
  · subst e
    rw [List.getElem?_set_self (by rw [klA_len]; omega)] at hu
    cases hu
  · rw [List.getElem?_set_ne e] at hu
    obtain ⟨h1, h2⟩ := klA_at hu
    refine List.mem_cons_of_mem _ (List.mem_filter.mpr ⟨hin i u h1, ?_⟩)
    by_cases e2 : i + 1 = k
    · simp [h2 e2, Ne.symm e]
    · simp [e2, Ne.symm e]
theorem entA_at : ∀ (vs : List Value) (j i : Nat) (v : Value), (entA vs)[i]? = some (some v) → (j + i, v) ∈ lv_args j vs
  | [], _, i, _, h => by simp [entA] at h
  | u :: vs, j, i, v, h => by
    unfold entA at h
    unfold lv_args
    split at h
    next hc =>
      match i, h with
      | 0, h => cases h; exact List.mem_cons_self
      | 1, h => cases h
      | i + 2, h =>
        have h : (entA vs)[i]? = some (some v) := h
        have := entA_at vs (j + 2) i v h
        rw [if_pos hc]
        refine List.mem_cons_of_mem _ ?_
        have e : j + (i + 2) = j + 2 + i := by omega
        rw [e]; exact this
    next hc =>
      match i, h with
      | 0, h => cases h; exact List.mem_cons_self
      | i + 1, h =>
        have h : (entA vs)[i]? = some (some v) := h
        have := entA_at vs (j + 1) i v h
        rw [if_neg hc]
        refine List.mem_cons_of_mem _ ?_
        have e : j + (i + 1) = j + 1 + i := by omega
        rw [e]; exact this
theorem entA_sl : ∀ vs : List Value, (lg_sl vs).length = (entA vs).length
  | [] => rfl
  | v :: vs => by
    have ih := entA_sl vs
    unfold entA
    cases v <;> simp_all [lg_sl, Value.category]
theorem LR_ent {vs : List Value} {n : Nat} (h : (entA vs).length ≤ n) : LR n (entL vs n) ((lg_sl vs ++ List.replicate (n - (lg_sl vs).length) Slot.unset).toArray) := by
  refine ⟨by unfold entL; simp; omega, _, lv_entry vs (by rw [entA_sl]; exact h), fun i v hv => ?_⟩
  unfold entL at hv
  rw [List.getElem?_append] at hv
  split at hv
  · have := entA_at vs 0 i v hv
    rwa [Nat.zero_add] at this
  · rw [List.getElem?_replicate] at hv
    split at hv <;> cases hv
