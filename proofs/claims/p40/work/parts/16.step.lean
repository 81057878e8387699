/-! ===== one step of the abstract machine is the machine's ===== -/
/-- the library's access to memory: an object from before the start -/
def unsF (_ : State) (_ : Nat × Nat) : Prop := True
/-- what stays of an invocation of method M: the machine, its code, its class, the tables at the law's start S0 -/
def aCx (p : Program) (s : State) (m : MethodId) (meth : Method) (c : Code) (S0 : State) (D : va_G) (g0 : Nat × Nat) (M : Nat) : Prop :=
  p.tables.exec = Jvm.exec ∧ (∀ pc il, mDec M pc = some il → decode c.code pc = .ok il) ∧ c.maxLocals = mML M ∧ (∃ O, aON[mOc M]? = some O ∧ s.vm.findClass O = some m.cls) ∧ S0.WarmedH s.vm ∧ (∃ A0, ∀ w ∈ lw_tbl, w.before A0 S0 = true) ∧
  (∀ (k : Nat) (q : vw_C), aCl[k]? = some q → u_Kn S0 q.1 q.2.1 q.2.2 (D.1 k) (D.2 k)) ∧ meth.name = mNm M ∧
  ((∀ q ∈ aGT, va_Z q.2.2.2.2.1 q.2.2.2.2.2.1 q.2.2.2.2.2.2 (gsV (fun _ => none, 0, 0, g0) q.2.2.1) (fun a => S0.heap.size ≤ a) S0 S0.heap) ∧ unsF S0 g0) ∧
  (∀ ty, ty = FieldType.int ∨ ty = .long → (Jvm.Cond.arrayClass ty) ∈ lw_tbl) ∧ (Jvm.Cond.arrayOver (.object "OvertureDesk$Song")) ∈ lw_tbl ∧ True ∧ S0.vm.Alike s.vm
def Wq (p : Program) (l : Launch) (e : Env) (R : Room) (s : State) (m : MethodId) (args : Array Value) (below : List Frame) (meth : Method) (c : Code) (Q : State → Prop) (S0 : State) (D : va_G) (g0 : Nat × Nat) (nL n0 w0 : Nat) (q : aQ) : Prop :=
  ∀ (Hr : Heap) (lsr : Array Slot) (locs : List Loc), gR D S0 g0 q.2.2.2 Hr → LR nL q.2.1 lsr → (∀ z ∈ locs, S0.heap.size ≤ z.base) → W p l e R s m args below meth c Hr locs (q.2.2.2.2.1 - n0) (q.2.2.2.2.2.1 - w0) Q (F0 m q.1 lsr q.2.2.1)
theorem okT : aCl.all (fun q => (List.range q.2.2).all fun a => (parseFieldDescriptor (q.2.1 a).2.2.1).isSome) = true := by decide +kernel
theorem ldL_at {ls : aLs} {k : Nat} {v : Value} (h : ldL ls k = some v) : ls[k]? = some (some v) := by
  unfold ldL at h
  cases hx : ls[k]? with
  | none => rw [hx] at h; cases h
  | some x =>
    rw [hx] at h
    cases x with
    | none => cases h
    | some u => cases h; rfl
theorem go_inj {pc : Nat} {ls : aLs} {st : List Value} {H : aH} {q : aQ} (h : go pc ls st H = some (.inl q)) : q = (pc, ls, st, H) := by
  unfold go at h
  exact (Sum.inl.inj (Option.some.inj h)).symm
theorem aTg_ok {pc tg : Nat} {o : Int} (h : aTg pc o = some tg) : (pc : Int) + o = (tg : Int) := by
  unfold aTg at h
  split at h
  next hp => cases h; omega
  next => cases h
theorem inB_ok {i : Int32} {N : Nat} (h : inB i N = true) : ¬ (i < 0 ∨ N ≤ i.toNatClampNeg) ∧ i.toNatClampNeg < N := by
  unfold inB at h
  simp only [Bool.and_eq_true, Bool.not_eq_true', decide_eq_false_iff_not, decide_eq_true_eq] at h
  exact ⟨fun q => q.elim h.1 (fun q => by omega), h.2⟩
theorem fitK_ok {tc : Nat} {v : Value} {ty : FieldType} (h : fitK tc v = true) (ht : kdOf ty = tc) : narrow ty v = v ∧ fits ty v = true := by
  subst ht
  cases ty <;> cases v <;> simp_all [kdOf, fitK]
  all_goals first
    | exact ⟨rfl, rfl⟩
    | (rcases h with h | h <;> subst h <;> exact ⟨by decide, by decide⟩)
    | trivial
section
variable {p : Program} {l : Launch} {e : Env} {R : Room} {s : State} {m : MethodId} {args : Array Value} {below : List Frame} {meth : Method} {c : Code} {Q : State → Prop} {S0 : State} {D : va_G} {g0 : Nat × Nat} {M n0 w0 : Nat}
theorem cx_word (C : aCx p s m meth c S0 D g0 M) {w : Jvm.Cond} (hw : w ∈ lw_tbl) (hg : goodWord w = true) (a' : Array Value) (U : State) (hU : S0.WarmedH U.vm) : w.before a' U = true := by
  obtain ⟨-, -, -, -, -, ⟨A0, h⟩, -⟩ := C
  exact word_at hU (good_of_word hg) (h w hw)
theorem cx_tb (C : aCx p s m meth c S0 D g0 M) {j : Nat} {w : Jvm.Cond} (hw : tb j = some w) (hg : goodWord w = true) : w.before args s = true :=
  cx_word C (tb_in hw) hg args s C.2.2.2.2.1
theorem cx_u (C : aCx p s m meth c S0 D g0 M) {k : Nat} {q : vw_C} (hq : aCl[k]? = some q) : ∀ w ∈ u_ws q.1 q.2.1 q.2.2, w.before args s = true := by
  intro w hw
  have h := List.all_eq_true.mp (List.all_eq_true.mp okU _ (List.mem_of_getElem? hq)) w hw
  simp only [Bool.and_eq_true, decide_eq_true_eq] at h
  exact cx_word C h.1 h.2 args s C.2.2.2.2.1
theorem cx_Kn (C : aCx p s m meth c S0 D g0 M) {k : Nat} {q : vw_C} (hq : aCl[k]? = some q) : u_Kn s q.1 q.2.1 q.2.2 (D.1 k) (D.2 k) :=
  u_Kn_moved C.2.2.2.2.2.2.2.2.2.2.2.2 (C.2.2.2.2.2.2.1 k q hq)
theorem cx_ty {k : Nat} {q : vw_C} (hq : aCl[k]? = some q) {x : Nat} (hx : x < q.2.2) : ∃ ty, parseFieldDescriptor (q.2.1 x).2.2.1 = some ty := by
  have h := List.all_eq_true.mp (List.all_eq_true.mp okT _ (List.mem_of_getElem? hq)) x (List.mem_range.mpr hx)
  exact Option.isSome_iff_exists.mp h
theorem cx_ap (C : aCx p s m meth c S0 D g0 M) {k : Nat} {q : vw_C} (hq : aCl[k]? = some q) : ∀ x y, x < q.2.2 → y < q.2.2 → x ≠ y → (D.2 k) x ≠ (D.2 k) y := by
  intro x y hx hy hne
  obtain ⟨hS, -⟩ := cx_Kn C hq
  obtain ⟨_, _, _, fa, hia, ea⟩ := hS x hx
  obtain ⟨_, _, _, fb, hib, eb⟩ := hS y hy
  rw [← ea, ← eb]
  have hw := cx_u (args := #[]) C hq
  have hn := List.all_eq_true.mp (List.all_eq_true.mp (List.all_eq_true.mp okA _ (List.mem_of_getElem? hq)) x (List.mem_range.mpr hx)) y (List.mem_range.mpr hy)
  simp only [Bool.or_eq_true, beq_iff_eq, decide_eq_true_eq, hne, false_or] at hn
  refine u_apart (u_lays hw (fun w h => h) hx) (u_lays hw (fun w h => h) hy) hia hib ?_
  obtain ⟨tx, htx⟩ := cx_ty hq hx
  obtain ⟨ty, hty⟩ := cx_ty hq hy
  rw [(State.fieldFound?_type hia htx).1, (State.fieldFound?_type hib hty).1]
  exact hn

theorem st_iconst (C : aCx p s m meth c S0 D g0 M) {pc : Nat} {ls : aLs} {st : List Value} {H : aH} {q : aQ} {n : Int} (hm : mDec M pc = some (.iconst n, 1)) (h : aS M pc 1 (.iconst n) ls st H = some (.inl q)) (k : Wq p l e R s m args below meth c Q S0 D g0 (mML M) n0 w0 q) : Wq p l e R s m args below meth c Q S0 D g0 (mML M) n0 w0 (pc, ls, st, H) := by
  have hd := C.2.1 pc _ hm
  have hx := C.1
  have h := go_inj (show go _ _ _ _ = _ from h)
  subst h
  intro Hr lsr locs hR hL hl
  exact lv_iconst hx rfl hd rfl (k Hr lsr locs hR hL hl)
theorem st_bipush (C : aCx p s m meth c S0 D g0 M) {pc : Nat} {ls : aLs} {st : List Value} {H : aH} {q : aQ} {n : Int} (hm : mDec M pc = some (.bipush n, 2)) (h : aS M pc 2 (.bipush n) ls st H = some (.inl q)) (k : Wq p l e R s m args below meth c Q S0 D g0 (mML M) n0 w0 q) : Wq p l e R s m args below meth c Q S0 D g0 (mML M) n0 w0 (pc, ls, st, H) := by
  have hd := C.2.1 pc _ hm
  have hx := C.1
  have h := go_inj (show go _ _ _ _ = _ from h)
  subst h
  intro Hr lsr locs hR hL hl
  exact lv_bipush hx rfl hd rfl (k Hr lsr locs hR hL hl)
theorem st_sipush (C : aCx p s m meth c S0 D g0 M) {pc : Nat} {ls : aLs} {st : List Value} {H : aH} {q : aQ} {n : Int} (hm : mDec M pc = some (.sipush n, 3)) (h : aS M pc 3 (.sipush n) ls st H = some (.inl q)) (k : Wq p l e R s m args below meth c Q S0 D g0 (mML M) n0 w0 q) : Wq p l e R s m args below meth c Q S0 D g0 (mML M) n0 w0 (pc, ls, st, H) := by
  have hd := C.2.1 pc _ hm
  have hx := C.1
  have h := go_inj (show go _ _ _ _ = _ from h)
  subst h
  intro Hr lsr locs hR hL hl
  exact lv_sipush hx rfl hd rfl (k Hr lsr locs hR hL hl)
theorem st_lconst (C : aCx p s m meth c S0 D g0 M) {pc : Nat} {ls : aLs} {st : List Value} {H : aH} {q : aQ} {n : Fin 2} (hm : mDec M pc = some (.lconst n, 1)) (h : aS M pc 1 (.lconst n) ls st H = some (.inl q)) (k : Wq p l e R s m args below meth c Q S0 D g0 (mML M) n0 w0 q) : Wq p l e R s m args below meth c Q S0 D g0 (mML M) n0 w0 (pc, ls, st, H) := by
  have hd := C.2.1 pc _ hm
  have hx := C.1
  have h := go_inj (show go _ _ _ _ = _ from h)
  subst h
  intro Hr lsr locs hR hL hl
  exact lv_lconst hx rfl hd rfl (k Hr lsr locs hR hL hl)
theorem st_null (C : aCx p s m meth c S0 D g0 M) {pc : Nat} {ls : aLs} {st : List Value} {H : aH} {q : aQ}  (hm : mDec M pc = some (.aconst_null, 1)) (h : aS M pc 1 .aconst_null ls st H = some (.inl q)) (k : Wq p l e R s m args below meth c Q S0 D g0 (mML M) n0 w0 q) : Wq p l e R s m args below meth c Q S0 D g0 (mML M) n0 w0 (pc, ls, st, H) := by
  have hd := C.2.1 pc _ hm
  have hx := C.1
  have h := go_inj (show go _ _ _ _ = _ from h)
  subst h
  intro Hr lsr locs hR hL hl
  exact lv_null hx rfl hd (k Hr lsr locs hR hL hl)
theorem st_dconst (C : aCx p s m meth c S0 D g0 M) {pc : Nat} {ls : aLs} {st : List Value} {H : aH} {q : aQ} {n : Fin 2} (hm : mDec M pc = some (.dconst n, 1)) (h : aS M pc 1 (.dconst n) ls st H = some (.inl q)) (k : Wq p l e R s m args below meth c Q S0 D g0 (mML M) n0 w0 q) : Wq p l e R s m args below meth c Q S0 D g0 (mML M) n0 w0 (pc, ls, st, H) := by
  have hd := C.2.1 pc _ hm
  have hx := C.1
  have h : (if n = 0 then go _ _ _ _ else none) = _ := h
  split at h
  next hn =>
    subst hn
    have h := go_inj h
    subst h
    intro Hr lsr locs hR hL hl
    exact lv_dconst0 hx rfl hd (k Hr lsr locs hR hL hl)
  next => cases h
theorem st_ldc (C : aCx p s m meth c S0 D g0 M) {pc : Nat} {ls : aLs} {st : List Value} {H : aH} {q : aQ} {j : Nat} (hm : mDec M pc = some (.ldc j, 2)) (h : aS M pc 2 (.ldc j) ls st H = some (.inl q)) (k : Wq p l e R s m args below meth c Q S0 D g0 (mML M) n0 w0 q) : Wq p l e R s m args below meth c Q S0 D g0 (mML M) n0 w0 (pc, ls, st, H) := by
  have hd := C.2.1 pc _ hm
  have hx := C.1
  have h : (fnd3 aIT (mOc M) j).bind _ = _ := h
  cases hf : fnd3 aIT (mOc M) j with
  | none => rw [hf] at h; cases h
  | some v =>
    rw [hf] at h
    have h := go_inj (show go _ _ _ _ = _ from h)
    subst h
    obtain ⟨v, j9⟩ := v
    have hk := List.all_eq_true.mp okI _ (fnd3_mem hf)
    obtain ⟨O, hO, hown⟩ := C.2.2.2.1
    simp only [chkI, hO, decide_eq_true_eq] at hk
    intro Hr lsr locs hR hL hl
    exact lv_ldc hx rfl hown (cx_tb C hk rfl) hd (k Hr lsr locs hR hL hl)
theorem st_ldcw (C : aCx p s m meth c S0 D g0 M) {pc : Nat} {ls : aLs} {st : List Value} {H : aH} {q : aQ} {j : Nat} (hm : mDec M pc = some (.ldc_w j, 3)) (h : aS M pc 3 (.ldc_w j) ls st H = some (.inl q)) (k : Wq p l e R s m args below meth c Q S0 D g0 (mML M) n0 w0 q) : Wq p l e R s m args below meth c Q S0 D g0 (mML M) n0 w0 (pc, ls, st, H) := by
  have hd := C.2.1 pc _ hm
  have hx := C.1
  have h : (fnd3 aIT (mOc M) j).bind _ = _ := h
  cases hf : fnd3 aIT (mOc M) j with
  | none => rw [hf] at h; cases h
  | some v =>
    rw [hf] at h
    have h := go_inj (show go _ _ _ _ = _ from h)
    subst h
    obtain ⟨v, j9⟩ := v
    have hk := List.all_eq_true.mp okI _ (fnd3_mem hf)
    obtain ⟨O, hO, hown⟩ := C.2.2.2.1
    simp only [chkI, hO, decide_eq_true_eq] at hk
    intro Hr lsr locs hR hL hl
    exact lv_ldcw hx rfl hown (cx_tb C hk rfl) hd (k Hr lsr locs hR hL hl)
theorem st_ldc2 (C : aCx p s m meth c S0 D g0 M) {pc : Nat} {ls : aLs} {st : List Value} {H : aH} {q : aQ} {j : Nat} (hm : mDec M pc = some (.ldc2_w j, 3)) (h : aS M pc 3 (.ldc2_w j) ls st H = some (.inl q)) (k : Wq p l e R s m args below meth c Q S0 D g0 (mML M) n0 w0 q) : Wq p l e R s m args below meth c Q S0 D g0 (mML M) n0 w0 (pc, ls, st, H) := by
  have hd := C.2.1 pc _ hm
  have hx := C.1
  have h : (fnd3 aLT (mOc M) j).bind _ = _ := h
  cases hf : fnd3 aLT (mOc M) j with
  | none => rw [hf] at h; cases h
  | some v =>
    rw [hf] at h
    have h := go_inj (show go _ _ _ _ = _ from h)
    subst h
    obtain ⟨v, j9⟩ := v
    have hk := List.all_eq_true.mp okL _ (fnd3_mem hf)
    obtain ⟨O, hO, hown⟩ := C.2.2.2.1
    simp only [chkL, hO, decide_eq_true_eq] at hk
    intro Hr lsr locs hR hL hl
    exact lv_ldc2 hx rfl hown (cx_tb C hk rfl) hd (k Hr lsr locs hR hL hl)
theorem st_iload (C : aCx p s m meth c S0 D g0 M) {pc : Nat} {ls : aLs} {st : List Value} {H : aH} {q : aQ} {j : Nat} (hm : mDec M pc = some (.iload j, 2)) (h : aS M pc 2 (.iload j) ls st H = some (.inl q)) (k : Wq p l e R s m args below meth c Q S0 D g0 (mML M) n0 w0 q) : Wq p l e R s m args below meth c Q S0 D g0 (mML M) n0 w0 (pc, ls, st, H) := by
  have hd := C.2.1 pc _ hm
  have hx := C.1
  have h : (ldL ls j).bind _ = _ := h
  cases hf : ldL ls j with
  | none => rw [hf] at h; cases h
  | some v =>
    rw [hf] at h
    cases v with
    | int x =>
      have h := go_inj (show go _ _ _ _ = _ from h)
      subst h
      intro Hr lsr locs hR hL hl
      exact lv_iload hx rfl hd (LR_ld hL hf) (k Hr lsr locs hR hL hl)
    | _ => cases h
theorem st_lload (C : aCx p s m meth c S0 D g0 M) {pc : Nat} {ls : aLs} {st : List Value} {H : aH} {q : aQ} {j : Nat} (hm : mDec M pc = some (.lload j, 2)) (h : aS M pc 2 (.lload j) ls st H = some (.inl q)) (k : Wq p l e R s m args below meth c Q S0 D g0 (mML M) n0 w0 q) : Wq p l e R s m args below meth c Q S0 D g0 (mML M) n0 w0 (pc, ls, st, H) := by
  have hd := C.2.1 pc _ hm
  have hx := C.1
  have h : (ldL ls j).bind _ = _ := h
  cases hf : ldL ls j with
  | none => rw [hf] at h; cases h
  | some v =>
    rw [hf] at h
    cases v with
    | long x =>
      have h := go_inj (show go _ _ _ _ = _ from h)
      subst h
      intro Hr lsr locs hR hL hl
      exact lv_lload hx rfl hd (LR_ld hL hf) (k Hr lsr locs hR hL hl)
    | _ => cases h
theorem st_dload (C : aCx p s m meth c S0 D g0 M) {pc : Nat} {ls : aLs} {st : List Value} {H : aH} {q : aQ} {j : Nat} (hm : mDec M pc = some (.dload j, 2)) (h : aS M pc 2 (.dload j) ls st H = some (.inl q)) (k : Wq p l e R s m args below meth c Q S0 D g0 (mML M) n0 w0 q) : Wq p l e R s m args below meth c Q S0 D g0 (mML M) n0 w0 (pc, ls, st, H) := by
  have hd := C.2.1 pc _ hm
  have hx := C.1
  have h : (ldL ls j).bind _ = _ := h
  cases hf : ldL ls j with
  | none => rw [hf] at h; cases h
  | some v =>
    rw [hf] at h
    cases v with
    | double x =>
      have h := go_inj (show go _ _ _ _ = _ from h)
      subst h
      intro Hr lsr locs hR hL hl
      exact lv_dload hx rfl hd (LR_ld hL hf) (k Hr lsr locs hR hL hl)
    | _ => cases h
theorem st_iloadn (C : aCx p s m meth c S0 D g0 M) {pc : Nat} {ls : aLs} {st : List Value} {H : aH} {q : aQ} {j : Fin 4} (hm : mDec M pc = some (.iload_n j, 1)) (h : aS M pc 1 (.iload_n j) ls st H = some (.inl q)) (k : Wq p l e R s m args below meth c Q S0 D g0 (mML M) n0 w0 q) : Wq p l e R s m args below meth c Q S0 D g0 (mML M) n0 w0 (pc, ls, st, H) := by
  have hd := C.2.1 pc _ hm
  have hx := C.1
  have h : (ldL ls j).bind _ = _ := h
  cases hf : ldL ls j with
  | none => rw [hf] at h; cases h
  | some v =>
    rw [hf] at h
    cases v with
    | int x =>
      have h := go_inj (show go _ _ _ _ = _ from h)
      subst h
      intro Hr lsr locs hR hL hl
      exact lv_iload_n hx rfl hd rfl (LR_ld hL hf) (k Hr lsr locs hR hL hl)
    | _ => cases h
theorem st_lloadn (C : aCx p s m meth c S0 D g0 M) {pc : Nat} {ls : aLs} {st : List Value} {H : aH} {q : aQ} {j : Fin 4} (hm : mDec M pc = some (.lload_n j, 1)) (h : aS M pc 1 (.lload_n j) ls st H = some (.inl q)) (k : Wq p l e R s m args below meth c Q S0 D g0 (mML M) n0 w0 q) : Wq p l e R s m args below meth c Q S0 D g0 (mML M) n0 w0 (pc, ls, st, H) := by
  have hd := C.2.1 pc _ hm
  have hx := C.1
  have h : (ldL ls j).bind _ = _ := h
  cases hf : ldL ls j with
  | none => rw [hf] at h; cases h
  | some v =>
    rw [hf] at h
    cases v with
    | long x =>
      have h := go_inj (show go _ _ _ _ = _ from h)
      subst h
      intro Hr lsr locs hR hL hl
      exact lv_lload_n hx rfl hd rfl (LR_ld hL hf) (k Hr lsr locs hR hL hl)
    | _ => cases h
theorem st_dloadn (C : aCx p s m meth c S0 D g0 M) {pc : Nat} {ls : aLs} {st : List Value} {H : aH} {q : aQ} {j : Fin 4} (hm : mDec M pc = some (.dload_n j, 1)) (h : aS M pc 1 (.dload_n j) ls st H = some (.inl q)) (k : Wq p l e R s m args below meth c Q S0 D g0 (mML M) n0 w0 q) : Wq p l e R s m args below meth c Q S0 D g0 (mML M) n0 w0 (pc, ls, st, H) := by
  have hd := C.2.1 pc _ hm
  have hx := C.1
  have h : (ldL ls j).bind _ = _ := h
  cases hf : ldL ls j with
  | none => rw [hf] at h; cases h
  | some v =>
    rw [hf] at h
    cases v with
    | double x =>
      have h := go_inj (show go _ _ _ _ = _ from h)
      subst h
      intro Hr lsr locs hR hL hl
      exact lv_dload_n hx rfl hd rfl (LR_ld hL hf) (k Hr lsr locs hR hL hl)
    | _ => cases h
theorem st_aload (C : aCx p s m meth c S0 D g0 M) {pc : Nat} {ls : aLs} {st : List Value} {H : aH} {q : aQ} {j : Nat} (hm : mDec M pc = some (.aload j, 2)) (h : aS M pc 2 (.aload j) ls st H = some (.inl q)) (k : Wq p l e R s m args below meth c Q S0 D g0 (mML M) n0 w0 q) : Wq p l e R s m args below meth c Q S0 D g0 (mML M) n0 w0 (pc, ls, st, H) := by
  have hd := C.2.1 pc _ hm
  have hx := C.1
  have h : (ldL ls j).bind _ = _ := h
  cases hf : ldL ls j with
  | none => rw [hf] at h; cases h
  | some v =>
    rw [hf] at h
    cases v with
    | ref x =>
      have h := go_inj (show go _ _ _ _ = _ from h)
      subst h
      intro Hr lsr locs hR hL hl
      exact lv_aload hx rfl hd (LR_ld hL hf) (k Hr lsr locs hR hL hl)
    | null =>
      have h := go_inj (show go _ _ _ _ = _ from h)
      subst h
      intro Hr lsr locs hR hL hl
      exact lv_aloadN hx rfl hd (LR_ld hL hf) (k Hr lsr locs hR hL hl)
    | _ => cases h
theorem st_aloadn (C : aCx p s m meth c S0 D g0 M) {pc : Nat} {ls : aLs} {st : List Value} {H : aH} {q : aQ} {j : Fin 4} (hm : mDec M pc = some (.aload_n j, 1)) (h : aS M pc 1 (.aload_n j) ls st H = some (.inl q)) (k : Wq p l e R s m args below meth c Q S0 D g0 (mML M) n0 w0 q) : Wq p l e R s m args below meth c Q S0 D g0 (mML M) n0 w0 (pc, ls, st, H) := by
  have hd := C.2.1 pc _ hm
  have hx := C.1
  have h : (ldL ls j).bind _ = _ := h
  cases hf : ldL ls j with
  | none => rw [hf] at h; cases h
  | some v =>
    rw [hf] at h
    cases v with
    | ref x =>
      have h := go_inj (show go _ _ _ _ = _ from h)
      subst h
      intro Hr lsr locs hR hL hl
      exact lv_aload_n hx rfl hd rfl (LR_ld hL hf) (k Hr lsr locs hR hL hl)
    | null =>
      have h := go_inj (show go _ _ _ _ = _ from h)
      subst h
      intro Hr lsr locs hR hL hl
      exact lv_aload_nN hx rfl hd rfl (LR_ld hL hf) (k Hr lsr locs hR hL hl)
    | _ => cases h
theorem st_istore (C : aCx p s m meth c S0 D g0 M) {pc : Nat} {ls : aLs} {st : List Value} {H : aH} {q : aQ} {j : Nat} (hm : mDec M pc = some (.istore j, 2)) (h : aS M pc 2 (.istore j) ls st H = some (.inl q)) (k : Wq p l e R s m args below meth c Q S0 D g0 (mML M) n0 w0 q) : Wq p l e R s m args below meth c Q S0 D g0 (mML M) n0 w0 (pc, ls, st, H) := by
  have hd := C.2.1 pc _ hm
  have hx := C.1
  cases st with
  | nil => cases h
  | cons v t =>
    cases v with
    | int x =>
      have h : (stL ls j (.int x)).bind _ = _ := h
      cases hf : stL ls j (.int x) with
      | none => rw [hf] at h; cases h
      | some ls' =>
        rw [hf] at h
        have h := go_inj (show go _ _ _ _ = _ from h)
        subst h
        intro Hr lsr locs hR hL hl
        obtain ⟨hk, hkk⟩ := (LR_st hL hf).1 rfl
        obtain ⟨hle, lv, hlv, hin⟩ := id hL
        exact lv_istore hx rfl hd hlv hk rfl (fun ls' hl' => k Hr ls' locs hR (hkk lv ls' hlv hin hl') hl)
    | _ => cases h
theorem st_istoren (C : aCx p s m meth c S0 D g0 M) {pc : Nat} {ls : aLs} {st : List Value} {H : aH} {q : aQ} {j : Fin 4} (hm : mDec M pc = some (.istore_n j, 1)) (h : aS M pc 1 (.istore_n j) ls st H = some (.inl q)) (k : Wq p l e R s m args below meth c Q S0 D g0 (mML M) n0 w0 q) : Wq p l e R s m args below meth c Q S0 D g0 (mML M) n0 w0 (pc, ls, st, H) := by
  have hd := C.2.1 pc _ hm
  have hx := C.1
  cases st with
  | nil => cases h
  | cons v t =>
    cases v with
    | int x =>
      have h : (stL ls j (.int x)).bind _ = _ := h
      cases hf : stL ls j (.int x) with
      | none => rw [hf] at h; cases h
      | some ls' =>
        rw [hf] at h
        have h := go_inj (show go _ _ _ _ = _ from h)
        subst h
        intro Hr lsr locs hR hL hl
        obtain ⟨hk, hkk⟩ := (LR_st hL hf).1 rfl
        obtain ⟨hle, lv, hlv, hin⟩ := id hL
        exact lv_istore_n hx rfl hd rfl hlv hk rfl (fun ls' hl' => k Hr ls' locs hR (hkk lv ls' hlv hin hl') hl)
    | _ => cases h
theorem st_lstore (C : aCx p s m meth c S0 D g0 M) {pc : Nat} {ls : aLs} {st : List Value} {H : aH} {q : aQ} {j : Nat} (hm : mDec M pc = some (.lstore j, 2)) (h : aS M pc 2 (.lstore j) ls st H = some (.inl q)) (k : Wq p l e R s m args below meth c Q S0 D g0 (mML M) n0 w0 q) : Wq p l e R s m args below meth c Q S0 D g0 (mML M) n0 w0 (pc, ls, st, H) := by
  have hd := C.2.1 pc _ hm
  have hx := C.1
  cases st with
  | nil => cases h
  | cons v t =>
    cases v with
    | long x =>
      have h : (stL ls j (.long x)).bind _ = _ := h
      cases hf : stL ls j (.long x) with
      | none => rw [hf] at h; cases h
      | some ls' =>
        rw [hf] at h
        have h := go_inj (show go _ _ _ _ = _ from h)
        subst h
        intro Hr lsr locs hR hL hl
        obtain ⟨hk, hkk⟩ := (LR_st hL hf).2 rfl
        obtain ⟨hle, lv, hlv, hin⟩ := id hL
        exact lv_lstore hx rfl hd hlv hk rfl (fun ls' hl' => k Hr ls' locs hR (hkk lv ls' hlv hin hl') hl)
    | _ => cases h
theorem st_lstoren (C : aCx p s m meth c S0 D g0 M) {pc : Nat} {ls : aLs} {st : List Value} {H : aH} {q : aQ} {j : Fin 4} (hm : mDec M pc = some (.lstore_n j, 1)) (h : aS M pc 1 (.lstore_n j) ls st H = some (.inl q)) (k : Wq p l e R s m args below meth c Q S0 D g0 (mML M) n0 w0 q) : Wq p l e R s m args below meth c Q S0 D g0 (mML M) n0 w0 (pc, ls, st, H) := by
  have hd := C.2.1 pc _ hm
  have hx := C.1
  cases st with
  | nil => cases h
  | cons v t =>
    cases v with
    | long x =>
      have h : (stL ls j (.long x)).bind _ = _ := h
      cases hf : stL ls j (.long x) with
      | none => rw [hf] at h; cases h
      | some ls' =>
        rw [hf] at h
        have h := go_inj (show go _ _ _ _ = _ from h)
        subst h
        intro Hr lsr locs hR hL hl
        obtain ⟨hk, hkk⟩ := (LR_st hL hf).2 rfl
        obtain ⟨hle, lv, hlv, hin⟩ := id hL
        exact lv_lstore_n hx rfl hd rfl hlv hk rfl (fun ls' hl' => k Hr ls' locs hR (hkk lv ls' hlv hin hl') hl)
    | _ => cases h
theorem st_dstore (C : aCx p s m meth c S0 D g0 M) {pc : Nat} {ls : aLs} {st : List Value} {H : aH} {q : aQ} {j : Nat} (hm : mDec M pc = some (.dstore j, 2)) (h : aS M pc 2 (.dstore j) ls st H = some (.inl q)) (k : Wq p l e R s m args below meth c Q S0 D g0 (mML M) n0 w0 q) : Wq p l e R s m args below meth c Q S0 D g0 (mML M) n0 w0 (pc, ls, st, H) := by
  have hd := C.2.1 pc _ hm
  have hx := C.1
  cases st with
  | nil => cases h
  | cons v t =>
    cases v with
    | double x =>
      have h : (stL ls j (.double x)).bind _ = _ := h
      cases hf : stL ls j (.double x) with
      | none => rw [hf] at h; cases h
      | some ls' =>
        rw [hf] at h
        have h := go_inj (show go _ _ _ _ = _ from h)
        subst h
        intro Hr lsr locs hR hL hl
        obtain ⟨hk, hkk⟩ := (LR_st hL hf).2 rfl
        obtain ⟨hle, lv, hlv, hin⟩ := id hL
        exact lv_dstore hx rfl hd hlv hk rfl (fun ls' hl' => k Hr ls' locs hR (hkk lv ls' hlv hin hl') hl)
    | _ => cases h
theorem st_dstoren (C : aCx p s m meth c S0 D g0 M) {pc : Nat} {ls : aLs} {st : List Value} {H : aH} {q : aQ} {j : Fin 4} (hm : mDec M pc = some (.dstore_n j, 1)) (h : aS M pc 1 (.dstore_n j) ls st H = some (.inl q)) (k : Wq p l e R s m args below meth c Q S0 D g0 (mML M) n0 w0 q) : Wq p l e R s m args below meth c Q S0 D g0 (mML M) n0 w0 (pc, ls, st, H) := by
  have hd := C.2.1 pc _ hm
  have hx := C.1
  cases st with
  | nil => cases h
  | cons v t =>
    cases v with
    | double x =>
      have h : (stL ls j (.double x)).bind _ = _ := h
      cases hf : stL ls j (.double x) with
      | none => rw [hf] at h; cases h
      | some ls' =>
        rw [hf] at h
        have h := go_inj (show go _ _ _ _ = _ from h)
        subst h
        intro Hr lsr locs hR hL hl
        obtain ⟨hk, hkk⟩ := (LR_st hL hf).2 rfl
        obtain ⟨hle, lv, hlv, hin⟩ := id hL
        exact lv_dstore_n hx rfl hd rfl hlv hk rfl (fun ls' hl' => k Hr ls' locs hR (hkk lv ls' hlv hin hl') hl)
    | _ => cases h
theorem st_astore (C : aCx p s m meth c S0 D g0 M) {pc : Nat} {ls : aLs} {st : List Value} {H : aH} {q : aQ} {j : Nat} (hm : mDec M pc = some (.astore j, 2)) (h : aS M pc 2 (.astore j) ls st H = some (.inl q)) (k : Wq p l e R s m args below meth c Q S0 D g0 (mML M) n0 w0 q) : Wq p l e R s m args below meth c Q S0 D g0 (mML M) n0 w0 (pc, ls, st, H) := by
  have hd := C.2.1 pc _ hm
  have hx := C.1
  cases st with
  | nil => cases h
  | cons v t =>
    cases v with
    | ref x =>
      have h : (stL ls j (.ref x)).bind _ = _ := h
      cases hf : stL ls j (.ref x) with
      | none => rw [hf] at h; cases h
      | some ls' =>
        rw [hf] at h
        have h := go_inj (show go _ _ _ _ = _ from h)
        subst h
        intro Hr lsr locs hR hL hl
        obtain ⟨hk, hkk⟩ := (LR_st hL hf).1 rfl
        obtain ⟨hle, lv, hlv, hin⟩ := id hL
        exact lv_astore hx rfl hd hlv hk rfl (fun ls' hl' => k Hr ls' locs hR (hkk lv ls' hlv hin hl') hl)
    | null =>
      have h : (stL ls j .null).bind _ = _ := h
      cases hf : stL ls j .null with
      | none => rw [hf] at h; cases h
      | some ls' =>
        rw [hf] at h
        have h := go_inj (show go _ _ _ _ = _ from h)
        subst h
        intro Hr lsr locs hR hL hl
        obtain ⟨hk, hkk⟩ := (LR_st hL hf).1 rfl
        obtain ⟨hle, lv, hlv, hin⟩ := id hL
        exact lv_astoreN hx rfl hd hlv hk rfl (fun ls' hl' => k Hr ls' locs hR (hkk lv ls' hlv hin hl') hl)
    | _ => cases h
theorem st_astoren (C : aCx p s m meth c S0 D g0 M) {pc : Nat} {ls : aLs} {st : List Value} {H : aH} {q : aQ} {j : Fin 4} (hm : mDec M pc = some (.astore_n j, 1)) (h : aS M pc 1 (.astore_n j) ls st H = some (.inl q)) (k : Wq p l e R s m args below meth c Q S0 D g0 (mML M) n0 w0 q) : Wq p l e R s m args below meth c Q S0 D g0 (mML M) n0 w0 (pc, ls, st, H) := by
  have hd := C.2.1 pc _ hm
  have hx := C.1
  cases st with
  | nil => cases h
  | cons v t =>
    cases v with
    | ref x =>
      have h : (stL ls j (.ref x)).bind _ = _ := h
      cases hf : stL ls j (.ref x) with
      | none => rw [hf] at h; cases h
      | some ls' =>
        rw [hf] at h
        have h := go_inj (show go _ _ _ _ = _ from h)
        subst h
        intro Hr lsr locs hR hL hl
        obtain ⟨hk, hkk⟩ := (LR_st hL hf).1 rfl
        obtain ⟨hle, lv, hlv, hin⟩ := id hL
        exact lv_astore_n hx rfl hd rfl hlv hk rfl (fun ls' hl' => k Hr ls' locs hR (hkk lv ls' hlv hin hl') hl)
    | null =>
      have h : (stL ls j .null).bind _ = _ := h
      cases hf : stL ls j .null with
      | none => rw [hf] at h; cases h
      | some ls' =>
        rw [hf] at h
        have h := go_inj (show go _ _ _ _ = _ from h)
        subst h
        intro Hr lsr locs hR hL hl
        obtain ⟨hk, hkk⟩ := (LR_st hL hf).1 rfl
        obtain ⟨hle, lv, hlv, hin⟩ := id hL
        exact lv_astore_nN hx rfl hd rfl hlv hk rfl (fun ls' hl' => k Hr ls' locs hR (hkk lv ls' hlv hin hl') hl)
    | _ => cases h
theorem st_iinc (C : aCx p s m meth c S0 D g0 M) {pc : Nat} {ls : aLs} {st : List Value} {H : aH} {q : aQ} {j : Nat} {n : Int} (hm : mDec M pc = some (.iinc j n, 3)) (h : aS M pc 3 (.iinc j n) ls st H = some (.inl q)) (k : Wq p l e R s m args below meth c Q S0 D g0 (mML M) n0 w0 q) : Wq p l e R s m args below meth c Q S0 D g0 (mML M) n0 w0 (pc, ls, st, H) := by
  have hd := C.2.1 pc _ hm
  have hx := C.1
  have h : (match ldL ls j with | some (.int x) => (stL ls j (.int (x + Int32.ofInt n))).bind _ | _ => none) = _ := h
  cases hf : ldL ls j with
  | none => rw [hf] at h; cases h
  | some v =>
    rw [hf] at h
    cases v with
    | int x =>
      have h : (stL ls j (.int (x + Int32.ofInt n))).bind _ = _ := h
      cases hg : stL ls j (.int (x + Int32.ofInt n)) with
      | none => rw [hg] at h; cases h
      | some ls' =>
        rw [hg] at h
        have h := go_inj (show go _ _ _ _ = _ from h)
        subst h
        intro Hr lsr locs hR hL hl
        obtain ⟨hk, hkk⟩ := (LR_st hL hg).1 rfl
        obtain ⟨hle, lv, hlv, hin⟩ := id hL
        have hmem := hin j (.int x) (ldL_at hf)
        obtain ⟨a, ha, hae⟩ := List.getElem_of_mem hmem
        exact lv_iinc hx rfl hd hlv (k := a) (by rw [List.getElem?_eq_getElem ha, hae]) rfl hk rfl (fun ls' hl' => k Hr ls' locs hR (hkk lv ls' hlv hin hl') hl)
    | _ => cases h
theorem st_iadd (C : aCx p s m meth c S0 D g0 M) {pc : Nat} {ls : aLs} {st : List Value} {H : aH} {q : aQ}  (hm : mDec M pc = some (.iadd, 1)) (h : aS M pc 1 .iadd ls st H = some (.inl q)) (k : Wq p l e R s m args below meth c Q S0 D g0 (mML M) n0 w0 q) : Wq p l e R s m args below meth c Q S0 D g0 (mML M) n0 w0 (pc, ls, st, H) := by
  have hd := C.2.1 pc _ hm
  have hx := C.1
  cases st with
  | nil => cases h
  | cons v t =>
    cases v with
    | int y =>
      cases t with
      | nil => cases h
      | cons u t =>
        cases u with
        | int x =>
          have h := go_inj (show go _ _ _ _ = _ from h)
          subst h
          intro Hr lsr locs hR hL hl
          exact lv_iadd hx rfl hd (k Hr lsr locs hR hL hl)
        | _ => cases h
    | _ => cases h
theorem st_isub (C : aCx p s m meth c S0 D g0 M) {pc : Nat} {ls : aLs} {st : List Value} {H : aH} {q : aQ}  (hm : mDec M pc = some (.isub, 1)) (h : aS M pc 1 .isub ls st H = some (.inl q)) (k : Wq p l e R s m args below meth c Q S0 D g0 (mML M) n0 w0 q) : Wq p l e R s m args below meth c Q S0 D g0 (mML M) n0 w0 (pc, ls, st, H) := by
  have hd := C.2.1 pc _ hm
  have hx := C.1
  cases st with
  | nil => cases h
  | cons v t =>
    cases v with
    | int y =>
      cases t with
      | nil => cases h
      | cons u t =>
        cases u with
        | int x =>
          have h := go_inj (show go _ _ _ _ = _ from h)
          subst h
          intro Hr lsr locs hR hL hl
          exact lv_isub hx rfl hd (k Hr lsr locs hR hL hl)
        | _ => cases h
    | _ => cases h
theorem st_imul (C : aCx p s m meth c S0 D g0 M) {pc : Nat} {ls : aLs} {st : List Value} {H : aH} {q : aQ}  (hm : mDec M pc = some (.imul, 1)) (h : aS M pc 1 .imul ls st H = some (.inl q)) (k : Wq p l e R s m args below meth c Q S0 D g0 (mML M) n0 w0 q) : Wq p l e R s m args below meth c Q S0 D g0 (mML M) n0 w0 (pc, ls, st, H) := by
  have hd := C.2.1 pc _ hm
  have hx := C.1
  cases st with
  | nil => cases h
  | cons v t =>
    cases v with
    | int y =>
      cases t with
      | nil => cases h
      | cons u t =>
        cases u with
        | int x =>
          have h := go_inj (show go _ _ _ _ = _ from h)
          subst h
          intro Hr lsr locs hR hL hl
          exact lv_imul hx rfl hd (k Hr lsr locs hR hL hl)
        | _ => cases h
    | _ => cases h
theorem st_iand (C : aCx p s m meth c S0 D g0 M) {pc : Nat} {ls : aLs} {st : List Value} {H : aH} {q : aQ}  (hm : mDec M pc = some (.iand, 1)) (h : aS M pc 1 .iand ls st H = some (.inl q)) (k : Wq p l e R s m args below meth c Q S0 D g0 (mML M) n0 w0 q) : Wq p l e R s m args below meth c Q S0 D g0 (mML M) n0 w0 (pc, ls, st, H) := by
  have hd := C.2.1 pc _ hm
  have hx := C.1
  cases st with
  | nil => cases h
  | cons v t =>
    cases v with
    | int y =>
      cases t with
      | nil => cases h
      | cons u t =>
        cases u with
        | int x =>
          have h := go_inj (show go _ _ _ _ = _ from h)
          subst h
          intro Hr lsr locs hR hL hl
          exact lv_iand hx rfl hd (k Hr lsr locs hR hL hl)
        | _ => cases h
    | _ => cases h
theorem st_ior (C : aCx p s m meth c S0 D g0 M) {pc : Nat} {ls : aLs} {st : List Value} {H : aH} {q : aQ}  (hm : mDec M pc = some (.ior, 1)) (h : aS M pc 1 .ior ls st H = some (.inl q)) (k : Wq p l e R s m args below meth c Q S0 D g0 (mML M) n0 w0 q) : Wq p l e R s m args below meth c Q S0 D g0 (mML M) n0 w0 (pc, ls, st, H) := by
  have hd := C.2.1 pc _ hm
  have hx := C.1
  cases st with
  | nil => cases h
  | cons v t =>
    cases v with
    | int y =>
      cases t with
      | nil => cases h
      | cons u t =>
        cases u with
        | int x =>
          have h := go_inj (show go _ _ _ _ = _ from h)
          subst h
          intro Hr lsr locs hR hL hl
          exact lv_ior hx rfl hd (k Hr lsr locs hR hL hl)
        | _ => cases h
    | _ => cases h
theorem st_ixor (C : aCx p s m meth c S0 D g0 M) {pc : Nat} {ls : aLs} {st : List Value} {H : aH} {q : aQ}  (hm : mDec M pc = some (.ixor, 1)) (h : aS M pc 1 .ixor ls st H = some (.inl q)) (k : Wq p l e R s m args below meth c Q S0 D g0 (mML M) n0 w0 q) : Wq p l e R s m args below meth c Q S0 D g0 (mML M) n0 w0 (pc, ls, st, H) := by
  have hd := C.2.1 pc _ hm
  have hx := C.1
  cases st with
  | nil => cases h
  | cons v t =>
    cases v with
    | int y =>
      cases t with
      | nil => cases h
      | cons u t =>
        cases u with
        | int x =>
          have h := go_inj (show go _ _ _ _ = _ from h)
          subst h
          intro Hr lsr locs hR hL hl
          exact lv_ixor hx rfl hd (k Hr lsr locs hR hL hl)
        | _ => cases h
    | _ => cases h
theorem st_ishl (C : aCx p s m meth c S0 D g0 M) {pc : Nat} {ls : aLs} {st : List Value} {H : aH} {q : aQ}  (hm : mDec M pc = some (.ishl, 1)) (h : aS M pc 1 .ishl ls st H = some (.inl q)) (k : Wq p l e R s m args below meth c Q S0 D g0 (mML M) n0 w0 q) : Wq p l e R s m args below meth c Q S0 D g0 (mML M) n0 w0 (pc, ls, st, H) := by
  have hd := C.2.1 pc _ hm
  have hx := C.1
  cases st with
  | nil => cases h
  | cons v t =>
    cases v with
    | int y =>
      cases t with
      | nil => cases h
      | cons u t =>
        cases u with
        | int x =>
          have h := go_inj (show go _ _ _ _ = _ from h)
          subst h
          intro Hr lsr locs hR hL hl
          exact lv_ishl hx rfl hd (k Hr lsr locs hR hL hl)
        | _ => cases h
    | _ => cases h
theorem st_ishr (C : aCx p s m meth c S0 D g0 M) {pc : Nat} {ls : aLs} {st : List Value} {H : aH} {q : aQ}  (hm : mDec M pc = some (.ishr, 1)) (h : aS M pc 1 .ishr ls st H = some (.inl q)) (k : Wq p l e R s m args below meth c Q S0 D g0 (mML M) n0 w0 q) : Wq p l e R s m args below meth c Q S0 D g0 (mML M) n0 w0 (pc, ls, st, H) := by
  have hd := C.2.1 pc _ hm
  have hx := C.1
  cases st with
  | nil => cases h
  | cons v t =>
    cases v with
    | int y =>
      cases t with
      | nil => cases h
      | cons u t =>
        cases u with
        | int x =>
          have h := go_inj (show go _ _ _ _ = _ from h)
          subst h
          intro Hr lsr locs hR hL hl
          exact lv_ishr hx rfl hd (k Hr lsr locs hR hL hl)
        | _ => cases h
    | _ => cases h
theorem st_iushr (C : aCx p s m meth c S0 D g0 M) {pc : Nat} {ls : aLs} {st : List Value} {H : aH} {q : aQ}  (hm : mDec M pc = some (.iushr, 1)) (h : aS M pc 1 .iushr ls st H = some (.inl q)) (k : Wq p l e R s m args below meth c Q S0 D g0 (mML M) n0 w0 q) : Wq p l e R s m args below meth c Q S0 D g0 (mML M) n0 w0 (pc, ls, st, H) := by
  have hd := C.2.1 pc _ hm
  have hx := C.1
  cases st with
  | nil => cases h
  | cons v t =>
    cases v with
    | int y =>
      cases t with
      | nil => cases h
      | cons u t =>
        cases u with
        | int x =>
          have h := go_inj (show go _ _ _ _ = _ from h)
          subst h
          intro Hr lsr locs hR hL hl
          exact lv_iushr hx rfl hd rfl (k Hr lsr locs hR hL hl)
        | _ => cases h
    | _ => cases h
theorem st_ladd (C : aCx p s m meth c S0 D g0 M) {pc : Nat} {ls : aLs} {st : List Value} {H : aH} {q : aQ}  (hm : mDec M pc = some (.ladd, 1)) (h : aS M pc 1 .ladd ls st H = some (.inl q)) (k : Wq p l e R s m args below meth c Q S0 D g0 (mML M) n0 w0 q) : Wq p l e R s m args below meth c Q S0 D g0 (mML M) n0 w0 (pc, ls, st, H) := by
  have hd := C.2.1 pc _ hm
  have hx := C.1
  cases st with
  | nil => cases h
  | cons v t =>
    cases v with
    | long y =>
      cases t with
      | nil => cases h
      | cons u t =>
        cases u with
        | long x =>
          have h := go_inj (show go _ _ _ _ = _ from h)
          subst h
          intro Hr lsr locs hR hL hl
          exact lv_ladd hx rfl hd (k Hr lsr locs hR hL hl)
        | _ => cases h
    | _ => cases h
theorem st_lsub (C : aCx p s m meth c S0 D g0 M) {pc : Nat} {ls : aLs} {st : List Value} {H : aH} {q : aQ}  (hm : mDec M pc = some (.lsub, 1)) (h : aS M pc 1 .lsub ls st H = some (.inl q)) (k : Wq p l e R s m args below meth c Q S0 D g0 (mML M) n0 w0 q) : Wq p l e R s m args below meth c Q S0 D g0 (mML M) n0 w0 (pc, ls, st, H) := by
  have hd := C.2.1 pc _ hm
  have hx := C.1
  cases st with
  | nil => cases h
  | cons v t =>
    cases v with
    | long y =>
      cases t with
      | nil => cases h
      | cons u t =>
        cases u with
        | long x =>
          have h := go_inj (show go _ _ _ _ = _ from h)
          subst h
          intro Hr lsr locs hR hL hl
          exact lv_lsub hx rfl hd (k Hr lsr locs hR hL hl)
        | _ => cases h
    | _ => cases h
theorem st_lmul (C : aCx p s m meth c S0 D g0 M) {pc : Nat} {ls : aLs} {st : List Value} {H : aH} {q : aQ}  (hm : mDec M pc = some (.lmul, 1)) (h : aS M pc 1 .lmul ls st H = some (.inl q)) (k : Wq p l e R s m args below meth c Q S0 D g0 (mML M) n0 w0 q) : Wq p l e R s m args below meth c Q S0 D g0 (mML M) n0 w0 (pc, ls, st, H) := by
  have hd := C.2.1 pc _ hm
  have hx := C.1
  cases st with
  | nil => cases h
  | cons v t =>
    cases v with
    | long y =>
      cases t with
      | nil => cases h
      | cons u t =>
        cases u with
        | long x =>
          have h := go_inj (show go _ _ _ _ = _ from h)
          subst h
          intro Hr lsr locs hR hL hl
          exact lv_lmul hx rfl hd (k Hr lsr locs hR hL hl)
        | _ => cases h
    | _ => cases h
theorem st_land (C : aCx p s m meth c S0 D g0 M) {pc : Nat} {ls : aLs} {st : List Value} {H : aH} {q : aQ}  (hm : mDec M pc = some (.land, 1)) (h : aS M pc 1 .land ls st H = some (.inl q)) (k : Wq p l e R s m args below meth c Q S0 D g0 (mML M) n0 w0 q) : Wq p l e R s m args below meth c Q S0 D g0 (mML M) n0 w0 (pc, ls, st, H) := by
  have hd := C.2.1 pc _ hm
  have hx := C.1
  cases st with
  | nil => cases h
  | cons v t =>
    cases v with
    | long y =>
      cases t with
      | nil => cases h
      | cons u t =>
        cases u with
        | long x =>
          have h := go_inj (show go _ _ _ _ = _ from h)
          subst h
          intro Hr lsr locs hR hL hl
          exact lv_land hx rfl hd (k Hr lsr locs hR hL hl)
        | _ => cases h
    | _ => cases h
theorem st_lor (C : aCx p s m meth c S0 D g0 M) {pc : Nat} {ls : aLs} {st : List Value} {H : aH} {q : aQ}  (hm : mDec M pc = some (.lor, 1)) (h : aS M pc 1 .lor ls st H = some (.inl q)) (k : Wq p l e R s m args below meth c Q S0 D g0 (mML M) n0 w0 q) : Wq p l e R s m args below meth c Q S0 D g0 (mML M) n0 w0 (pc, ls, st, H) := by
  have hd := C.2.1 pc _ hm
  have hx := C.1
  cases st with
  | nil => cases h
  | cons v t =>
    cases v with
    | long y =>
      cases t with
      | nil => cases h
      | cons u t =>
        cases u with
        | long x =>
          have h := go_inj (show go _ _ _ _ = _ from h)
          subst h
          intro Hr lsr locs hR hL hl
          exact lv_lor hx rfl hd (k Hr lsr locs hR hL hl)
        | _ => cases h
    | _ => cases h
theorem st_lxor (C : aCx p s m meth c S0 D g0 M) {pc : Nat} {ls : aLs} {st : List Value} {H : aH} {q : aQ}  (hm : mDec M pc = some (.lxor, 1)) (h : aS M pc 1 .lxor ls st H = some (.inl q)) (k : Wq p l e R s m args below meth c Q S0 D g0 (mML M) n0 w0 q) : Wq p l e R s m args below meth c Q S0 D g0 (mML M) n0 w0 (pc, ls, st, H) := by
  have hd := C.2.1 pc _ hm
  have hx := C.1
  cases st with
  | nil => cases h
  | cons v t =>
    cases v with
    | long y =>
      cases t with
      | nil => cases h
      | cons u t =>
        cases u with
        | long x =>
          have h := go_inj (show go _ _ _ _ = _ from h)
          subst h
          intro Hr lsr locs hR hL hl
          exact lv_lxor hx rfl hd (k Hr lsr locs hR hL hl)
        | _ => cases h
    | _ => cases h
theorem st_lshl (C : aCx p s m meth c S0 D g0 M) {pc : Nat} {ls : aLs} {st : List Value} {H : aH} {q : aQ}  (hm : mDec M pc = some (.lshl, 1)) (h : aS M pc 1 .lshl ls st H = some (.inl q)) (k : Wq p l e R s m args below meth c Q S0 D g0 (mML M) n0 w0 q) : Wq p l e R s m args below meth c Q S0 D g0 (mML M) n0 w0 (pc, ls, st, H) := by
  have hd := C.2.1 pc _ hm
  have hx := C.1
  cases st with
  | nil => cases h
  | cons v t =>
    cases v with
    | int y =>
      cases t with
      | nil => cases h
      | cons u t =>
        cases u with
        | long x =>
          have h := go_inj (show go _ _ _ _ = _ from h)
          subst h
          intro Hr lsr locs hR hL hl
          exact lv_lshl hx rfl hd rfl (k Hr lsr locs hR hL hl)
        | _ => cases h
    | _ => cases h
theorem st_lshr (C : aCx p s m meth c S0 D g0 M) {pc : Nat} {ls : aLs} {st : List Value} {H : aH} {q : aQ}  (hm : mDec M pc = some (.lshr, 1)) (h : aS M pc 1 .lshr ls st H = some (.inl q)) (k : Wq p l e R s m args below meth c Q S0 D g0 (mML M) n0 w0 q) : Wq p l e R s m args below meth c Q S0 D g0 (mML M) n0 w0 (pc, ls, st, H) := by
  have hd := C.2.1 pc _ hm
  have hx := C.1
  cases st with
  | nil => cases h
  | cons v t =>
    cases v with
    | int y =>
      cases t with
      | nil => cases h
      | cons u t =>
        cases u with
        | long x =>
          have h := go_inj (show go _ _ _ _ = _ from h)
          subst h
          intro Hr lsr locs hR hL hl
          exact lv_lshr hx rfl hd rfl (k Hr lsr locs hR hL hl)
        | _ => cases h
    | _ => cases h
theorem st_lushr (C : aCx p s m meth c S0 D g0 M) {pc : Nat} {ls : aLs} {st : List Value} {H : aH} {q : aQ}  (hm : mDec M pc = some (.lushr, 1)) (h : aS M pc 1 .lushr ls st H = some (.inl q)) (k : Wq p l e R s m args below meth c Q S0 D g0 (mML M) n0 w0 q) : Wq p l e R s m args below meth c Q S0 D g0 (mML M) n0 w0 (pc, ls, st, H) := by
  have hd := C.2.1 pc _ hm
  have hx := C.1
  cases st with
  | nil => cases h
  | cons v t =>
    cases v with
    | int y =>
      cases t with
      | nil => cases h
      | cons u t =>
        cases u with
        | long x =>
          have h := go_inj (show go _ _ _ _ = _ from h)
          subst h
          intro Hr lsr locs hR hL hl
          exact lv_lushr hx rfl hd rfl (k Hr lsr locs hR hL hl)
        | _ => cases h
    | _ => cases h
theorem st_lcmp (C : aCx p s m meth c S0 D g0 M) {pc : Nat} {ls : aLs} {st : List Value} {H : aH} {q : aQ}  (hm : mDec M pc = some (.lcmp, 1)) (h : aS M pc 1 .lcmp ls st H = some (.inl q)) (k : Wq p l e R s m args below meth c Q S0 D g0 (mML M) n0 w0 q) : Wq p l e R s m args below meth c Q S0 D g0 (mML M) n0 w0 (pc, ls, st, H) := by
  have hd := C.2.1 pc _ hm
  have hx := C.1
  cases st with
  | nil => cases h
  | cons v t =>
    cases v with
    | long y =>
      cases t with
      | nil => cases h
      | cons u t =>
        cases u with
        | long x =>
          have h := go_inj (show go _ _ _ _ = _ from h)
          subst h
          intro Hr lsr locs hR hL hl
          exact W.lcmp hx rfl hd (k Hr lsr locs hR hL hl)
        | _ => cases h
    | _ => cases h
theorem st_idiv (C : aCx p s m meth c S0 D g0 M) {pc : Nat} {ls : aLs} {st : List Value} {H : aH} {q : aQ}  (hm : mDec M pc = some (.idiv, 1)) (h : aS M pc 1 .idiv ls st H = some (.inl q)) (k : Wq p l e R s m args below meth c Q S0 D g0 (mML M) n0 w0 q) : Wq p l e R s m args below meth c Q S0 D g0 (mML M) n0 w0 (pc, ls, st, H) := by
  have hd := C.2.1 pc _ hm
  have hx := C.1
  cases st with
  | nil => cases h
  | cons v t =>
    cases v with
    | int y =>
      cases t with
      | nil => cases h
      | cons u t =>
        cases u with
        | int x =>
          have h : (if y = 0 then none else go _ _ _ _) = _ := h
          split at h
          next => cases h
          next hz =>
            have h := go_inj h
            subst h
            intro Hr lsr locs hR hL hl
            exact lv_idiv hx rfl hd hz (k Hr lsr locs hR hL hl)
        | _ => cases h
    | _ => cases h
theorem st_irem (C : aCx p s m meth c S0 D g0 M) {pc : Nat} {ls : aLs} {st : List Value} {H : aH} {q : aQ}  (hm : mDec M pc = some (.irem, 1)) (h : aS M pc 1 .irem ls st H = some (.inl q)) (k : Wq p l e R s m args below meth c Q S0 D g0 (mML M) n0 w0 q) : Wq p l e R s m args below meth c Q S0 D g0 (mML M) n0 w0 (pc, ls, st, H) := by
  have hd := C.2.1 pc _ hm
  have hx := C.1
  cases st with
  | nil => cases h
  | cons v t =>
    cases v with
    | int y =>
      cases t with
      | nil => cases h
      | cons u t =>
        cases u with
        | int x =>
          have h : (if y = 0 then none else go _ _ _ _) = _ := h
          split at h
          next => cases h
          next hz =>
            have h := go_inj h
            subst h
            intro Hr lsr locs hR hL hl
            exact lv_irem hx rfl hd hz (k Hr lsr locs hR hL hl)
        | _ => cases h
    | _ => cases h
theorem st_ldiv (C : aCx p s m meth c S0 D g0 M) {pc : Nat} {ls : aLs} {st : List Value} {H : aH} {q : aQ}  (hm : mDec M pc = some (.ldiv, 1)) (h : aS M pc 1 .ldiv ls st H = some (.inl q)) (k : Wq p l e R s m args below meth c Q S0 D g0 (mML M) n0 w0 q) : Wq p l e R s m args below meth c Q S0 D g0 (mML M) n0 w0 (pc, ls, st, H) := by
  have hd := C.2.1 pc _ hm
  have hx := C.1
  cases st with
  | nil => cases h
  | cons v t =>
    cases v with
    | long y =>
      cases t with
      | nil => cases h
      | cons u t =>
        cases u with
        | long x =>
          have h : (if y = 0 then none else go _ _ _ _) = _ := h
          split at h
          next => cases h
          next hz =>
            have h := go_inj h
            subst h
            intro Hr lsr locs hR hL hl
            exact lv_ldiv hx rfl hd hz (k Hr lsr locs hR hL hl)
        | _ => cases h
    | _ => cases h
theorem st_ddiv (C : aCx p s m meth c S0 D g0 M) {pc : Nat} {ls : aLs} {st : List Value} {H : aH} {q : aQ}  (hm : mDec M pc = some (.ddiv, 1)) (h : aS M pc 1 .ddiv ls st H = some (.inl q)) (k : Wq p l e R s m args below meth c Q S0 D g0 (mML M) n0 w0 q) : Wq p l e R s m args below meth c Q S0 D g0 (mML M) n0 w0 (pc, ls, st, H) := by
  have hd := C.2.1 pc _ hm
  have hx := C.1
  cases st with
  | nil => cases h
  | cons v t =>
    cases v with
    | double y =>
      cases t with
      | nil => cases h
      | cons u t =>
        cases u with
        | double x =>
          have h : (if FP.ddiv x y &&& 0x7fffffffffffffff ≤ 0x7ff0000000000000 then go _ _ _ _ else none) = _ := h
          split at h
          next hz =>
            have h := go_inj h
            subst h
            intro Hr lsr locs hR hL hl
            exact lv_ddiv hx rfl hd hz (k Hr lsr locs hR hL hl)
          next => cases h
        | _ => cases h
    | _ => cases h
theorem st_dcmp (C : aCx p s m meth c S0 D g0 M) {pc : Nat} {ls : aLs} {st : List Value} {H : aH} {q : aQ} {o : CmpOp} (hm : mDec M pc = some (.dcmp o, 1)) (h : aS M pc 1 (.dcmp o) ls st H = some (.inl q)) (k : Wq p l e R s m args below meth c Q S0 D g0 (mML M) n0 w0 q) : Wq p l e R s m args below meth c Q S0 D g0 (mML M) n0 w0 (pc, ls, st, H) := by
  have hd := C.2.1 pc _ hm
  have hx := C.1
  cases st with
  | nil => cases h
  | cons v t =>
    cases v with
    | double y =>
      cases t with
      | nil => cases h
      | cons u t =>
        cases u with
        | double x =>
          have h := go_inj (show go _ _ _ _ = _ from h)
          subst h
          intro Hr lsr locs hR hL hl
          exact lv_dcmp hx rfl hd (k Hr lsr locs hR hL hl)
        | _ => cases h
    | _ => cases h
theorem st_ineg (C : aCx p s m meth c S0 D g0 M) {pc : Nat} {ls : aLs} {st : List Value} {H : aH} {q : aQ}  (hm : mDec M pc = some (.ineg, 1)) (h : aS M pc 1 .ineg ls st H = some (.inl q)) (k : Wq p l e R s m args below meth c Q S0 D g0 (mML M) n0 w0 q) : Wq p l e R s m args below meth c Q S0 D g0 (mML M) n0 w0 (pc, ls, st, H) := by
  have hd := C.2.1 pc _ hm
  have hx := C.1
  cases st with
  | nil => cases h
  | cons v t =>
    cases v with
    | int x =>
      have h := go_inj (show go _ _ _ _ = _ from h)
      subst h
      intro Hr lsr locs hR hL hl
      exact lv_ineg hx rfl hd (k Hr lsr locs hR hL hl)
    | _ => cases h
theorem st_i2l (C : aCx p s m meth c S0 D g0 M) {pc : Nat} {ls : aLs} {st : List Value} {H : aH} {q : aQ}  (hm : mDec M pc = some (.i2l, 1)) (h : aS M pc 1 .i2l ls st H = some (.inl q)) (k : Wq p l e R s m args below meth c Q S0 D g0 (mML M) n0 w0 q) : Wq p l e R s m args below meth c Q S0 D g0 (mML M) n0 w0 (pc, ls, st, H) := by
  have hd := C.2.1 pc _ hm
  have hx := C.1
  cases st with
  | nil => cases h
  | cons v t =>
    cases v with
    | int x =>
      have h := go_inj (show go _ _ _ _ = _ from h)
      subst h
      intro Hr lsr locs hR hL hl
      exact lv_i2l hx rfl hd rfl (k Hr lsr locs hR hL hl)
    | _ => cases h
theorem st_l2i (C : aCx p s m meth c S0 D g0 M) {pc : Nat} {ls : aLs} {st : List Value} {H : aH} {q : aQ}  (hm : mDec M pc = some (.l2i, 1)) (h : aS M pc 1 .l2i ls st H = some (.inl q)) (k : Wq p l e R s m args below meth c Q S0 D g0 (mML M) n0 w0 q) : Wq p l e R s m args below meth c Q S0 D g0 (mML M) n0 w0 (pc, ls, st, H) := by
  have hd := C.2.1 pc _ hm
  have hx := C.1
  cases st with
  | nil => cases h
  | cons v t =>
    cases v with
    | long x =>
      have h := go_inj (show go _ _ _ _ = _ from h)
      subst h
      intro Hr lsr locs hR hL hl
      exact lv_l2i hx rfl hd rfl (k Hr lsr locs hR hL hl)
    | _ => cases h
theorem st_i2d (C : aCx p s m meth c S0 D g0 M) {pc : Nat} {ls : aLs} {st : List Value} {H : aH} {q : aQ}  (hm : mDec M pc = some (.i2d, 1)) (h : aS M pc 1 .i2d ls st H = some (.inl q)) (k : Wq p l e R s m args below meth c Q S0 D g0 (mML M) n0 w0 q) : Wq p l e R s m args below meth c Q S0 D g0 (mML M) n0 w0 (pc, ls, st, H) := by
  have hd := C.2.1 pc _ hm
  have hx := C.1
  cases st with
  | nil => cases h
  | cons v t =>
    cases v with
    | int x =>
      have h := go_inj (show go _ _ _ _ = _ from h)
      subst h
      intro Hr lsr locs hR hL hl
      exact lv_i2d hx rfl hd (k Hr lsr locs hR hL hl)
    | _ => cases h
theorem st_dup (C : aCx p s m meth c S0 D g0 M) {pc : Nat} {ls : aLs} {st : List Value} {H : aH} {q : aQ}  (hm : mDec M pc = some (.dup, 1)) (h : aS M pc 1 .dup ls st H = some (.inl q)) (k : Wq p l e R s m args below meth c Q S0 D g0 (mML M) n0 w0 q) : Wq p l e R s m args below meth c Q S0 D g0 (mML M) n0 w0 (pc, ls, st, H) := by
  have hd := C.2.1 pc _ hm
  have hx := C.1
  cases st with
  | nil => cases h
  | cons v t =>
    have h : (if v.category = 1 then go _ _ _ _ else none) = _ := h
    split at h
    next hz =>
      have h := go_inj h
      subst h
      intro Hr lsr locs hR hL hl
      exact lv_dup hx rfl hd hz (k Hr lsr locs hR hL hl)
    next => cases h
theorem st_pop (C : aCx p s m meth c S0 D g0 M) {pc : Nat} {ls : aLs} {st : List Value} {H : aH} {q : aQ}  (hm : mDec M pc = some (.pop, 1)) (h : aS M pc 1 .pop ls st H = some (.inl q)) (k : Wq p l e R s m args below meth c Q S0 D g0 (mML M) n0 w0 q) : Wq p l e R s m args below meth c Q S0 D g0 (mML M) n0 w0 (pc, ls, st, H) := by
  have hd := C.2.1 pc _ hm
  have hx := C.1
  cases st with
  | nil => cases h
  | cons v t =>
    have h : (if v.category = 1 then go _ _ _ _ else none) = _ := h
    split at h
    next hz =>
      have h := go_inj h
      subst h
      intro Hr lsr locs hR hL hl
      exact lv_pop hx rfl hd hz (k Hr lsr locs hR hL hl)
    next => cases h
theorem st_dup2 (C : aCx p s m meth c S0 D g0 M) {pc : Nat} {ls : aLs} {st : List Value} {H : aH} {q : aQ}  (hm : mDec M pc = some (.dup2, 1)) (h : aS M pc 1 .dup2 ls st H = some (.inl q)) (k : Wq p l e R s m args below meth c Q S0 D g0 (mML M) n0 w0 q) : Wq p l e R s m args below meth c Q S0 D g0 (mML M) n0 w0 (pc, ls, st, H) := by
  have hd := C.2.1 pc _ hm
  have hx := C.1
  cases st with
  | nil => cases h
  | cons v t =>
    cases t with
    | nil => cases h
    | cons u t =>
      have h : (if v.category = 1 ∧ u.category = 1 then go _ _ _ _ else none) = _ := h
      split at h
      next hz =>
        have h := go_inj h
        subst h
        intro Hr lsr locs hR hL hl
        exact lv_dup2_11 hx rfl hd hz.1 hz.2 (k Hr lsr locs hR hL hl)
      next => cases h
theorem st_goto (C : aCx p s m meth c S0 D g0 M) {pc : Nat} {ls : aLs} {st : List Value} {H : aH} {q : aQ} {o : Int} (hm : mDec M pc = some (.goto o, 3)) (h : aS M pc 3 (.goto o) ls st H = some (.inl q)) (k : Wq p l e R s m args below meth c Q S0 D g0 (mML M) n0 w0 q) : Wq p l e R s m args below meth c Q S0 D g0 (mML M) n0 w0 (pc, ls, st, H) := by
  have hd := C.2.1 pc _ hm
  have hx := C.1
  have h : (aTg pc o).bind _ = _ := h
  cases ht : aTg pc o with
  | none => rw [ht] at h; cases h
  | some tg =>
    rw [ht] at h
    have h := go_inj (show go _ _ _ _ = _ from h)
    subst h
    intro Hr lsr locs hR hL hl
    exact lv_goto hx rfl hd (aTg_ok ht) (k Hr lsr locs hR hL hl)
theorem st_if_eq (C : aCx p s m meth c S0 D g0 M) {pc : Nat} {ls : aLs} {st : List Value} {H : aH} {q : aQ} {o : Int} (hm : mDec M pc = some (.ifCond .eq o, 3)) (h : aS M pc 3 (.ifCond .eq o) ls st H = some (.inl q)) (k : Wq p l e R s m args below meth c Q S0 D g0 (mML M) n0 w0 q) : Wq p l e R s m args below meth c Q S0 D g0 (mML M) n0 w0 (pc, ls, st, H) := by
  have hd := C.2.1 pc _ hm
  have hx := C.1
  cases st with
  | nil => cases h
  | cons v t =>
    cases v with
    | int x =>
      have h : (aTg pc o).bind _ = _ := h
      cases ht : aTg pc o with
      | none => rw [ht] at h; cases h
      | some tg =>
        rw [ht] at h
        have h : (if x = 0 then go _ _ _ _ else go _ _ _ _) = _ := h
        split at h
        next hz =>
          have h := go_inj h
          subst h
          intro Hr lsr locs hR hL hl
          exact lv_if_eq hx rfl hd (aTg_ok ht) (fun _ => k Hr lsr locs hR hL hl) (fun q => absurd hz q)
        next hz =>
          have h := go_inj h
          subst h
          intro Hr lsr locs hR hL hl
          exact lv_if_eq hx rfl hd (aTg_ok ht) (fun q => absurd q hz) (fun _ => k Hr lsr locs hR hL hl)
    | _ => cases h
theorem st_ic_eq (C : aCx p s m meth c S0 D g0 M) {pc : Nat} {ls : aLs} {st : List Value} {H : aH} {q : aQ} {o : Int} (hm : mDec M pc = some (.if_icmp .eq o, 3)) (h : aS M pc 3 (.if_icmp .eq o) ls st H = some (.inl q)) (k : Wq p l e R s m args below meth c Q S0 D g0 (mML M) n0 w0 q) : Wq p l e R s m args below meth c Q S0 D g0 (mML M) n0 w0 (pc, ls, st, H) := by
  have hd := C.2.1 pc _ hm
  have hx := C.1
  cases st with
  | nil => cases h
  | cons v t =>
    cases v with
    | int y =>
      cases t with
      | nil => cases h
      | cons u t =>
        cases u with
        | int x =>
          have h : (aTg pc o).bind _ = _ := h
          cases ht : aTg pc o with
          | none => rw [ht] at h; cases h
          | some tg =>
            rw [ht] at h
            have h : (if x = y then go _ _ _ _ else go _ _ _ _) = _ := h
            split at h
            next hz =>
              have h := go_inj h
              subst h
              intro Hr lsr locs hR hL hl
              exact lv_icmp_eq hx rfl hd (aTg_ok ht) (fun _ => k Hr lsr locs hR hL hl) (fun q => absurd hz q)
            next hz =>
              have h := go_inj h
              subst h
              intro Hr lsr locs hR hL hl
              exact lv_icmp_eq hx rfl hd (aTg_ok ht) (fun q => absurd q hz) (fun _ => k Hr lsr locs hR hL hl)
        | _ => cases h
    | _ => cases h
theorem st_if_ne (C : aCx p s m meth c S0 D g0 M) {pc : Nat} {ls : aLs} {st : List Value} {H : aH} {q : aQ} {o : Int} (hm : mDec M pc = some (.ifCond .ne o, 3)) (h : aS M pc 3 (.ifCond .ne o) ls st H = some (.inl q)) (k : Wq p l e R s m args below meth c Q S0 D g0 (mML M) n0 w0 q) : Wq p l e R s m args below meth c Q S0 D g0 (mML M) n0 w0 (pc, ls, st, H) := by
  have hd := C.2.1 pc _ hm
  have hx := C.1
  cases st with
  | nil => cases h
  | cons v t =>
    cases v with
    | int x =>
      have h : (aTg pc o).bind _ = _ := h
      cases ht : aTg pc o with
      | none => rw [ht] at h; cases h
      | some tg =>
        rw [ht] at h
        have h : (if x = 0 then go _ _ _ _ else go _ _ _ _) = _ := h
        split at h
        next hz =>
          have h := go_inj h
          subst h
          intro Hr lsr locs hR hL hl
          exact lv_if_ne hx rfl hd (aTg_ok ht) (fun q => absurd hz q) (fun _ => k Hr lsr locs hR hL hl)
        next hz =>
          have h := go_inj h
          subst h
          intro Hr lsr locs hR hL hl
          exact lv_if_ne hx rfl hd (aTg_ok ht) (fun _ => k Hr lsr locs hR hL hl) (fun q => absurd q hz)
    | _ => cases h
theorem st_ic_ne (C : aCx p s m meth c S0 D g0 M) {pc : Nat} {ls : aLs} {st : List Value} {H : aH} {q : aQ} {o : Int} (hm : mDec M pc = some (.if_icmp .ne o, 3)) (h : aS M pc 3 (.if_icmp .ne o) ls st H = some (.inl q)) (k : Wq p l e R s m args below meth c Q S0 D g0 (mML M) n0 w0 q) : Wq p l e R s m args below meth c Q S0 D g0 (mML M) n0 w0 (pc, ls, st, H) := by
  have hd := C.2.1 pc _ hm
  have hx := C.1
  cases st with
  | nil => cases h
  | cons v t =>
    cases v with
    | int y =>
      cases t with
      | nil => cases h
      | cons u t =>
        cases u with
        | int x =>
          have h : (aTg pc o).bind _ = _ := h
          cases ht : aTg pc o with
          | none => rw [ht] at h; cases h
          | some tg =>
            rw [ht] at h
            have h : (if x = y then go _ _ _ _ else go _ _ _ _) = _ := h
            split at h
            next hz =>
              have h := go_inj h
              subst h
              intro Hr lsr locs hR hL hl
              exact lv_icmp_ne hx rfl hd (aTg_ok ht) (fun q => absurd hz q) (fun _ => k Hr lsr locs hR hL hl)
            next hz =>
              have h := go_inj h
              subst h
              intro Hr lsr locs hR hL hl
              exact lv_icmp_ne hx rfl hd (aTg_ok ht) (fun _ => k Hr lsr locs hR hL hl) (fun q => absurd q hz)
        | _ => cases h
    | _ => cases h
theorem st_if_lt (C : aCx p s m meth c S0 D g0 M) {pc : Nat} {ls : aLs} {st : List Value} {H : aH} {q : aQ} {o : Int} (hm : mDec M pc = some (.ifCond .lt o, 3)) (h : aS M pc 3 (.ifCond .lt o) ls st H = some (.inl q)) (k : Wq p l e R s m args below meth c Q S0 D g0 (mML M) n0 w0 q) : Wq p l e R s m args below meth c Q S0 D g0 (mML M) n0 w0 (pc, ls, st, H) := by
  have hd := C.2.1 pc _ hm
  have hx := C.1
  cases st with
  | nil => cases h
  | cons v t =>
    cases v with
    | int x =>
      have h : (aTg pc o).bind _ = _ := h
      cases ht : aTg pc o with
      | none => rw [ht] at h; cases h
      | some tg =>
        rw [ht] at h
        have h : (if x < 0 then go _ _ _ _ else go _ _ _ _) = _ := h
        split at h
        next hz =>
          have h := go_inj h
          subst h
          intro Hr lsr locs hR hL hl
          exact lv_if_lt hx rfl hd (aTg_ok ht) (fun _ => k Hr lsr locs hR hL hl) (fun q => absurd hz q)
        next hz =>
          have h := go_inj h
          subst h
          intro Hr lsr locs hR hL hl
          exact lv_if_lt hx rfl hd (aTg_ok ht) (fun q => absurd q hz) (fun _ => k Hr lsr locs hR hL hl)
    | _ => cases h
theorem st_ic_lt (C : aCx p s m meth c S0 D g0 M) {pc : Nat} {ls : aLs} {st : List Value} {H : aH} {q : aQ} {o : Int} (hm : mDec M pc = some (.if_icmp .lt o, 3)) (h : aS M pc 3 (.if_icmp .lt o) ls st H = some (.inl q)) (k : Wq p l e R s m args below meth c Q S0 D g0 (mML M) n0 w0 q) : Wq p l e R s m args below meth c Q S0 D g0 (mML M) n0 w0 (pc, ls, st, H) := by
  have hd := C.2.1 pc _ hm
  have hx := C.1
  cases st with
  | nil => cases h
  | cons v t =>
    cases v with
    | int y =>
      cases t with
      | nil => cases h
      | cons u t =>
        cases u with
        | int x =>
          have h : (aTg pc o).bind _ = _ := h
          cases ht : aTg pc o with
          | none => rw [ht] at h; cases h
          | some tg =>
            rw [ht] at h
            have h : (if x < y then go _ _ _ _ else go _ _ _ _) = _ := h
            split at h
            next hz =>
              have h := go_inj h
              subst h
              intro Hr lsr locs hR hL hl
              exact lv_icmp_lt hx rfl hd (aTg_ok ht) (fun _ => k Hr lsr locs hR hL hl) (fun q => absurd hz q)
            next hz =>
              have h := go_inj h
              subst h
              intro Hr lsr locs hR hL hl
              exact lv_icmp_lt hx rfl hd (aTg_ok ht) (fun q => absurd q hz) (fun _ => k Hr lsr locs hR hL hl)
        | _ => cases h
    | _ => cases h
theorem st_if_ge (C : aCx p s m meth c S0 D g0 M) {pc : Nat} {ls : aLs} {st : List Value} {H : aH} {q : aQ} {o : Int} (hm : mDec M pc = some (.ifCond .ge o, 3)) (h : aS M pc 3 (.ifCond .ge o) ls st H = some (.inl q)) (k : Wq p l e R s m args below meth c Q S0 D g0 (mML M) n0 w0 q) : Wq p l e R s m args below meth c Q S0 D g0 (mML M) n0 w0 (pc, ls, st, H) := by
  have hd := C.2.1 pc _ hm
  have hx := C.1
  cases st with
  | nil => cases h
  | cons v t =>
    cases v with
    | int x =>
      have h : (aTg pc o).bind _ = _ := h
      cases ht : aTg pc o with
      | none => rw [ht] at h; cases h
      | some tg =>
        rw [ht] at h
        have h : (if 0 ≤ x then go _ _ _ _ else go _ _ _ _) = _ := h
        split at h
        next hz =>
          have h := go_inj h
          subst h
          intro Hr lsr locs hR hL hl
          exact lv_if_ge hx rfl hd (aTg_ok ht) (fun _ => k Hr lsr locs hR hL hl) (fun q => absurd hz q)
        next hz =>
          have h := go_inj h
          subst h
          intro Hr lsr locs hR hL hl
          exact lv_if_ge hx rfl hd (aTg_ok ht) (fun q => absurd q hz) (fun _ => k Hr lsr locs hR hL hl)
    | _ => cases h
theorem st_ic_ge (C : aCx p s m meth c S0 D g0 M) {pc : Nat} {ls : aLs} {st : List Value} {H : aH} {q : aQ} {o : Int} (hm : mDec M pc = some (.if_icmp .ge o, 3)) (h : aS M pc 3 (.if_icmp .ge o) ls st H = some (.inl q)) (k : Wq p l e R s m args below meth c Q S0 D g0 (mML M) n0 w0 q) : Wq p l e R s m args below meth c Q S0 D g0 (mML M) n0 w0 (pc, ls, st, H) := by
  have hd := C.2.1 pc _ hm
  have hx := C.1
  cases st with
  | nil => cases h
  | cons v t =>
    cases v with
    | int y =>
      cases t with
      | nil => cases h
      | cons u t =>
        cases u with
        | int x =>
          have h : (aTg pc o).bind _ = _ := h
          cases ht : aTg pc o with
          | none => rw [ht] at h; cases h
          | some tg =>
            rw [ht] at h
            have h : (if y ≤ x then go _ _ _ _ else go _ _ _ _) = _ := h
            split at h
            next hz =>
              have h := go_inj h
              subst h
              intro Hr lsr locs hR hL hl
              exact lv_icmp_ge hx rfl hd (aTg_ok ht) (fun _ => k Hr lsr locs hR hL hl) (fun q => absurd hz q)
            next hz =>
              have h := go_inj h
              subst h
              intro Hr lsr locs hR hL hl
              exact lv_icmp_ge hx rfl hd (aTg_ok ht) (fun q => absurd q hz) (fun _ => k Hr lsr locs hR hL hl)
        | _ => cases h
    | _ => cases h
theorem st_if_gt (C : aCx p s m meth c S0 D g0 M) {pc : Nat} {ls : aLs} {st : List Value} {H : aH} {q : aQ} {o : Int} (hm : mDec M pc = some (.ifCond .gt o, 3)) (h : aS M pc 3 (.ifCond .gt o) ls st H = some (.inl q)) (k : Wq p l e R s m args below meth c Q S0 D g0 (mML M) n0 w0 q) : Wq p l e R s m args below meth c Q S0 D g0 (mML M) n0 w0 (pc, ls, st, H) := by
  have hd := C.2.1 pc _ hm
  have hx := C.1
  cases st with
  | nil => cases h
  | cons v t =>
    cases v with
    | int x =>
      have h : (aTg pc o).bind _ = _ := h
      cases ht : aTg pc o with
      | none => rw [ht] at h; cases h
      | some tg =>
        rw [ht] at h
        have h : (if 0 < x then go _ _ _ _ else go _ _ _ _) = _ := h
        split at h
        next hz =>
          have h := go_inj h
          subst h
          intro Hr lsr locs hR hL hl
          exact lv_if_gt hx rfl hd (aTg_ok ht) (fun _ => k Hr lsr locs hR hL hl) (fun q => absurd hz q)
        next hz =>
          have h := go_inj h
          subst h
          intro Hr lsr locs hR hL hl
          exact lv_if_gt hx rfl hd (aTg_ok ht) (fun q => absurd q hz) (fun _ => k Hr lsr locs hR hL hl)
    | _ => cases h
theorem st_ic_gt (C : aCx p s m meth c S0 D g0 M) {pc : Nat} {ls : aLs} {st : List Value} {H : aH} {q : aQ} {o : Int} (hm : mDec M pc = some (.if_icmp .gt o, 3)) (h : aS M pc 3 (.if_icmp .gt o) ls st H = some (.inl q)) (k : Wq p l e R s m args below meth c Q S0 D g0 (mML M) n0 w0 q) : Wq p l e R s m args below meth c Q S0 D g0 (mML M) n0 w0 (pc, ls, st, H) := by
  have hd := C.2.1 pc _ hm
  have hx := C.1
  cases st with
  | nil => cases h
  | cons v t =>
    cases v with
    | int y =>
      cases t with
      | nil => cases h
      | cons u t =>
        cases u with
        | int x =>
          have h : (aTg pc o).bind _ = _ := h
          cases ht : aTg pc o with
          | none => rw [ht] at h; cases h
          | some tg =>
            rw [ht] at h
            have h : (if y < x then go _ _ _ _ else go _ _ _ _) = _ := h
            split at h
            next hz =>
              have h := go_inj h
              subst h
              intro Hr lsr locs hR hL hl
              exact lv_icmp_gt hx rfl hd (aTg_ok ht) (fun _ => k Hr lsr locs hR hL hl) (fun q => absurd hz q)
            next hz =>
              have h := go_inj h
              subst h
              intro Hr lsr locs hR hL hl
              exact lv_icmp_gt hx rfl hd (aTg_ok ht) (fun q => absurd q hz) (fun _ => k Hr lsr locs hR hL hl)
        | _ => cases h
    | _ => cases h
theorem st_if_le (C : aCx p s m meth c S0 D g0 M) {pc : Nat} {ls : aLs} {st : List Value} {H : aH} {q : aQ} {o : Int} (hm : mDec M pc = some (.ifCond .le o, 3)) (h : aS M pc 3 (.ifCond .le o) ls st H = some (.inl q)) (k : Wq p l e R s m args below meth c Q S0 D g0 (mML M) n0 w0 q) : Wq p l e R s m args below meth c Q S0 D g0 (mML M) n0 w0 (pc, ls, st, H) := by
  have hd := C.2.1 pc _ hm
  have hx := C.1
  cases st with
  | nil => cases h
  | cons v t =>
    cases v with
    | int x =>
      have h : (aTg pc o).bind _ = _ := h
      cases ht : aTg pc o with
      | none => rw [ht] at h; cases h
      | some tg =>
        rw [ht] at h
        have h : (if x ≤ 0 then go _ _ _ _ else go _ _ _ _) = _ := h
        split at h
        next hz =>
          have h := go_inj h
          subst h
          intro Hr lsr locs hR hL hl
          exact lv_if_le hx rfl hd (aTg_ok ht) (fun _ => k Hr lsr locs hR hL hl) (fun q => absurd hz q)
        next hz =>
          have h := go_inj h
          subst h
          intro Hr lsr locs hR hL hl
          exact lv_if_le hx rfl hd (aTg_ok ht) (fun q => absurd q hz) (fun _ => k Hr lsr locs hR hL hl)
    | _ => cases h
theorem st_ic_le (C : aCx p s m meth c S0 D g0 M) {pc : Nat} {ls : aLs} {st : List Value} {H : aH} {q : aQ} {o : Int} (hm : mDec M pc = some (.if_icmp .le o, 3)) (h : aS M pc 3 (.if_icmp .le o) ls st H = some (.inl q)) (k : Wq p l e R s m args below meth c Q S0 D g0 (mML M) n0 w0 q) : Wq p l e R s m args below meth c Q S0 D g0 (mML M) n0 w0 (pc, ls, st, H) := by
  have hd := C.2.1 pc _ hm
  have hx := C.1
  cases st with
  | nil => cases h
  | cons v t =>
    cases v with
    | int y =>
      cases t with
      | nil => cases h
      | cons u t =>
        cases u with
        | int x =>
          have h : (aTg pc o).bind _ = _ := h
          cases ht : aTg pc o with
          | none => rw [ht] at h; cases h
          | some tg =>
            rw [ht] at h
            have h : (if x ≤ y then go _ _ _ _ else go _ _ _ _) = _ := h
            split at h
            next hz =>
              have h := go_inj h
              subst h
              intro Hr lsr locs hR hL hl
              exact lv_icmp_le hx rfl hd (aTg_ok ht) (fun _ => k Hr lsr locs hR hL hl) (fun q => absurd hz q)
            next hz =>
              have h := go_inj h
              subst h
              intro Hr lsr locs hR hL hl
              exact lv_icmp_le hx rfl hd (aTg_ok ht) (fun q => absurd q hz) (fun _ => k Hr lsr locs hR hL hl)
        | _ => cases h
    | _ => cases h
theorem st_ifnull (C : aCx p s m meth c S0 D g0 M) {pc : Nat} {ls : aLs} {st : List Value} {H : aH} {q : aQ} {o : Int} (hm : mDec M pc = some (.ifnull o, 3)) (h : aS M pc 3 (.ifnull o) ls st H = some (.inl q)) (k : Wq p l e R s m args below meth c Q S0 D g0 (mML M) n0 w0 q) : Wq p l e R s m args below meth c Q S0 D g0 (mML M) n0 w0 (pc, ls, st, H) := by
  have hd := C.2.1 pc _ hm
  have hx := C.1
  cases st with
  | nil => cases h
  | cons v t =>
    cases v with
    | ref a =>
      have h := go_inj (show go _ _ _ _ = _ from h)
      subst h
      intro Hr lsr locs hR hL hl
      exact lv_ifnull hx rfl hd (k Hr lsr locs hR hL hl)
    | null =>
      have h : (aTg pc o).bind _ = _ := h
      cases ht : aTg pc o with
      | none => rw [ht] at h; cases h
      | some tg =>
        rw [ht] at h
        have h := go_inj (show go _ _ _ _ = _ from h)
        subst h
        intro Hr lsr locs hR hL hl
        exact lv_ifnullN hx rfl hd (aTg_ok ht) (k Hr lsr locs hR hL hl)
    | _ => cases h
theorem st_ifnonnull (C : aCx p s m meth c S0 D g0 M) {pc : Nat} {ls : aLs} {st : List Value} {H : aH} {q : aQ} {o : Int} (hm : mDec M pc = some (.ifnonnull o, 3)) (h : aS M pc 3 (.ifnonnull o) ls st H = some (.inl q)) (k : Wq p l e R s m args below meth c Q S0 D g0 (mML M) n0 w0 q) : Wq p l e R s m args below meth c Q S0 D g0 (mML M) n0 w0 (pc, ls, st, H) := by
  have hd := C.2.1 pc _ hm
  have hx := C.1
  cases st with
  | nil => cases h
  | cons v t =>
    cases v with
    | ref a =>
      have h : (aTg pc o).bind _ = _ := h
      cases ht : aTg pc o with
      | none => rw [ht] at h; cases h
      | some tg =>
        rw [ht] at h
        have h := go_inj (show go _ _ _ _ = _ from h)
        subst h
        intro Hr lsr locs hR hL hl
        exact lv_ifnonnull hx rfl hd (aTg_ok ht) (k Hr lsr locs hR hL hl)
    | null =>
      have h := go_inj (show go _ _ _ _ = _ from h)
      subst h
      intro Hr lsr locs hR hL hl
      exact lv_ifnonnullN hx rfl hd (k Hr lsr locs hR hL hl)
    | _ => cases h
theorem st_acmp (C : aCx p s m meth c S0 D g0 M) {pc : Nat} {ls : aLs} {st : List Value} {H : aH} {q : aQ} {o : Int} (hm : mDec M pc = some (.if_acmp .ne o, 3)) (h : aS M pc 3 (.if_acmp .ne o) ls st H = some (.inl q)) (k : Wq p l e R s m args below meth c Q S0 D g0 (mML M) n0 w0 q) : Wq p l e R s m args below meth c Q S0 D g0 (mML M) n0 w0 (pc, ls, st, H) := by
  have hd := C.2.1 pc _ hm
  have hx := C.1
  cases st with
  | nil => cases h
  | cons v t =>
    cases v with
    | ref b =>
      cases t with
      | nil => cases h
      | cons u t =>
        cases u with
        | ref a =>
          have h : (if (H.1 a).isSome = true ∧ (H.1 b).isSome = true then (aTg pc o).bind fun tg => if a = b then go _ _ _ _ else go _ _ _ _ else none) = _ := h
          split at h
          next hz =>
            cases ht : aTg pc o with
            | none => rw [ht] at h; cases h
            | some tg =>
              rw [ht] at h
              have h : (if a = b then go _ _ _ _ else go _ _ _ _) = _ := h
              split at h
              next hab =>
                have h := go_inj h
                subst h
                intro Hr lsr locs hR hL hl
                exact lv_acmp_ne (rx := some a) (ry := some b) hx rfl hd (aTg_ok ht) (fun q => absurd (by rw [hab]) q) (fun _ => k Hr lsr locs hR hL hl)
              next hab =>
                have h := go_inj h
                subst h
                intro Hr lsr locs hR hL hl
                exact lv_acmp_ne (rx := some a) (ry := some b) hx rfl hd (aTg_ok ht) (fun _ => k Hr lsr locs hR hL hl) (fun q => absurd (Option.some.inj q) hab)
          next => cases h
        | _ => cases h
    | _ => cases h
theorem st_tsw (C : aCx p s m meth c S0 D g0 M) {pc len : Nat} {ls : aLs} {st : List Value} {H : aH} {q : aQ} {df lo hi : Int} {offs : Array Int} (hm : mDec M pc = some (.tableswitch df lo hi offs, len)) (h : aS M pc len (.tableswitch df lo hi offs) ls st H = some (.inl q)) (k : Wq p l e R s m args below meth c Q S0 D g0 (mML M) n0 w0 q) : Wq p l e R s m args below meth c Q S0 D g0 (mML M) n0 w0 (pc, ls, st, H) := by
  have hd := C.2.1 pc _ hm
  have hx := C.1
  cases st with
  | nil => cases h
  | cons v t =>
    cases v with
    | int x =>
      have h : (if x.toInt < lo ∨ hi < x.toInt then (aTg pc df).bind fun tg => go tg ls t H else (offs[(x.toInt - lo).toNat]?).bind fun o => (aTg pc o).bind fun tg => go tg ls t H) = _ := h
      split at h
      next hz =>
        cases ht : aTg pc df with
        | none => rw [ht] at h; cases h
        | some tg =>
          rw [ht] at h
          have h := go_inj (show go _ _ _ _ = _ from h)
          subst h
          intro Hr lsr locs hR hL hl
          exact lv_tableOut hx rfl hd hz (aTg_ok ht) (k Hr lsr locs hR hL hl)
      next hz =>
        cases ho : offs[(x.toInt - lo).toNat]? with
        | none => rw [ho] at h; cases h
        | some o =>
          rw [ho] at h
          have h : (aTg pc o).bind _ = _ := h
          cases ht : aTg pc o with
          | none => rw [ht] at h; cases h
          | some tg =>
            rw [ht] at h
            have h := go_inj (show go _ _ _ _ = _ from h)
            subst h
            intro Hr lsr locs hR hL hl
            exact lv_tableIn hx rfl hd (fun q => hz (Or.inl q)) (fun q => hz (Or.inr q)) ho (aTg_ok ht) (k Hr lsr locs hR hL hl)
    | _ => cases h
end
