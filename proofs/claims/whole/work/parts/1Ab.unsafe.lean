/-! ===== Unsafe.getLong over an int array ===== -/
section
theorem or_l {α : Type _} {x y : Option α} {z : α} (h : x = some z) : x.or y = some z := by rw [h]; rfl
theorem or_r {α : Type _} {x y : Option α} {z : α} (h : x.isNone = true) (e : y = some z) : x.or y = some z := by
  rw [Option.isNone_iff_eq_none.mp h, e]; rfl
abbrev ugY : MethodName := ⟨"jdk/internal/misc/Unsafe", "getLong", "(Ljava/lang/Object;J)J"⟩
set_option maxRecDepth 1000000 in
set_option maxHeartbeats 4000000 in
theorem ug_find : NativeRow.find? Jvm.natives "jdk/internal/misc/Unsafe" "getLong" "(Ljava/lang/Object;J)J" = some (Native.jdk_internal_misc_Unsafe.memory.getRow "Long" "J" .long "" .plain) := by
  unfold NativeRow.find? Jvm.natives
  iterate 30 rw [List.find?_append]
  iterate 29 refine or_l ?_
  exact or_r (by decide +kernel) rfl
theorem ug_row (p : Program) : NativeRow.find? p.tables.natives "jdk/internal/misc/Unsafe" "getLong" "(Ljava/lang/Object;J)J" = some (Native.jdk_internal_misc_Unsafe.memory.getRow "Long" "J" .long "" .plain) := by
  cases p <;> exact ug_find
theorem ug_desc : parseMethodDescriptor ugY.desc = some { parameters := [.object "java/lang/Object", .long], returnType := some .long } := by decide +kernel
section
variable {E : CtlPost} {e : Env} {d : Bool} {acts : List Action} {s : State}
theorem ug_locate {a : Addr} {A : Cell} {k : Class} {comp : ClassId} {i : Nat} {off : Int64} {Q : UnsafeMem.Target → Pre}
    (hA : s.heap[a]? = some A) (hvm : A.vm = .none) (hk : s.vm.classes[A.cls]? = some k) (hkind : k.kind = .array comp .int) (hneg : ¬ off < 0) (hoff : off.toNatClampNeg = 16 + i) : wp (UnsafeMem.locate (.ref a) off .long) Q E e d acts s ↔ Q (UnsafeMem.Target.bytes a .int i) d acts s := by
  simp [UnsafeMem.locate, hneg, hoff, hA, Cell.info, hvm, hk, hkind, UnsafeMem.arrayBase, UnsafeMem.scaleOf, UnsafeMem.isRefType]
def ubN (u k : Nat) : Nat := u % 4294967296 / 2 ^ (8 * k) % 256
def ugP (bs : List Nat) : Nat := (bs.zipIdx.map fun (b, k) => b * 2 ^ (8 * k)).sum
theorem ubN_sum {u : Nat} (h : u < 4294967296) : ubN u 0 + ubN u 1 * 256 + ubN u 2 * 65536 + ubN u 3 * 16777216 = u := by
  have e0 : ubN u 0 = u % 256 := by unfold ubN; rw [Nat.mod_eq_of_lt h, show 2 ^ (8 * 0) = 1 from rfl, Nat.div_one]
  have e1 : ubN u 1 = u / 256 % 256 := by unfold ubN; rw [Nat.mod_eq_of_lt h, show 2 ^ (8 * 1) = 256 from rfl]
  have e2 : ubN u 2 = u / 65536 % 256 := by unfold ubN; rw [Nat.mod_eq_of_lt h, show 2 ^ (8 * 2) = 65536 from rfl]
  have e3 : ubN u 3 = u / 16777216 % 256 := by unfold ubN; rw [Nat.mod_eq_of_lt h, show 2 ^ (8 * 3) = 16777216 from rfl]
  rw [e0, e1, e2, e3]
  omega
theorem ug_pk (P : Nat → Nat) (a0 a1 a2 a3 a4 a5 a6 a7 : Nat) : (([a0, a1, a2, a3, a4, a5, a6, a7] : List Nat).zipIdx.map fun (b, k) => b * P k).sum = a0 * P 0 + (a1 * P 1 + (a2 * P 2 + (a3 * P 3 + (a4 * P 4 + (a5 * P 5 + (a6 * P 6 + (a7 * P 7 + 0))))))) := rfl
theorem ug_fin (a0 a1 a2 a3 a4 a5 a6 a7 p1 p2 p3 w : Nat) : a0 * 1 + (a1 * p1 + (a2 * p2 + (a3 * p3 + (a4 * w + (a5 * (p1 * w) + (a6 * (p2 * w) + (a7 * (p3 * w) + 0))))))) = (a0 + a1 * p1 + a2 * p2 + a3 * p3) + (a4 + a5 * p1 + a6 * p2 + a7 * p3) * w := by
  simp only [Nat.add_mul, Nat.mul_assoc, Nat.add_assoc, Nat.mul_one, Nat.add_zero]
def ugW (k : Nat) : Nat := 2 ^ (8 * k)
theorem ugP_8 (a0 a1 a2 a3 a4 a5 a6 a7 : Nat) : ugP [a0, a1, a2, a3, a4, a5, a6, a7] = (a0 + a1 * 256 + a2 * 65536 + a3 * 16777216) + (a4 + a5 * 256 + a6 * 65536 + a7 * 16777216) * 4294967296 := by
  have h : ugP [a0, a1, a2, a3, a4, a5, a6, a7] = (([a0, a1, a2, a3, a4, a5, a6, a7] : List Nat).zipIdx.map fun (b, k) => b * ugW k).sum := rfl
  have w0 : ugW 0 = 1 := rfl
  have w1 : ugW 1 = 256 := rfl
  have w2 : ugW 2 = 65536 := rfl
  have w3 : ugW 3 = 16777216 := rfl
  have w4 : ugW 4 = 4294967296 := rfl
  have w5 : ugW 5 = 256 * 4294967296 := rfl
  have w6 : ugW 6 = 65536 * 4294967296 := rfl
  have w7 : ugW 7 = 16777216 * 4294967296 := rfl
  rw [h, ug_pk, w0, w1, w2, w3, w4, w5, w6, w7]
  exact ug_fin a0 a1 a2 a3 a4 a5 a6 a7 256 65536 16777216 4294967296
theorem ug_byte {a : Addr} {A : Cell} {q j : Nat} {x : Int32} {Q : Nat → Pre} (hA : s.heap[a]? = some A) (hvm : A.vm = .none) (hq : q / 4 = j) (h : A.slots[j]? = some (.int x)) :
    wp (UnsafeMem.readByte a .int q .plain) Q E e d acts s ↔ Q (ubN x.toUInt32.toNat (q % 4)) d (readActs ⟨a, j⟩ .plain (.int x) acts) s := by
  simp [UnsafeMem.readByte, UnsafeMem.scaleOf, UnsafeMem.bitsOf, hA, hvm, hq, h, ubN]
theorem ug_get {a : Addr} {A : Cell} {k : Class} {comp : ClassId} {i : Nat} {off : Int64} {x0 x1 : Int32} {Q : Value → Pre}
    (hA : s.heap[a]? = some A) (hvm : A.vm = .none) (hk : s.vm.classes[A.cls]? = some k) (hkind : k.kind = .array comp .int) (hneg : ¬ off < 0) (hoff : off.toNatClampNeg = 16 + 4 * i)
    (h0 : A.slots[i]? = some (.int x0)) (h1 : A.slots[i + 1]? = some (.int x1)) (hQ : ∀ d' acts', Q (.long (lJ x0 x1)) d' acts' s) : wp (UnsafeMem.get .long (.ref a) off .plain) Q E e d acts s := by
  have hr : List.range (UnsafeMem.scaleOf .long) = [0, 1, 2, 3, 4, 5, 6, 7] := rfl
  have q0 : (4 * i + 0) / 4 = i := by omega
  have q1 : (4 * i + 1) / 4 = i := by omega
  have q2 : (4 * i + 2) / 4 = i := by omega
  have q3 : (4 * i + 3) / 4 = i := by omega
  have q4 : (4 * i + 4) / 4 = i + 1 := by omega
  have q5 : (4 * i + 5) / 4 = i + 1 := by omega
  have q6 : (4 * i + 6) / 4 = i + 1 := by omega
  have q7 : (4 * i + 7) / 4 = i + 1 := by omega
  have m0 : (4 * i + 0) % 4 = 0 := by omega
  have m1 : (4 * i + 1) % 4 = 1 := by omega
  have m2 : (4 * i + 2) % 4 = 2 := by omega
  have m3 : (4 * i + 3) % 4 = 3 := by omega
  have m4 : (4 * i + 4) % 4 = 0 := by omega
  have m5 : (4 * i + 5) % 4 = 1 := by omega
  have m6 : (4 * i + 6) % 4 = 2 := by omega
  have m7 : (4 * i + 7) % 4 = 3 := by omega
  have hs : ugP [ubN x0.toUInt32.toNat 0, ubN x0.toUInt32.toNat 1, ubN x0.toUInt32.toNat 2, ubN x0.toUInt32.toNat 3, ubN x1.toUInt32.toNat 0, ubN x1.toUInt32.toNat 1, ubN x1.toUInt32.toNat 2, ubN x1.toUInt32.toNat 3] = x0.toUInt32.toNat + x1.toUInt32.toNat * 4294967296 := by
    rw [ugP_8, ubN_sum x0.toUInt32.toNat_lt, ubN_sum x1.toUInt32.toNat_lt]
  have hQ' : ∀ d' acts', Q (.long (ugP [ubN x0.toUInt32.toNat 0, ubN x0.toUInt32.toNat 1, ubN x0.toUInt32.toNat 2, ubN x0.toUInt32.toNat 3, ubN x1.toUInt32.toNat 0, ubN x1.toUInt32.toNat 1, ubN x1.toUInt32.toNat 2, ubN x1.toUInt32.toNat 3]).toUInt64.toInt64) d' acts' s := fun d' acts' => by
    rw [hs]; exact hQ d' acts'
  simp only [UnsafeMem.get, wp_bind', ug_locate hA hvm hk hkind hneg hoff, hr, List.mapM, List.mapM.loop, ug_byte hA hvm q0 h0, ug_byte hA hvm q1 h0, ug_byte hA hvm q2 h0, ug_byte hA hvm q3 h0,
    ug_byte hA hvm q4 h1, ug_byte hA hvm q5 h1, ug_byte hA hvm q6 h1, ug_byte hA hvm q7 h1, wp_pure', m0, m1, m2, m3, m4, m5, m6, m7]
  exact hQ' _ _
end
end
theorem okUG : Jvm.Cond.native ugY ∈ lw_tbl ∧ Jvm.Cond.instanceMethod ugY ∈ lw_tbl ∧ Jvm.Cond.selects "jdk/internal/misc/Unsafe" ugY ugY ∈ lw_tbl := by decide +kernel
abbrev UG : Type := Addr × Addr × Cell × Nat × Int64 × Int32 × Int32
def UP (g : UG) (a : Array Value) (U : State) : Prop := a = #[.ref g.1, .ref g.2.1, .long g.2.2.2.2.1] ∧ U.heap[g.2.1]? = some g.2.2.1 ∧ g.2.2.1.vm = .none ∧ (∃ (k : Class) (comp : ClassId), U.vm.classes[g.2.2.1.cls]? = some k ∧ k.kind = .array comp .int) ∧ ¬ g.2.2.2.2.1 < 0 ∧ g.2.2.2.2.1.toNatClampNeg = 16 + 4 * g.2.2.2.1 ∧ g.2.2.1.slots[g.2.2.2.1]? = some (.int g.2.2.2.2.2.1) ∧ g.2.2.1.slots[g.2.2.2.1 + 1]? = some (.int g.2.2.2.2.2.2)
section
variable {p : Program} {l : Launch} {e : Env} {R : Room} {s : State} {m : MethodId} {args : Array Value} {below : List Frame} {meth : Method} {c : Code} {Q : State → Prop} {S0 : State} {D : va_G} {g0 : Nat × Nat} {M n0 w0 : Nat}
theorem ug_pays {W9 len : Nat} (hnat : (Cond.native ugY).before args s = true) (hinst : (Cond.instanceMethod ugY).before args s = true) (hfr : 1 ≤ R.frames) (hlo : W9 + 17 ≤ R.locals) :
    Back l R p e below s args ugY len W9 (fun A a => ∃ g : UG, UP g a A.U) (fun A a v B => B = A ∧ ∀ g : UG, UP g a A.U → v = some (.long (lJ g.2.2.2.2.2.1 g.2.2.2.2.2.2))) :=
  Free.Back.of_nativeQ (P := UP) (val := fun g : UG => some (.long (lJ g.2.2.2.2.2.1 g.2.2.2.2.2.2))) (words := 4) (ug_row p) (Free.nativeInstance hnat hinst ug_desc) hfr (by rw [show nativeFrameWords ugY.cls ugY.name 4 = 6 from by decide +kernel]; omega) fun g U a m _ hst hps hP => by
    obtain ⟨u, arr, A, i, off, x0, x1⟩ := g
    obtain ⟨rfl, hA, hvm, ⟨k, comp, hk, hkind⟩, hneg, hoff, h0, h1⟩ := hP
    dsimp only at hA hvm hk hkind hneg hoff h0 h1
    refine ⟨rfl, by simp [seenByNative, hst, hps, narrow], fun fs Q hq => ?_⟩
    show wp (do let v ← UnsafeMem.get .long (.ref arr) off .plain; Jvm.mark "nat.jdk_internal_misc_Unsafe.get"; Pure.pure (some v)) Q _ e false [] (U.setFrames fs)
    simp only [wp_bind']
    refine ug_get (s := U.setFrames fs) (A := A) (k := k) (comp := comp) (i := i) hA hvm hk hkind hneg hoff h0 h1 fun d' acts' => ?_
    simp
    exact hq _ _
theorem prim_get (C : aCx p s m meth c S0 D g0 M) {O : String} {k pc : Nat} (hown : s.vm.findClass O = some m.cls) (hlink : (Cond.methodLink O k ugY).before args s = true) {ls : aLs} {rest : List Value} {H : aH} {u a : Nat} {off v : Int64}
    (hrc : recv 0 11 [.ref u] H = true) (hv : pGL (H.1 a) off = some v) (hframes : 1 ≤ R.frames) (hlocals : catS rest + 100 ≤ R.locals) (hd : decode c.code pc = .ok (.invokevirtual k, 3))
    (kk : Wq p l e R s m args below meth c Q S0 D g0 (mML M) n0 w0 (pc + 3, ls, .long v :: rest, H)) : Wq p l e R s m args below meth c Q S0 D g0 (mML M) n0 w0 (pc, ls, .long off :: .ref a :: .ref u :: rest, H) := by
  have hal := C.2.2.2.2.2.2.2.2.2.2.2.2
  have hw := fun {w : Jvm.Cond} (hw : w ∈ lw_tbl) (hg : goodWord w = true) => cx_word C hw hg args s C.2.2.2.2.1
  have hnat := hw okUG.1 rfl
  have hinst := hw okUG.2.1 rfl
  have hsel := hw okUG.2.2 rfl
  intro Hr lsr locs hR hL hl T hT X
  cases ha : H.1 a with
  | none => rw [ha] at hv; cases hv
  | some x =>
    rw [ha] at hv
    match x, hv, ha with
    | .inl (.int, N, .inl f), hv, ha =>
      have hv : (if 16 ≤ off.toInt ∧ off.toInt % 8 = 0 ∧ ((off.toInt - 16) / 4).toNat + 1 < N then some (lJ (f ((off.toInt - 16) / 4).toNat) (f (((off.toInt - 16) / 4).toNat + 1))) else none) = some v := hv
      split at hv
      next hc =>
        cases hv
        obtain ⟨h16, h8, hN⟩ := hc
        obtain ⟨cA, ty', e1, e2, e3, e4, e5, e6⟩ := hR.2.1 a _ ha
        have hty : ty' = .int := e4.elim (fun z => z.symm) (fun z => by cases z.1)
        subst hty
        have hu : u = H.2.2.2.2 := by
          have hrc : (u == H.2.2.2.2) = true := hrc
          simpa using hrc
        rw [hR.2.2.2.2.2] at hu
        obtain ⟨cell, y1, q3, y3⟩ := C.2.2.2.2.2.2.2.2.1.2
        rw [← hu] at y1
        have q1 : Hr[u]? = some cell := by rw [hR.2.2.2.2.1 u (Array.getElem?_eq_some_iff.mp y1).1]; exact y1
        have hcls : s.vm.findClass "jdk/internal/misc/Unsafe" = some cell.cls := by rw [hal.findClass]; exact y3
        -- the call
        obtain ⟨mk, methM, hnamed, hmethM, hstM, habM⟩ := Cond.instanceMethod_spec hinst
        obtain ⟨rS, kS, methS, hnS, hmS, hkS, N9⟩ := NativeOf.of_instance hnat hinst ug_desc
        cases hnamed.symm.trans hnS
        cases hmethM.symm.trans hmS
        obtain ⟨c2', r2, m2, s1, s2, s3, s4, kP, hkP, hkPi⟩ := Cond.selects_spec hsel
        cases hcls.symm.trans s1
        cases (State.methodFound?_of_named hnamed (by decide)).symm.trans s2
        cases hnamed.symm.trans s3
        have hcell : T.heap[u]? = some cell := by rw [hT]; exact q1
        have hselP : selectMethod e.platform s.vm cell.cls mk = .method mk := by rw [Launch.admits_selectMethod X.admits]; exact s4
        obtain ⟨vm₁, X₁, hstep₁⟩ := X.invokevirtual C.1 hown hlink hnamed hmethM hstM hkP hkPi (by decide) (a := u) (cell := cell) hcell
          (fun z h => by rw [h] at q3; cases q3) hselP hmethM habM hkP hkPi (g := F0 m pc lsr (.long off :: .ref a :: .ref u :: rest)) rfl (argsL := [.ref a, .long off]) (rest := rest) (by rw [N9.sig]; rfl) rfl hd
        have hi : off.toNatClampNeg = 16 + 4 * ((off.toInt - 16) / 4).toNat := by
          show off.toInt.toNat = _
          omega
        have hneg : ¬ off < 0 := fun z => by
          have := Int64.lt_iff_toInt_lt.mp z
          rw [Int64.toInt_zero] at this
          omega
        obtain ⟨z1, k1, hk1, cm1, hkk1⟩ := arrOfT_moved (u := s) (E := T.setVm vm₁) X₁.warmed.alike (fun n z => cx_arr C e2 n z) N (fun j => .int (f j))
        have hUP : UP (u, a, arrV cA N (fun j => .int (f j)), ((off.toInt - 16) / 4).toNat, off, f ((off.toInt - 16) / 4).toNat, f (((off.toInt - 16) / 4).toNat + 1)) (Value.ref u :: [.ref a, .long off]).toArray (T.setVm vm₁) :=
          ⟨rfl, (show T.heap[a]? = _ by rw [hT]; exact e1), rfl, ⟨k1, cm1, hk1, hkk1⟩, hneg, hi, arrV_read _ _ (Nat.lt_of_succ_lt hN), arrV_read _ _ hN⟩
        obtain ⟨v9, B9, X', ⟨hB, hpost⟩, hsteps⟩ := (ug_pays (W9 := 8 + catS rest) hnat hinst hframes (by omega) : Back l R p e below s args ugY 3 (8 + catS rest) _ _) m meth c ⟨T.setVm vm₁, locs, H.2.1 - n0, H.2.2.1 - w0⟩ (F0 m pc lsr rest) (.invokevirtual k) mk (Value.ref u :: [.ref a, .long off]).toArray X₁ rfl (by rw [C.2.2.1]; exact LR_size hL) hd
          (by show 2 * 0 + catS rest ≤ _; omega) (X₁.named hnamed) ⟨_, hUP⟩
        have hv9 := hpost _ hUP
        subst hB
        subst hv9
        obtain ⟨t, a1, b1⟩ := kk Hr lsr locs hR hL hl (T.setVm vm₁) hT X'
        exact ⟨t, hstep₁ _ (fun acts => by rw [doInvoke_state]; exact hsteps.trans a1), b1⟩
      next => cases hv
end
