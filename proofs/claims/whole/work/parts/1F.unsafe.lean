/-! ===== Unsafe.getLong over an int array ===== -/
section
theorem or_l {α : Type _} {x y : Option α} {z : α} (h : x = some z) : x.or y = some z := by rw [h]; rfl
theorem or_r {α : Type _} {x y : Option α} {z : α} (h : x.isNone = true) (e : y = some z) : x.or y = some z := by
  rw [Option.isNone_iff_eq_none.mp h, e]; rfl
abbrev ugY : MethodName := ⟨"jdk/internal/misc/Unsafe", "getLong", "(Ljava/lang/Object;J)J"⟩
set_option maxRecDepth 1000000 in
set_option maxHeartbeats 4000000 in
theorem ug_find : NativeRow.find? Jvm.natives "jdk/internal/misc/Unsafe" "getLong" "(Ljava/lang/Object;J)J" = some (Native.jdk_internal_misc_Unsafe.memory.getRow "Long" "J" .long "" .plain) := by
  unfold NativeRow.find? Jvm.natives
  iterate 30 rw [List.find?_append]
  iterate 29 refine or_l ?_
  exact or_r (by decide +kernel) rfl
theorem ug_row (p : Program) : NativeRow.find? p.tables.natives "jdk/internal/misc/Unsafe" "getLong" "(Ljava/lang/Object;J)J" = some (Native.jdk_internal_misc_Unsafe.memory.getRow "Long" "J" .long "" .plain) := by
  cases p <;> exact ug_find
theorem ug_desc : parseMethodDescriptor ugY.desc = some { parameters := [.object "java/lang/Object", .long], returnType := some .long } := by decide +kernel
section
variable {E : CtlPost} {e : Env} {d : Bool} {acts : List Action} {s : State}
theorem ug_locate {a : Addr} {A : Cell} {k : Class} {comp : ClassId} {i : Nat} {off : Int64} {Q : UnsafeMem.Target → Pre}
    (hA : s.heap[a]? = some A) (hvm : A.vm = .none) (hk : s.vm.classes[A.cls]? = some k) (hkind : k.kind = .array comp .int) (hneg : ¬ off < 0) (hoff : off.toNatClampNeg = 16 + i) : wp (UnsafeMem.locate (.ref a) off .long) Q E e d acts s ↔ Q (UnsafeMem.Target.bytes a .int i) d acts s := by
  simp [UnsafeMem.locate, hneg, hoff, hA, Cell.info, hvm, hk, hkind, UnsafeMem.arrayBase, UnsafeMem.scaleOf, UnsafeMem.isRefType]
def ubN (u k : Nat) : Nat := u % 4294967296 / 2 ^ (8 * k) % 256
def ugP (bs : List Nat) : Nat := (bs.zipIdx.map fun (b, k) => b * 2 ^ (8 * k)).sum
theorem ubN_sum {u : Nat} (h : u < 4294967296) : ubN u 0 + ubN u 1 * 256 + ubN u 2 * 65536 + ubN u 3 * 16777216 = u := by
  have e0 : ubN u 0 = u % 256 := by unfold ubN; rw [Nat.mod_eq_of_lt h, show 2 ^ (8 * 0) = 1 from rfl, Nat.div_one]
  have e1 : ubN u 1 = u / 256 % 256 := by unfold ubN; rw [Nat.mod_eq_of_lt h, show 2 ^ (8 * 1) = 256 from rfl]
  have e2 : ubN u 2 = u / 65536 % 256 := by unfold ubN; rw [Nat.mod_eq_of_lt h, show 2 ^ (8 * 2) = 65536 from rfl]
  have e3 : ubN u 3 = u / 16777216 % 256 := by unfold ubN; rw [Nat.mod_eq_of_lt h, show 2 ^ (8 * 3) = 16777216 from rfl]
  rw [e0, e1, e2, e3]
  omega
theorem ug_pk (P : Nat → Nat) (a0 a1 a2 a3 a4 a5 a6 a7 : Nat) : (([a0, a1, a2, a3, a4, a5, a6, a7] : List Nat).zipIdx.map fun (b, k) => b * P k).sum = a0 * P 0 + (a1 * P 1 + (a2 * P 2 + (a3 * P 3 + (a4 * P 4 + (a5 * P 5 + (a6 * P 6 + (a7 * P 7 + 0))))))) := rfl
theorem ug_fin (a0 a1 a2 a3 a4 a5 a6 a7 p1 p2 p3 w : Nat) : a0 * 1 + (a1 * p1 + (a2 * p2 + (a3 * p3 + (a4 * w + (a5 * (p1 * w) + (a6 * (p2 * w) + (a7 * (p3 * w) + 0))))))) = (a0 + a1 * p1 + a2 * p2 + a3 * p3) + (a4 + a5 * p1 + a6 * p2 + a7 * p3) * w := by
  simp only [Nat.add_mul, Nat.mul_assoc, Nat.add_assoc, Nat.mul_one, Nat.add_zero]
def ugW (k : Nat) : Nat := 2 ^ (8 * k)
theorem ugP_8 (a0 a1 a2 a3 a4 a5 a6 a7 : Nat) : ugP [a0, a1, a2, a3, a4, a5, a6, a7] = (a0 + a1 * 256 + a2 * 65536 + a3 * 16777216) + (a4 + a5 * 256 + a6 * 65536 + a7 * 16777216) * 4294967296 := by
  have h : ugP [a0, a1, a2, a3, a4, a5, a6, a7] = (([a0, a1, a2, a3, a4, a5, a6, a7] : List Nat).zipIdx.map fun (b, k) => b * ugW k).sum := rfl
  have w0 : ugW 0 = 1 := rfl
  have w1 : ugW 1 = 256 := rfl
  have w2 : ugW 2 = 65536 := rfl
  have w3 : ugW 3 = 16777216 := rfl
  have w4 : ugW 4 = 4294967296 := rfl
  have w5 : ugW 5 = 256 * 4294967296 := rfl
  have w6 : ugW 6 = 65536 * 4294967296 := rfl
  have w7 : ugW 7 = 16777216 * 4294967296 := rfl
  rw [h, ug_pk, w0, w1, w2, w3, w4, w5, w6, w7]
  exact ug_fin a0 a1 a2 a3 a4 a5 a6 a7 256 65536 16777216 4294967296
theorem ug_byte {a : Addr} {A : Cell} {q j : Nat} {x : Int32} {Q : Nat → Pre} (hA : s.heap[a]? = some A) (hvm : A.vm = .none) (hq : q / 4 = j) (h : A.slots[j]? = some (.int x)) :
    wp (UnsafeMem.readByte a .int q .plain) Q E e d acts s ↔ Q (ubN x.toUInt32.toNat (q % 4)) d (readActs ⟨a, j⟩ .plain (.int x) acts) s := by
  simp [UnsafeMem.readByte, UnsafeMem.scaleOf, UnsafeMem.bitsOf, hA, hvm, hq, h, ubN]
theorem ug_get {a : Addr} {A : Cell} {k : Class} {comp : ClassId} {i : Nat} {off : Int64} {x0 x1 : Int32} {Q : Value → Pre}
    (hA : s.heap[a]? = some A) (hvm : A.vm = .none) (hk : s.vm.classes[A.cls]? = some k) (hkind : k.kind = .array comp .int) (hneg : ¬ off < 0) (hoff : off.toNatClampNeg = 16 + 4 * i)
    (h0 : A.slots[i]? = some (.int x0)) (h1 : A.slots[i + 1]? = some (.int x1)) (hQ : ∀ d' acts', Q (.long (lJ x0 x1)) d' acts' s) : wp (UnsafeMem.get .long (.ref a) off .plain) Q E e d acts s := by
  have hr : List.range (UnsafeMem.scaleOf .long) = [0, 1, 2, 3, 4, 5, 6, 7] := rfl
  have q0 : (4 * i + 0) / 4 = i := by omega
  have q1 : (4 * i + 1) / 4 = i := by omega
  have q2 : (4 * i + 2) / 4 = i := by omega
  have q3 : (4 * i + 3) / 4 = i := by omega
  have q4 : (4 * i + 4) / 4 = i + 1 := by omega
  have q5 : (4 * i + 5) / 4 = i + 1 := by omega
  have q6 : (4 * i + 6) / 4 = i + 1 := by omega
  have q7 : (4 * i + 7) / 4 = i + 1 := by omega
  have m0 : (4 * i + 0) % 4 = 0 := by omega
  have m1 : (4 * i + 1) % 4 = 1 := by omega
  have m2 : (4 * i + 2) % 4 = 2 := by omega
  have m3 : (4 * i + 3) % 4 = 3 := by omega
  have m4 : (4 * i + 4) % 4 = 0 := by omega
  have m5 : (4 * i + 5) % 4 = 1 := by omega
  have m6 : (4 * i + 6) % 4 = 2 := by omega
  have m7 : (4 * i + 7) % 4 = 3 := by omega
  have hs : ugP [ubN x0.toUInt32.toNat 0, ubN x0.toUInt32.toNat 1, ubN x0.toUInt32.toNat 2, ubN x0.toUInt32.toNat 3, ubN x1.toUInt32.toNat 0, ubN x1.toUInt32.toNat 1, ubN x1.toUInt32.toNat 2, ubN x1.toUInt32.toNat 3] = x0.toUInt32.toNat + x1.toUInt32.toNat * 4294967296 := by
    rw [ugP_8, ubN_sum x0.toUInt32.toNat_lt, ubN_sum x1.toUInt32.toNat_lt]
  have hQ' : ∀ d' acts', Q (.long (ugP [ubN x0.toUInt32.toNat 0, ubN x0.toUInt32.toNat 1, ubN x0.toUInt32.toNat 2, ubN x0.toUInt32.toNat 3, ubN x1.toUInt32.toNat 0, ubN x1.toUInt32.toNat 1, ubN x1.toUInt32.toNat 2, ubN x1.toUInt32.toNat 3]).toUInt64.toInt64) d' acts' s := fun d' acts' => by
    rw [hs]; exact hQ d' acts'
  simp only [UnsafeMem.get, wp_bind', ug_locate hA hvm hk hkind hneg hoff, hr, List.mapM, List.mapM.loop, ug_byte hA hvm q0 h0, ug_byte hA hvm q1 h0, ug_byte hA hvm q2 h0, ug_byte hA hvm q3 h0,
    ug_byte hA hvm q4 h1, ug_byte hA hvm q5 h1, ug_byte hA hvm q6 h1, ug_byte hA hvm q7 h1, wp_pure', m0, m1, m2, m3, m4, m5, m6, m7]
  exact hQ' _ _
end
end
theorem okUG : Jvm.Cond.native ugY ∈ lw_tbl ∧ Jvm.Cond.instanceMethod ugY ∈ lw_tbl ∧ Jvm.Cond.selects "jdk/internal/misc/Unsafe" ugY ugY ∈ lw_tbl := by decide +kernel
