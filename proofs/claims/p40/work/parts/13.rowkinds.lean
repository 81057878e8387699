/-! ===== a law an instruction ===== -/
theorem tabD {M : Nat} {T : List (Nat × Instr × Nat)} (h : (T.all fun e => decide (mDec M e.1 = some e.2)) = true) (j : Nat) {pc : Nat} {il : Instr × Nat} (he : T[j]? = some (pc, il)) : mDec M pc = some il := by
  have h1 := List.all_eq_true.mp h (pc, il) (List.mem_of_getElem? he)
  simpa only [decide_eq_true_eq] using h1
section
variable {d M pc len tg : Nat} {ls ls' : aLs} {st : List Value} {H : aH} {h : aHf} {r : Nat × Nat × Nat × Nat} {k : Nat} {kf : Fin 4} {x y : Int32} {X Y : Int64} {D E : UInt64} {a b : Nat} {o : Int}
theorem K_ic {n : Int} (hd : mDec M pc = some (.iconst n, 1)) : L d M pc ls st H = L d M (pc + 1) ls (.int (iI n) :: st) H := R_n hd rfl
theorem K_lc0 (hd : mDec M pc = some (.lconst 0, 1)) : L d M pc ls st H = L d M (pc + 1) ls (.long (lI 0) :: st) H := R_n hd rfl
theorem K_lc1 (hd : mDec M pc = some (.lconst 1, 1)) : L d M pc ls st H = L d M (pc + 1) ls (.long (lI 1) :: st) H := R_n hd rfl
theorem K_null (hd : mDec M pc = some (.aconst_null, 1)) : L d M pc ls st H = L d M (pc + 1) ls (.null :: st) H := R_n hd rfl
theorem K_il (hd : mDec M pc = some (.iload k, 2)) (hl : ldL ls k = some (.int x)) : L d M pc ls st H = L d M (pc + 2) ls (.int x :: st) H := R_n hd (by show (ldL ls k).bind _ = _; rw [hl]; rfl)
theorem K_iln (hd : mDec M pc = some (.iload_n kf, 1)) (hl : ldL ls kf = some (.int x)) : L d M pc ls st H = L d M (pc + 1) ls (.int x :: st) H := R_n hd (by show (ldL ls kf).bind _ = _; rw [hl]; rfl)
theorem K_ll (hd : mDec M pc = some (.lload k, 2)) (hl : ldL ls k = some (.long X)) : L d M pc ls st H = L d M (pc + 2) ls (.long X :: st) H := R_n hd (by show (ldL ls k).bind _ = _; rw [hl]; rfl)
theorem K_lln (hd : mDec M pc = some (.lload_n kf, 1)) (hl : ldL ls kf = some (.long X)) : L d M pc ls st H = L d M (pc + 1) ls (.long X :: st) H := R_n hd (by show (ldL ls kf).bind _ = _; rw [hl]; rfl)
theorem K_dl (hd : mDec M pc = some (.dload k, 2)) (hl : ldL ls k = some (.double D)) : L d M pc ls st H = L d M (pc + 2) ls (.double D :: st) H := R_n hd (by show (ldL ls k).bind _ = _; rw [hl]; rfl)
theorem K_dln (hd : mDec M pc = some (.dload_n kf, 1)) (hl : ldL ls kf = some (.double D)) : L d M pc ls st H = L d M (pc + 1) ls (.double D :: st) H := R_n hd (by show (ldL ls kf).bind _ = _; rw [hl]; rfl)
theorem K_al (hd : mDec M pc = some (.aload k, 2)) (hl : ldL ls k = some (.ref a)) : L d M pc ls st H = L d M (pc + 2) ls (.ref a :: st) H := R_n hd (by show (ldL ls k).bind _ = _; rw [hl]; rfl)
theorem K_aln (hd : mDec M pc = some (.aload_n kf, 1)) (hl : ldL ls kf = some (.ref a)) : L d M pc ls st H = L d M (pc + 1) ls (.ref a :: st) H := R_n hd (by show (ldL ls kf).bind _ = _; rw [hl]; rfl)
theorem K_alN (hd : mDec M pc = some (.aload k, 2)) (hl : ldL ls k = some .null) : L d M pc ls st H = L d M (pc + 2) ls (.null :: st) H := R_n hd (by show (ldL ls k).bind _ = _; rw [hl]; rfl)
theorem K_alnN (hd : mDec M pc = some (.aload_n kf, 1)) (hl : ldL ls kf = some .null) : L d M pc ls st H = L d M (pc + 1) ls (.null :: st) H := R_n hd (by show (ldL ls kf).bind _ = _; rw [hl]; rfl)
theorem K_is (hd : mDec M pc = some (.istore k, 2)) (hs : stL ls k (.int x) = some ls') : L d M pc ls (.int x :: st) H = L d M (pc + 2) ls' st H := R_n hd (by show (stL ls k (.int x)).bind _ = _; rw [hs]; rfl)
theorem K_isn (hd : mDec M pc = some (.istore_n kf, 1)) (hs : stL ls kf (.int x) = some ls') : L d M pc ls (.int x :: st) H = L d M (pc + 1) ls' st H := R_n hd (by show (stL ls kf (.int x)).bind _ = _; rw [hs]; rfl)
theorem K_ls (hd : mDec M pc = some (.lstore k, 2)) (hs : stL ls k (.long X) = some ls') : L d M pc ls (.long X :: st) H = L d M (pc + 2) ls' st H := R_n hd (by show (stL ls k (.long X)).bind _ = _; rw [hs]; rfl)
theorem K_lsn (hd : mDec M pc = some (.lstore_n kf, 1)) (hs : stL ls kf (.long X) = some ls') : L d M pc ls (.long X :: st) H = L d M (pc + 1) ls' st H := R_n hd (by show (stL ls kf (.long X)).bind _ = _; rw [hs]; rfl)
theorem K_ds (hd : mDec M pc = some (.dstore k, 2)) (hs : stL ls k (.double D) = some ls') : L d M pc ls (.double D :: st) H = L d M (pc + 2) ls' st H := R_n hd (by show (stL ls k (.double D)).bind _ = _; rw [hs]; rfl)
theorem K_dsn (hd : mDec M pc = some (.dstore_n kf, 1)) (hs : stL ls kf (.double D) = some ls') : L d M pc ls (.double D :: st) H = L d M (pc + 1) ls' st H := R_n hd (by show (stL ls kf (.double D)).bind _ = _; rw [hs]; rfl)
theorem K_as (hd : mDec M pc = some (.astore k, 2)) (hs : stL ls k (.ref a) = some ls') : L d M pc ls (.ref a :: st) H = L d M (pc + 2) ls' st H := R_n hd (by show (stL ls k (.ref a)).bind _ = _; rw [hs]; rfl)
theorem K_asn (hd : mDec M pc = some (.astore_n kf, 1)) (hs : stL ls kf (.ref a) = some ls') : L d M pc ls (.ref a :: st) H = L d M (pc + 1) ls' st H := R_n hd (by show (stL ls kf (.ref a)).bind _ = _; rw [hs]; rfl)
theorem K_asN (hd : mDec M pc = some (.astore k, 2)) (hs : stL ls k .null = some ls') : L d M pc ls (.null :: st) H = L d M (pc + 2) ls' st H := R_n hd (by show (stL ls k .null).bind _ = _; rw [hs]; rfl)
theorem K_asnN (hd : mDec M pc = some (.astore_n kf, 1)) (hs : stL ls kf .null = some ls') : L d M pc ls (.null :: st) H = L d M (pc + 1) ls' st H := R_n hd (by show (stL ls kf .null).bind _ = _; rw [hs]; rfl)
theorem K_inc {n : Int} (hd : mDec M pc = some (.iinc k n, 3)) (hl : ldL ls k = some (.int x)) (hs : stL ls k (.int (x + iI n)) = some ls') : L d M pc ls st H = L d M (pc + 3) ls' st H := R_n hd (by
  show (match ldL ls k with | some (.int x) => (stL ls k (.int (x + Int32.ofInt n))).bind _ | _ => none) = _
  rw [hl]
  show (stL ls k (.int (x + iI n))).bind _ = _
  rw [hs]; rfl)
theorem K_iadd (hd : mDec M pc = some (.iadd, 1)) : L d M pc ls (.int y :: .int x :: st) H = L d M (pc + 1) ls (.int (x + y) :: st) H := R_n hd rfl
theorem K_isub (hd : mDec M pc = some (.isub, 1)) : L d M pc ls (.int y :: .int x :: st) H = L d M (pc + 1) ls (.int (x - y) :: st) H := R_n hd rfl
theorem K_imul (hd : mDec M pc = some (.imul, 1)) : L d M pc ls (.int y :: .int x :: st) H = L d M (pc + 1) ls (.int (x * y) :: st) H := R_n hd rfl
theorem K_iand (hd : mDec M pc = some (.iand, 1)) : L d M pc ls (.int y :: .int x :: st) H = L d M (pc + 1) ls (.int (x &&& y) :: st) H := R_n hd rfl
theorem K_ior (hd : mDec M pc = some (.ior, 1)) : L d M pc ls (.int y :: .int x :: st) H = L d M (pc + 1) ls (.int (x ||| y) :: st) H := R_n hd rfl
theorem K_ixor (hd : mDec M pc = some (.ixor, 1)) : L d M pc ls (.int y :: .int x :: st) H = L d M (pc + 1) ls (.int (x ^^^ y) :: st) H := R_n hd rfl
theorem K_ishl (hd : mDec M pc = some (.ishl, 1)) : L d M pc ls (.int y :: .int x :: st) H = L d M (pc + 1) ls (.int (x <<< (y &&& 31)) :: st) H := R_n hd rfl
theorem K_ishr (hd : mDec M pc = some (.ishr, 1)) : L d M pc ls (.int y :: .int x :: st) H = L d M (pc + 1) ls (.int (x >>> (y &&& 31)) :: st) H := R_n hd rfl
theorem K_iushr (hd : mDec M pc = some (.iushr, 1)) : L d M pc ls (.int y :: .int x :: st) H = L d M (pc + 1) ls (.int ((x.toUInt32 >>> (y.toUInt32 &&& Int32.toUInt32 31)).toInt32) :: st) H := R_n hd rfl
theorem K_ladd (hd : mDec M pc = some (.ladd, 1)) : L d M pc ls (.long Y :: .long X :: st) H = L d M (pc + 1) ls (.long (X + Y) :: st) H := R_n hd rfl
theorem K_lsub (hd : mDec M pc = some (.lsub, 1)) : L d M pc ls (.long Y :: .long X :: st) H = L d M (pc + 1) ls (.long (X - Y) :: st) H := R_n hd rfl
theorem K_lmul (hd : mDec M pc = some (.lmul, 1)) : L d M pc ls (.long Y :: .long X :: st) H = L d M (pc + 1) ls (.long (X * Y) :: st) H := R_n hd rfl
theorem K_land (hd : mDec M pc = some (.land, 1)) : L d M pc ls (.long Y :: .long X :: st) H = L d M (pc + 1) ls (.long (X &&& Y) :: st) H := R_n hd rfl
theorem K_lor (hd : mDec M pc = some (.lor, 1)) : L d M pc ls (.long Y :: .long X :: st) H = L d M (pc + 1) ls (.long (X ||| Y) :: st) H := R_n hd rfl
theorem K_lxor (hd : mDec M pc = some (.lxor, 1)) : L d M pc ls (.long Y :: .long X :: st) H = L d M (pc + 1) ls (.long (X ^^^ Y) :: st) H := R_n hd rfl
theorem K_lshl (hd : mDec M pc = some (.lshl, 1)) : L d M pc ls (.int y :: .long X :: st) H = L d M (pc + 1) ls (.long (X <<< (y.toInt64 &&& 63)) :: st) H := R_n hd rfl
theorem K_lshr (hd : mDec M pc = some (.lshr, 1)) : L d M pc ls (.int y :: .long X :: st) H = L d M (pc + 1) ls (.long (X >>> (y.toInt64 &&& 63)) :: st) H := R_n hd rfl
theorem K_lushr (hd : mDec M pc = some (.lushr, 1)) : L d M pc ls (.int y :: .long X :: st) H = L d M (pc + 1) ls (.long ((X.toUInt64 >>> (y.toInt64.toUInt64 &&& Int64.toUInt64 63)).toInt64) :: st) H := R_n hd rfl
theorem K_ineg (hd : mDec M pc = some (.ineg, 1)) : L d M pc ls (.int x :: st) H = L d M (pc + 1) ls (.int (-x) :: st) H := R_n hd rfl
theorem K_idiv (hd : mDec M pc = some (.idiv, 1)) : L d M pc ls (.int y :: .int x :: st) H = if y = 0 then none else L d M (pc + 1) ls (.int (x / y) :: st) H := R_nz hd rfl
theorem K_irem (hd : mDec M pc = some (.irem, 1)) : L d M pc ls (.int y :: .int x :: st) H = if y = 0 then none else L d M (pc + 1) ls (.int (x - x / y * y) :: st) H := R_nz hd rfl
theorem K_ldiv (hd : mDec M pc = some (.ldiv, 1)) : L d M pc ls (.long Y :: .long X :: st) H = if Y = 0 then none else L d M (pc + 1) ls (.long (X / Y) :: st) H := R_nz hd rfl
theorem K_lcmp (hd : mDec M pc = some (.lcmp, 1)) : L d M pc ls (.long Y :: .long X :: st) H = L d M (pc + 1) ls (.int (lg_cmp X Y) :: st) H := R_n hd rfl
theorem K_i2l (hd : mDec M pc = some (.i2l, 1)) : L d M pc ls (.int x :: st) H = L d M (pc + 1) ls (.long x.toInt64 :: st) H := R_n hd rfl
theorem K_l2i (hd : mDec M pc = some (.l2i, 1)) : L d M pc ls (.long X :: st) H = L d M (pc + 1) ls (.int X.toInt32 :: st) H := R_n hd rfl
theorem K_dupi (hd : mDec M pc = some (.dup, 1)) : L d M pc ls (.int x :: st) H = L d M (pc + 1) ls (.int x :: .int x :: st) H := R_n hd rfl
theorem K_dupa (hd : mDec M pc = some (.dup, 1)) : L d M pc ls (.ref a :: st) H = L d M (pc + 1) ls (.ref a :: .ref a :: st) H := R_n hd rfl
theorem K_popi (hd : mDec M pc = some (.pop, 1)) : L d M pc ls (.int x :: st) H = L d M (pc + 1) ls st H := R_n hd rfl
theorem K_popa (hd : mDec M pc = some (.pop, 1)) : L d M pc ls (.ref a :: st) H = L d M (pc + 1) ls st H := R_n hd rfl
theorem K_dup2 (hd : mDec M pc = some (.dup2, 1)) : L d M pc ls (.int x :: .ref a :: st) H = L d M (pc + 1) ls (.int x :: .ref a :: .int x :: .ref a :: st) H := R_n hd rfl
theorem K_goto (hd : mDec M pc = some (.goto o, 3)) (ht : aTg pc o = some tg) : L d M pc ls st H = L d M tg ls st H := R_n hd (by show (aTg pc o).bind _ = _; rw [ht]; rfl)
theorem K_feq (hd : mDec M pc = some (.ifCond .eq o, 3)) (ht : aTg pc o = some tg) : L d M pc ls (.int x :: st) H = if x = 0 then L d M tg ls st H else L d M (pc + 3) ls st H := R_if hd (by show (aTg pc o).bind _ = _; rw [ht]; rfl)
theorem K_fne (hd : mDec M pc = some (.ifCond .ne o, 3)) (ht : aTg pc o = some tg) : L d M pc ls (.int x :: st) H = if x = 0 then L d M (pc + 3) ls st H else L d M tg ls st H := R_if hd (by show (aTg pc o).bind _ = _; rw [ht]; rfl)
theorem K_flt (hd : mDec M pc = some (.ifCond .lt o, 3)) (ht : aTg pc o = some tg) : L d M pc ls (.int x :: st) H = if x < 0 then L d M tg ls st H else L d M (pc + 3) ls st H := R_if hd (by show (aTg pc o).bind _ = _; rw [ht]; rfl)
theorem K_fge (hd : mDec M pc = some (.ifCond .ge o, 3)) (ht : aTg pc o = some tg) : L d M pc ls (.int x :: st) H = if 0 ≤ x then L d M tg ls st H else L d M (pc + 3) ls st H := R_if hd (by show (aTg pc o).bind _ = _; rw [ht]; rfl)
theorem K_fgt (hd : mDec M pc = some (.ifCond .gt o, 3)) (ht : aTg pc o = some tg) : L d M pc ls (.int x :: st) H = if 0 < x then L d M tg ls st H else L d M (pc + 3) ls st H := R_if hd (by show (aTg pc o).bind _ = _; rw [ht]; rfl)
theorem K_fle (hd : mDec M pc = some (.ifCond .le o, 3)) (ht : aTg pc o = some tg) : L d M pc ls (.int x :: st) H = if x ≤ 0 then L d M tg ls st H else L d M (pc + 3) ls st H := R_if hd (by show (aTg pc o).bind _ = _; rw [ht]; rfl)
theorem K_ceq (hd : mDec M pc = some (.if_icmp .eq o, 3)) (ht : aTg pc o = some tg) : L d M pc ls (.int y :: .int x :: st) H = if x = y then L d M tg ls st H else L d M (pc + 3) ls st H := R_if hd (by show (aTg pc o).bind _ = _; rw [ht]; rfl)
theorem K_cne (hd : mDec M pc = some (.if_icmp .ne o, 3)) (ht : aTg pc o = some tg) : L d M pc ls (.int y :: .int x :: st) H = if x = y then L d M (pc + 3) ls st H else L d M tg ls st H := R_if hd (by show (aTg pc o).bind _ = _; rw [ht]; rfl)
theorem K_clt (hd : mDec M pc = some (.if_icmp .lt o, 3)) (ht : aTg pc o = some tg) : L d M pc ls (.int y :: .int x :: st) H = if x < y then L d M tg ls st H else L d M (pc + 3) ls st H := R_if hd (by show (aTg pc o).bind _ = _; rw [ht]; rfl)
theorem K_cge (hd : mDec M pc = some (.if_icmp .ge o, 3)) (ht : aTg pc o = some tg) : L d M pc ls (.int y :: .int x :: st) H = if y ≤ x then L d M tg ls st H else L d M (pc + 3) ls st H := R_if hd (by show (aTg pc o).bind _ = _; rw [ht]; rfl)
theorem K_cgt (hd : mDec M pc = some (.if_icmp .gt o, 3)) (ht : aTg pc o = some tg) : L d M pc ls (.int y :: .int x :: st) H = if y < x then L d M tg ls st H else L d M (pc + 3) ls st H := R_if hd (by show (aTg pc o).bind _ = _; rw [ht]; rfl)
theorem K_cle (hd : mDec M pc = some (.if_icmp .le o, 3)) (ht : aTg pc o = some tg) : L d M pc ls (.int y :: .int x :: st) H = if x ≤ y then L d M tg ls st H else L d M (pc + 3) ls st H := R_if hd (by show (aTg pc o).bind _ = _; rw [ht]; rfl)
theorem K_nu (hd : mDec M pc = some (.ifnull o, 3)) : L d M pc ls (.ref a :: st) H = L d M (pc + 3) ls st H := R_n hd rfl
theorem K_nuN (hd : mDec M pc = some (.ifnull o, 3)) (ht : aTg pc o = some tg) : L d M pc ls (.null :: st) H = L d M tg ls st H := R_n hd (by show (aTg pc o).bind _ = _; rw [ht]; rfl)
theorem K_nn (hd : mDec M pc = some (.ifnonnull o, 3)) (ht : aTg pc o = some tg) : L d M pc ls (.ref a :: st) H = L d M tg ls st H := R_n hd (by show (aTg pc o).bind _ = _; rw [ht]; rfl)
theorem K_nnN (hd : mDec M pc = some (.ifnonnull o, 3)) : L d M pc ls (.null :: st) H = L d M (pc + 3) ls st H := R_n hd rfl
theorem K_alen (hd : mDec M pc = some (.arraylength, 1)) : L d M pc ls (.ref a :: st) (h, r) = (gN (h a)).bind fun n => L d M (pc + 1) ls (.int (nI n) :: st) (h, r) := R_b hd rfl
theorem K_iald (hd : mDec M pc = some (.iaload, 1)) : L d M pc ls (.int x :: .ref a :: st) (h, r) = (gI (h a) x).bind fun v => L d M (pc + 1) ls (.int v :: st) (h, r) := R_b hd rfl
theorem K_lald (hd : mDec M pc = some (.laload, 1)) : L d M pc ls (.int x :: .ref a :: st) (h, r) = (gL (h a) x).bind fun v => L d M (pc + 1) ls (.long v :: st) (h, r) := R_b hd rfl
theorem K_bald (hd : mDec M pc = some (.baload, 1)) : L d M pc ls (.int x :: .ref a :: st) (h, r) = (gZ (h a) x).bind fun v => L d M (pc + 1) ls (.int v :: st) (h, r) := R_b hd rfl
theorem K_aald (hd : mDec M pc = some (.aaload, 1)) : L d M pc ls (.int x :: .ref a :: st) (h, r) = (gP (h a) x).bind fun v => L d M (pc + 1) ls (v :: st) (h, r) := R_b hd rfl
theorem K_iast (hd : mDec M pc = some (.iastore, 1)) : L d M pc ls (.int y :: .int x :: .ref a :: st) (h, r) = (wr h a (sI (h a) x y)).bind fun h' => L d M (pc + 1) ls st (h', r) := R_b hd rfl
theorem K_bast (hd : mDec M pc = some (.bastore, 1)) : L d M pc ls (.int y :: .int x :: .ref a :: st) (h, r) = (wr h a (sZ (h a) x y)).bind fun h' => L d M (pc + 1) ls st (h', r) := R_b hd rfl
theorem K_last (hd : mDec M pc = some (.lastore, 1)) : L d M pc ls (.long Y :: .int x :: .ref a :: st) (h, r) = (wr h a (sL (h a) x Y)).bind fun h' => L d M (pc + 1) ls st (h', r) := R_b hd rfl
theorem K_aast (hd : mDec M pc = some (.aastore, 1)) : L d M pc ls (.ref b :: .int x :: .ref a :: st) (h, r) = (wr h a (sP (h a) (h b) x b)).bind fun h' => L d M (pc + 1) ls st (h', r) := R_b hd rfl
end
