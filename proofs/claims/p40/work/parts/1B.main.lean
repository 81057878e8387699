/-! ===== the whole of a step, and of a run ===== -/
theorem mDec_len {M pc len : Nat} {i : Instr} (h : mDec M pc = some (i, len)) : ilen i = 0 ∨ ilen i = len := by
  unfold mDec at h
  split at h
  next => cases h
  next r hr =>
    split at h
    next q hq =>
      split at h
      next hc => cases h; exact hc
      next => cases h
    next => cases h
section
variable {p : Program} {l : Launch} {e : Env} {R : Room} {s : State} {m : MethodId} {args : Array Value} {below : List Frame} {meth : Method} {c : Code} {Q : State → Prop} {S0 : State} {D : va_G} {g0 : Nat × Nat} {M n0 w0 : Nat}
theorem stepS (C : aCx p s m meth c S0 D g0 M) {pc len : Nat} {i : Instr} {ls : aLs} {st : List Value} {H : aH} {q : aQ} (hm : mDec M pc = some (i, len)) (h : aS M pc len i ls st H = some (.inl q)) (hc : q.2.2.2.2.1 - n0 ≤ R.cells) (hs : q.2.2.2.2.2.1 - w0 ≤ R.slots) (hn : n0 ≤ H.2.1) (hw0 : w0 ≤ H.2.2.1)
    (k : Wq p l e R s m args below meth c Q S0 D g0 (mML M) n0 w0 q) : Wq p l e R s m args below meth c Q S0 D g0 (mML M) n0 w0 (pc, ls, st, H) := by
  have hlen := mDec_len hm
  cases i with
  | iconst n =>
    obtain rfl : 1 = len := hlen.resolve_left (Nat.succ_ne_zero _)
    exact st_iconst C hm h k
  | bipush n =>
    obtain rfl : 2 = len := hlen.resolve_left (Nat.succ_ne_zero _)
    exact st_bipush C hm h k
  | sipush n =>
    obtain rfl : 3 = len := hlen.resolve_left (Nat.succ_ne_zero _)
    exact st_sipush C hm h k
  | lconst n =>
    obtain rfl : 1 = len := hlen.resolve_left (Nat.succ_ne_zero _)
    exact st_lconst C hm h k
  | dconst n =>
    obtain rfl : 1 = len := hlen.resolve_left (Nat.succ_ne_zero _)
    exact st_dconst C hm h k
  | aconst_null =>
    obtain rfl : 1 = len := hlen.resolve_left (Nat.succ_ne_zero _)
    exact st_null C hm h k
  | ldc j =>
    obtain rfl : 2 = len := hlen.resolve_left (Nat.succ_ne_zero _)
    exact st_ldc C hm h k
  | ldc_w j =>
    obtain rfl : 3 = len := hlen.resolve_left (Nat.succ_ne_zero _)
    exact st_ldcw C hm h k
  | ldc2_w j =>
    obtain rfl : 3 = len := hlen.resolve_left (Nat.succ_ne_zero _)
    exact st_ldc2 C hm h k
  | iload j =>
    obtain rfl : 2 = len := hlen.resolve_left (Nat.succ_ne_zero _)
    exact st_iload C hm h k
  | lload j =>
    obtain rfl : 2 = len := hlen.resolve_left (Nat.succ_ne_zero _)
    exact st_lload C hm h k
  | dload j =>
    obtain rfl : 2 = len := hlen.resolve_left (Nat.succ_ne_zero _)
    exact st_dload C hm h k
  | aload j =>
    obtain rfl : 2 = len := hlen.resolve_left (Nat.succ_ne_zero _)
    exact st_aload C hm h k
  | iload_n j =>
    obtain rfl : 1 = len := hlen.resolve_left (Nat.succ_ne_zero _)
    exact st_iloadn C hm h k
  | lload_n j =>
    obtain rfl : 1 = len := hlen.resolve_left (Nat.succ_ne_zero _)
    exact st_lloadn C hm h k
  | dload_n j =>
    obtain rfl : 1 = len := hlen.resolve_left (Nat.succ_ne_zero _)
    exact st_dloadn C hm h k
  | aload_n j =>
    obtain rfl : 1 = len := hlen.resolve_left (Nat.succ_ne_zero _)
    exact st_aloadn C hm h k
  | istore j =>
    obtain rfl : 2 = len := hlen.resolve_left (Nat.succ_ne_zero _)
    exact st_istore C hm h k
  | lstore j =>
    obtain rfl : 2 = len := hlen.resolve_left (Nat.succ_ne_zero _)
    exact st_lstore C hm h k
  | dstore j =>
    obtain rfl : 2 = len := hlen.resolve_left (Nat.succ_ne_zero _)
    exact st_dstore C hm h k
  | astore j =>
    obtain rfl : 2 = len := hlen.resolve_left (Nat.succ_ne_zero _)
    exact st_astore C hm h k
  | istore_n j =>
    obtain rfl : 1 = len := hlen.resolve_left (Nat.succ_ne_zero _)
    exact st_istoren C hm h k
  | lstore_n j =>
    obtain rfl : 1 = len := hlen.resolve_left (Nat.succ_ne_zero _)
    exact st_lstoren C hm h k
  | dstore_n j =>
    obtain rfl : 1 = len := hlen.resolve_left (Nat.succ_ne_zero _)
    exact st_dstoren C hm h k
  | astore_n j =>
    obtain rfl : 1 = len := hlen.resolve_left (Nat.succ_ne_zero _)
    exact st_astoren C hm h k
  | iinc j n =>
    obtain rfl : 3 = len := hlen.resolve_left (Nat.succ_ne_zero _)
    exact st_iinc C hm h k
  | goto j =>
    obtain rfl : 3 = len := hlen.resolve_left (Nat.succ_ne_zero _)
    exact st_goto C hm h k
  | ifnull j =>
    obtain rfl : 3 = len := hlen.resolve_left (Nat.succ_ne_zero _)
    exact st_ifnull C hm h k
  | ifnonnull j =>
    obtain rfl : 3 = len := hlen.resolve_left (Nat.succ_ne_zero _)
    exact st_ifnonnull C hm h k
  | getfield j =>
    obtain rfl : 3 = len := hlen.resolve_left (Nat.succ_ne_zero _)
    exact st_getf C hm h k
  | putfield j =>
    obtain rfl : 3 = len := hlen.resolve_left (Nat.succ_ne_zero _)
    exact st_putf C hm h k
  | getstatic j =>
    obtain rfl : 3 = len := hlen.resolve_left (Nat.succ_ne_zero _)
    exact st_gets C hm h k
  | dcmp j =>
    obtain rfl : 1 = len := hlen.resolve_left (Nat.succ_ne_zero _)
    exact st_dcmp C hm h k
  | arraylength =>
    obtain rfl : 1 = len := hlen.resolve_left (Nat.succ_ne_zero _)
    exact st_alen C hm h k
  | iaload =>
    obtain rfl : 1 = len := hlen.resolve_left (Nat.succ_ne_zero _)
    exact st_iald C hm h k
  | laload =>
    obtain rfl : 1 = len := hlen.resolve_left (Nat.succ_ne_zero _)
    exact st_lald C hm h k
  | baload =>
    obtain rfl : 1 = len := hlen.resolve_left (Nat.succ_ne_zero _)
    exact st_bald C hm h k
  | aaload =>
    obtain rfl : 1 = len := hlen.resolve_left (Nat.succ_ne_zero _)
    exact st_aald C hm h k
  | iastore =>
    obtain rfl : 1 = len := hlen.resolve_left (Nat.succ_ne_zero _)
    exact st_iast C hm h k
  | bastore =>
    obtain rfl : 1 = len := hlen.resolve_left (Nat.succ_ne_zero _)
    exact st_bast C hm h k
  | lastore =>
    obtain rfl : 1 = len := hlen.resolve_left (Nat.succ_ne_zero _)
    exact st_last C hm h k
  | aastore =>
    obtain rfl : 1 = len := hlen.resolve_left (Nat.succ_ne_zero _)
    exact st_aast C hm h k
  | iadd =>
    obtain rfl : 1 = len := hlen.resolve_left (Nat.succ_ne_zero _)
    exact st_iadd C hm h k
  | isub =>
    obtain rfl : 1 = len := hlen.resolve_left (Nat.succ_ne_zero _)
    exact st_isub C hm h k
  | imul =>
    obtain rfl : 1 = len := hlen.resolve_left (Nat.succ_ne_zero _)
    exact st_imul C hm h k
  | iand =>
    obtain rfl : 1 = len := hlen.resolve_left (Nat.succ_ne_zero _)
    exact st_iand C hm h k
  | ior =>
    obtain rfl : 1 = len := hlen.resolve_left (Nat.succ_ne_zero _)
    exact st_ior C hm h k
  | ixor =>
    obtain rfl : 1 = len := hlen.resolve_left (Nat.succ_ne_zero _)
    exact st_ixor C hm h k
  | ishl =>
    obtain rfl : 1 = len := hlen.resolve_left (Nat.succ_ne_zero _)
    exact st_ishl C hm h k
  | ishr =>
    obtain rfl : 1 = len := hlen.resolve_left (Nat.succ_ne_zero _)
    exact st_ishr C hm h k
  | iushr =>
    obtain rfl : 1 = len := hlen.resolve_left (Nat.succ_ne_zero _)
    exact st_iushr C hm h k
  | ladd =>
    obtain rfl : 1 = len := hlen.resolve_left (Nat.succ_ne_zero _)
    exact st_ladd C hm h k
  | lsub =>
    obtain rfl : 1 = len := hlen.resolve_left (Nat.succ_ne_zero _)
    exact st_lsub C hm h k
  | lmul =>
    obtain rfl : 1 = len := hlen.resolve_left (Nat.succ_ne_zero _)
    exact st_lmul C hm h k
  | land =>
    obtain rfl : 1 = len := hlen.resolve_left (Nat.succ_ne_zero _)
    exact st_land C hm h k
  | lor =>
    obtain rfl : 1 = len := hlen.resolve_left (Nat.succ_ne_zero _)
    exact st_lor C hm h k
  | lxor =>
    obtain rfl : 1 = len := hlen.resolve_left (Nat.succ_ne_zero _)
    exact st_lxor C hm h k
  | lshl =>
    obtain rfl : 1 = len := hlen.resolve_left (Nat.succ_ne_zero _)
    exact st_lshl C hm h k
  | lshr =>
    obtain rfl : 1 = len := hlen.resolve_left (Nat.succ_ne_zero _)
    exact st_lshr C hm h k
  | lushr =>
    obtain rfl : 1 = len := hlen.resolve_left (Nat.succ_ne_zero _)
    exact st_lushr C hm h k
  | lcmp =>
    obtain rfl : 1 = len := hlen.resolve_left (Nat.succ_ne_zero _)
    exact st_lcmp C hm h k
  | idiv =>
    obtain rfl : 1 = len := hlen.resolve_left (Nat.succ_ne_zero _)
    exact st_idiv C hm h k
  | irem =>
    obtain rfl : 1 = len := hlen.resolve_left (Nat.succ_ne_zero _)
    exact st_irem C hm h k
  | ldiv =>
    obtain rfl : 1 = len := hlen.resolve_left (Nat.succ_ne_zero _)
    exact st_ldiv C hm h k
  | ddiv =>
    obtain rfl : 1 = len := hlen.resolve_left (Nat.succ_ne_zero _)
    exact st_ddiv C hm h k
  | ineg =>
    obtain rfl : 1 = len := hlen.resolve_left (Nat.succ_ne_zero _)
    exact st_ineg C hm h k
  | i2l =>
    obtain rfl : 1 = len := hlen.resolve_left (Nat.succ_ne_zero _)
    exact st_i2l C hm h k
  | l2i =>
    obtain rfl : 1 = len := hlen.resolve_left (Nat.succ_ne_zero _)
    exact st_l2i C hm h k
  | i2d =>
    obtain rfl : 1 = len := hlen.resolve_left (Nat.succ_ne_zero _)
    exact st_i2d C hm h k
  | dup =>
    obtain rfl : 1 = len := hlen.resolve_left (Nat.succ_ne_zero _)
    exact st_dup C hm h k
  | pop =>
    obtain rfl : 1 = len := hlen.resolve_left (Nat.succ_ne_zero _)
    exact st_pop C hm h k
  | dup2 =>
    obtain rfl : 1 = len := hlen.resolve_left (Nat.succ_ne_zero _)
    exact st_dup2 C hm h k
  | newarray ty =>
    obtain rfl : 2 = len := hlen.resolve_left (Nat.succ_ne_zero _)
    exact st_newa C hm h hc hs hn hw0 k
  | anewarray j =>
    obtain rfl : 3 = len := hlen.resolve_left (Nat.succ_ne_zero _)
    exact st_anew C hm h hc hs hn hw0 k
  | ifCond c9 o =>
    obtain rfl : 3 = len := hlen.resolve_left (Nat.succ_ne_zero _)
    cases c9 with
    | eq => exact st_if_eq C hm h k
    | ne => exact st_if_ne C hm h k
    | lt => exact st_if_lt C hm h k
    | ge => exact st_if_ge C hm h k
    | gt => exact st_if_gt C hm h k
    | le => exact st_if_le C hm h k
  | if_icmp c9 o =>
    obtain rfl : 3 = len := hlen.resolve_left (Nat.succ_ne_zero _)
    cases c9 with
    | eq => exact st_ic_eq C hm h k
    | ne => exact st_ic_ne C hm h k
    | lt => exact st_ic_lt C hm h k
    | ge => exact st_ic_ge C hm h k
    | gt => exact st_ic_gt C hm h k
    | le => exact st_ic_le C hm h k
  | if_acmp c9 o =>
    obtain rfl : 3 = len := hlen.resolve_left (Nat.succ_ne_zero _)
    cases c9 with
    | eq => cases h
    | ne => exact st_acmp C hm h k
  | tableswitch a9 b9 c9 d9 => exact st_tsw C hm h k
  | _ => cases h
/-- the library's own deeds -/
theorem prim_ok (C : aCx p s m meth c S0 D g0 M) {kd k pc : Nat} {q : Nat × String × Nat} {ls : aLs} {st as rest : List Value} {H H' : aH} {v : Option Value} (hq : fnd3 aKT (mOc M) k = some q) (hge : 1000 ≤ q.1) (hkd : pKd q.1 = kd) (hargs : aArgs (pNA q.1) st = some (as, rest)) (hcat : catS rest ≤ 8) (hE : aPrim q.1 as H = some (.inl v, H'))
    (hm : mDec M pc = some (insK kd k, 3)) (hRf : 1 ≤ R.frames) (hRl : 20 ≤ R.locals) (kk : Wq p l e R s m args below meth c Q S0 D g0 (mML M) n0 w0 (pc + 3, ls, v.toList ++ rest, H')) : Wq p l e R s m args below meth c Q S0 D g0 (mML M) n0 w0 (pc, ls, st, H) := by
  have hd := C.2.1 pc _ hm
  have hx := C.1
  obtain ⟨O, hO, hown⟩ := C.2.2.2.1
  obtain ⟨hne, hl1, hl2⟩ := kT_ok hq hO
  obtain ⟨hst, hlen⟩ := aArgs_ok hargs
  obtain ⟨M', ho, p9⟩ := q
  have hP := List.all_eq_true.mp okP _ (fnd3_mem hq)
  simp only [chkP, Bool.or_eq_true, Bool.and_eq_true, decide_eq_true_eq] at hP
  rcases hP with hP | hP
  · exact absurd hge (Nat.not_le.mpr hP)
  obtain ⟨hho, hP⟩ := hP
  subst hho
  replace hl1 := hl1 rfl
  obtain rfl := hP
  · subst hkd
    match as, hE, hst with
    | [.ref a], hE, hst =>
      have hE : some ((.inl none : aO), H) = some (.inl v, H') := hE
      cases hE
      intro Hr lsr locs hR hL hl
      subst hst
      exact W.objInit hx rfl hown (cx_tb C hl1 rfl) (cx_word C okOI.1 rfl args s C.2.2.2.2.1) (cx_word C okOI.2 rfl args s C.2.2.2.2.1) rfl (by rw [C.2.2.1]; exact LR_size hL) rfl hd hRf (by show 2 * 0 + catS rest + 12 ≤ _; omega) (kk Hr lsr locs hR hL hl)
end
