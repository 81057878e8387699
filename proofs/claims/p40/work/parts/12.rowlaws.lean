/-! ===== laws by which the rows of a method are had ===== -/
section
variable {d M pc len : Nat} {ls : aLs} {st : List Value} {H : aH} {i : Instr}
theorem aAct_of {EE : Nat → List Value → aH → aR} {il : Instr × Nat} (hd : mDec M pc = some il) : aAct EE d M pc ls st H = aAct2 EE d M pc ls st H il := by
  rw [aAct, hd]
/-- what follows a step -/
noncomputable def aK (d M : Nat) (x : Option (aQ ⊕ (aO × aH))) : aR := match x with
  | none => none
  | some (.inr x) => some x
  | some (.inl q) => L d M q.1 q.2.1 q.2.2.1 q.2.2.2
theorem L_K {il : Instr × Nat} (hd : mDec M pc = some il) : L d M pc ls st H = aK d M (aAct2 (aE d) d M pc ls st H il) := by
  rw [L_eq, aAct_of hd]; rfl
theorem R_n {il : Instr × Nat} {pc' : Nat} {ls' : aLs} {st' : List Value} {H' : aH} (hd : mDec M pc = some il) (h : aAct2 (aE d) d M pc ls st H il = go pc' ls' st' H') : L d M pc ls st H = L d M pc' ls' st' H' := by
  rw [L_K hd, h]; rfl
theorem R_if {il : Instr × Nat} {p : Prop} [Decidable p] {pc1 pc2 : Nat} {ls' : aLs} {st' : List Value} {H' : aH} (hd : mDec M pc = some il) (h : aAct2 (aE d) d M pc ls st H il = if p then go pc1 ls' st' H' else go pc2 ls' st' H') : L d M pc ls st H = if p then L d M pc1 ls' st' H' else L d M pc2 ls' st' H' := by
  rw [L_K hd, h]
  by_cases hp : p
  · rw [if_pos hp, if_pos hp]; rfl
  · rw [if_neg hp, if_neg hp]; rfl
theorem R_nz {il : Instr × Nat} {p : Prop} [Decidable p] {pc' : Nat} {ls' : aLs} {st' : List Value} {H' : aH} (hd : mDec M pc = some il) (h : aAct2 (aE d) d M pc ls st H il = if p then none else go pc' ls' st' H') : L d M pc ls st H = if p then none else L d M pc' ls' st' H' := by
  rw [L_K hd, h]
  by_cases hp : p
  · rw [if_pos hp, if_pos hp]; rfl
  · rw [if_neg hp, if_neg hp]; rfl
theorem R_b {α : Type} {il : Instr × Nat} {x : Option α} {pc' : Nat} {ls' : aLs} {st' : α → List Value} {H' : α → aH} (hd : mDec M pc = some il) (h : aAct2 (aE d) d M pc ls st H il = x.bind fun v => go pc' ls' (st' v) (H' v)) : L d M pc ls st H = x.bind fun v => L d M pc' ls' (st' v) (H' v) := by
  rw [L_K hd, h]
  cases x <;> rfl
theorem R_e {il : Instr × Nat} {x : aO × aH} (hd : mDec M pc = some il) (h : aAct2 (aE d) d M pc ls st H il = some (.inr x)) : L d M pc ls st H = some x := by
  rw [L_K hd, h]; rfl
theorem R_ez {il : Instr × Nat} {p : Bool} {x : aO × aH} (hd : mDec M pc = some il) (h : aAct2 (aE d) d M pc ls st H il = if p then some (.inr x) else none) : L d M pc ls st H = if p then some x else none := by
  rw [L_K hd, h]
  cases p <;> rfl
theorem R_ex {il : Instr × Nat} {p : Prop} [Decidable p] {x : aO × aH} (hd : mDec M pc = some il) (h : aAct2 (aE d) d M pc ls st H il = if p then some (.inr x) else none) : L d M pc ls st H = if p then some x else none := by
  rw [L_K hd, h]
  by_cases hp : p
  · rw [if_pos hp, if_pos hp]; rfl
  · rw [if_neg hp, if_neg hp]; rfl
/-- a call's end: it answers, or it throws -/
def kC (x : aR) (f : Option Value → aH → aR) (g : String → aH → aR) : aR := match x with
  | none => none
  | some (.inl v, H) => f v H
  | some (.inr E, H) => g E H
theorem kC_r {v : Option Value} {H : aH} {f : Option Value → aH → aR} {g : String → aH → aR} : kC (some (.inl v, H)) f g = f v H := rfl
theorem kC_x {E : String} {H : aH} {f : Option Value → aH → aR} {g : String → aH → aR} : kC (some (.inr E, H)) f g = g E H := rfl
theorem kC_n {f : Option Value → aH → aR} {g : String → aH → aR} : kC none f g = none := rfl
/-- no handler here -/
def xT : String → aH → aR := fun E H => some (.inr E, H)
/-- a cell is an object of a class -/
def rv (c : Option aC) (ci : Nat) : Bool := match c with
  | some (.inr (cj, _)) => cj == ci
  | _ => false
theorem aK_back {ls : aLs} {rest : List Value} {x : aR} (hh : mHH M = []) : aK d M (aBack M pc ls rest x) = kC x (fun v H => L d M (pc + 3) ls (v.toList ++ rest) H) xT := by
  unfold aBack
  match x with
  | none => rfl
  | some (.inl v, H) => rfl
  | some (.inr E, H) =>
    show aK d M (match hnd (mOc M) pc E (mHH M) with
      | none => none
      | some (some hp) => match mDec M hp with
        | some (.astore k, len) => if k < ls.length then go (hp + len) ((klA ls k).set k none) [] H else none
        | some (.astore_n k, len) => if (k : Nat) < ls.length then go (hp + len) ((klA ls k).set k none) [] H else none
        | _ => none
      | some none => if mHH M = [] then some (.inr (.inr E, H)) else none) = _
    rw [hh]; rfl
theorem R_call {k M' n : Nat} {q : Nat × String × Nat} {as rest : List Value} {h : aHf} {r : Nat × Nat × Nat × Nat} (kd : Nat) (hd : mDec M pc = some (i, len)) (hi : ∀ EE : Nat → List Value → aH → aR, aAct2 EE d M pc ls st (h, r) (i, len) = aCall EE M pc kd k ls st (h, r)) (hk : fnd3 aKT (mOc M) k = some q) (hM : q.1 = M') (hlt : M' < 1000) (hkd : mKd M' = kd) (hrq : rqC M M' = true) (hn : mNA M' + (if kd = 1 then 0 else 1) = n)
    (ha : aArgs n st = some (as, rest)) (hh : mHH M = []) : L d M pc ls st (h, r) = if catS rest ≤ 8 ∧ recv kd (mCi M') as (h, r) = true then kC (aE d M' as (h, r)) (fun v H => L d M (pc + 3) ls (v.toList ++ rest) H) xT else none := by
  rw [L_K hd, hi, aCall, hk]
  subst hM
  simp only [if_neg (Nat.not_le.mpr hlt), if_pos (And.intro hkd hrq), hn, ha, Option.bind_some]
  split
  · rw [aK_back hh]
  · rfl
theorem R_prim {k p n : Nat} {q : Nat × String × Nat} {as rest : List Value} {H : aH} (kd : Nat) (hd : mDec M pc = some (i, len)) (hi : ∀ EE : Nat → List Value → aH → aR, aAct2 EE d M pc ls st H (i, len) = aCall EE M pc kd k ls st H) (hk : fnd3 aKT (mOc M) k = some q) (hM : q.1 = p) (hge : 1000 ≤ p) (hkd : pKd p = kd) (hrq : rqP M = true) (hn : pNA p = n)
    (ha : aArgs n st = some (as, rest)) (hh : mHH M = []) : L d M pc ls st H = if catS rest ≤ 8 then kC (aPrim p as H) (fun v H => L d M (pc + 3) ls (v.toList ++ rest) H) xT else none := by
  rw [L_K hd, hi, aCall, hk]
  subst hM
  simp only [if_pos hge, if_pos (And.intro hkd hrq), hn, ha, Option.bind_some]
  split
  · rw [aK_back hh]
  · rfl
/-- a call under a handler -/
theorem R_callH {k M' n : Nat} {q : Nat × String × Nat} {as rest : List Value} {h : aHf} {r : Nat × Nat × Nat × Nat} (kd : Nat) (hd : mDec M pc = some (i, len)) (hi : ∀ EE : Nat → List Value → aH → aR, aAct2 EE d M pc ls st (h, r) (i, len) = aCall EE M pc kd k ls st (h, r)) (hk : fnd3 aKT (mOc M) k = some q) (hM : q.1 = M') (hlt : M' < 1000) (hkd : mKd M' = kd) (hrq : rqC M M' = true) (hn : mNA M' + (if kd = 1 then 0 else 1) = n)
    (ha : aArgs n st = some (as, rest)) : L d M pc ls st (h, r) = if catS rest ≤ 8 ∧ recv kd (mCi M') as (h, r) = true then kC (aE d M' as (h, r)) (fun v H => L d M (pc + 3) ls (v.toList ++ rest) H) (fun E H => aK d M (aBack M pc ls rest (some (.inr E, H)))) else none := by
  rw [L_K hd, hi, aCall, hk]
  subst hM
  simp only [if_neg (Nat.not_le.mpr hlt), if_pos (And.intro hkd hrq), hn, ha, Option.bind_some]
  split
  · match aE d q.1 as (h, r) with
    | none => rfl
    | some (.inl v, H) => rfl
    | some (.inr E, H) => rfl
  · rfl
theorem entL_le {as : List Value} {n : Nat} (h : (entL as n).length = n) : (entA as).length ≤ n := by
  unfold entL at h
  rw [List.length_append, List.length_replicate] at h
  omega
theorem aE_row {as : List Value} {n : Nat} (ht : mTmp M = false) (hm : mML M = n) (hl : entL as n = ls) (hn : ls.length = n) : aE (d + 1) M as H = L d M 0 ls [] H := by
  rw [aE_succ, ht, hm, if_pos (entL_le (by rw [hl]; exact hn)), hl]; rfl
theorem aE_rowT {as : List Value} {n : Nat} (ht : mTmp M = true) (hm : mML M = n) (hl : entL as n = ls) (hn : ls.length = n) : aE (d + 1) M as H = aFin true H (L d M 0 ls [] H) := by
  rw [aE_succ, ht, hm, if_pos (entL_le (by rw [hl]; exact hn)), hl]
end
/-! reading a call's words -/
theorem catS_0 : catS [] = 0 := rfl
theorem catS_c {v : Value} {l : List Value} : catS (v :: l) = v.category + catS l := rfl
theorem cat_i {x : Int32} : (Value.int x).category = 1 := rfl
theorem cat_l {x : Int64} : (Value.long x).category = 2 := rfl
theorem cat_d {x : UInt64} : (Value.double x).category = 2 := rfl
theorem cat_r {x : Nat} : (Value.ref x).category = 1 := rfl
theorem cat_n : Value.null.category = 1 := rfl
theorem recv_0 {ci a : Nat} {l : List Value} {H : aH} (hci : ci ≠ 11) : recv 0 ci (.ref a :: l) H = rv (H.1 a) ci := by
  show (if ci = 11 then _ else _) = _
  rw [if_neg hci]; rfl
theorem recv_1 {ci : Nat} {l : List Value} {H : aH} : recv 1 ci l H = true := rfl
theorem recv_2 {ci a : Nat} {l : List Value} {H : aH} : recv 2 ci (.ref a :: l) H = true := rfl
theorem rv_B {ci cj : Nat} {fs : List Value} : rv (some (aB cj fs)) ci = (cj == ci) := rfl
theorem kl_n : klL none = none := rfl
theorem kl_i {x : Int32} : klL (some (.int x)) = some (.int x) := rfl
theorem kl_r {x : Nat} : klL (some (.ref x)) = some (.ref x) := rfl
theorem kl_z : klL (some .null) = some .null := rfl
theorem kl_l {x : Int64} : klL (some (.long x)) = none := rfl
theorem kl_d {x : UInt64} : klL (some (.double x)) = none := rfl
theorem gF_B {ci cj k : Nat} {fs : List Value} : gF (some (aB cj fs)) ci k = if cj = ci then fs[k]? else none := rfl
theorem sF_B {ci cj k tc : Nat} {fs : List Value} {v : Value} : sF (some (aB cj fs)) ci k tc v = if cj = ci ∧ k < fs.length ∧ fitK tc v = true then some (aB ci (fs.set k v)) else none := rfl
theorem wr_s {h : aHf} {a : Nat} {c : aC} : wr h a (some c) = some (aup h a c) := rfl
theorem aup_s {h : aHf} {a : Nat} {c : aC} : aup h a c a = some c := by unfold aup; rw [if_pos rfl]
theorem aup_n {h : aHf} {a b : Nat} {c : aC} (hb : b ≠ a) : aup h a c b = h b := by unfold aup; rw [if_neg hb]
theorem aup_u {h : aHf} {a : Nat} {c c' : aC} : aup (aup h a c) a c' = aup h a c' := by
  funext q
  unfold aup
  by_cases e : q = a
  · rw [if_pos e, if_pos e]
  · rw [if_neg e, if_neg e, if_neg e]
theorem aup_id {h : aHf} {a : Nat} {c : aC} (hc : h a = some c) : aup h a c = h := by
  funext q
  unfold aup
  by_cases e : q = a
  · rw [if_pos e, e, hc]
  · rw [if_neg e]
section
variable {d M pc len k : Nat} {ls : aLs} {st : List Value} {H : aH} {h : aHf} {r : Nat × Nat × Nat × Nat} {i : Instr} {g : Nat × Nat}
theorem R_bi {n : Int} {v : Int32} (hd : mDec M pc = some (.bipush n, 2)) (hv : (Int8.ofInt n).toInt32 = v) : L d M pc ls st H = L d M (pc + 2) ls (.int v :: st) H := by
  subst hv; exact R_n hd rfl
theorem R_si {n : Int} {v : Int32} (hd : mDec M pc = some (.sipush n, 3)) (hv : (Int16.ofInt n).toInt32 = v) : L d M pc ls st H = L d M (pc + 3) ls (.int v :: st) H := by
  subst hv; exact R_n hd rfl
theorem R_ldc {q : Int32 × Nat} {v : Int32} (hd : mDec M pc = some (.ldc k, 2)) (hk : fnd3 aIT (mOc M) k = some q) (hv : q.1 = v) : L d M pc ls st H = L d M (pc + 2) ls (.int v :: st) H := by
  subst hv; exact R_n hd (by show (fnd3 aIT (mOc M) k).bind _ = _; rw [hk]; rfl)
theorem R_ldcw {q : Int32 × Nat} {v : Int32} (hd : mDec M pc = some (.ldc_w k, 3)) (hk : fnd3 aIT (mOc M) k = some q) (hv : q.1 = v) : L d M pc ls st H = L d M (pc + 3) ls (.int v :: st) H := by
  subst hv; exact R_n hd (by show (fnd3 aIT (mOc M) k).bind _ = _; rw [hk]; rfl)
theorem R_ldc2 {q : Int64 × Nat} {v : Int64} (hd : mDec M pc = some (.ldc2_w k, 3)) (hk : fnd3 aLT (mOc M) k = some q) (hv : q.1 = v) : L d M pc ls st H = L d M (pc + 3) ls (.long v :: st) H := by
  subst hv; exact R_n hd (by show (fnd3 aLT (mOc M) k).bind _ = _; rw [hk]; rfl)
theorem R_gs {q : Value × Nat × String × String × String} {v : Value} (hd : mDec M pc = some (.getstatic k, 3)) (hk : fnd3 aGT (mOc M) k = some q) (hv : gsV H q.1 = v) : L d M pc ls st H = L d M (pc + 3) ls (v :: st) H := by
  subst hv; exact R_n hd (by show (fnd3 aGT (mOc M) k).bind _ = _; rw [hk]; rfl)
theorem R_gf {q : Nat × Nat × Nat × Nat} {a ci j : Nat} (hd : mDec M pc = some (.getfield k, 3)) (hk : fnd3 aFT (mOc M) k = some q) (h1 : q.1 = ci) (h2 : q.2.1 = j) : L d M pc ls (.ref a :: st) (h, r) = (gF (h a) ci j).bind fun v => L d M (pc + 3) ls (v :: st) (h, r) := by
  subst h1; subst h2; exact R_b hd (by show (fnd3 aFT (mOc M) k).bind _ = _; rw [hk]; rfl)
theorem R_pf {q : Nat × Nat × Nat × Nat} {a ci j tc : Nat} {v : Value} (hd : mDec M pc = some (.putfield k, 3)) (hk : fnd3 aFT (mOc M) k = some q) (h1 : q.1 = ci) (h2 : q.2.1 = j) (h3 : q.2.2.1 = tc) (hf : finB M ci j = true) : L d M pc ls (v :: .ref a :: st) (h, r) = (wr h a (sF (h a) ci j tc v)).bind fun h' => L d M (pc + 3) ls st (h', r) := by
  subst h1; subst h2; subst h3; exact R_b hd (by show (fnd3 aFT (mOc M) k).bind _ = _; rw [hk]; show (if finB M q.1 q.2.1 then _ else none) = _; rw [hf]; rfl)
theorem R_new {q : Nat × Nat × Nat × Nat} {ci n w m : Nat} {ks : List Nat} {vs : List Value} (hd : mDec M pc = some (.new k, 3)) (hx : fnd3 aXT M pc = none) (hk : fnd3 aNT (mOc M) k = some q) (h1 : q.1 = ci) (hf : aFK[ci]? = some ks) (hvs : ks.map dflK = vs) (hm : ks.length = m) :
    L d M pc ls st (h, n, w, g) = L d M (pc + 3) ls (.ref n :: st) (aup h n (aB ci vs), n + 1, w + m, g) := by
  subst h1; subst hvs; subst hm
  exact R_n hd (by show (match fnd3 aXT M pc with | some x => _ | none => _) = _; rw [hx]; show (fnd3 aNT (mOc M) k).bind _ = _; rw [hk]; show (aFK[q.1]?).bind _ = _; rw [hf]; rfl)
theorem R_thr {q : String × Nat × Nat × Nat × Bool × String} {E : String} {n w : Nat} (hd : mDec M pc = some (.new k, 3)) (hx : fnd3 aXT M pc = some q) (h1 : q.1 = E) (hrq : rqT M = true) : L d M pc ls [] (h, n, w, g) = if 8 ≤ d then some (.inr E, (h, n + 1, w + 6, g)) else none := by
  subst h1
  refine R_ex hd ?_
  show (match fnd3 aXT M pc with | some x => _ | none => _) = _
  rw [hx]
  simp only [hrq, and_true]
theorem R_an {q : String × Nat} {C : String} {n w : Nat} {c : Int32} (hd : mDec M pc = some (.anewarray k, 3)) (hk : fnd3 aAT (mOc M) k = some q) (h1 : q.1 = C) : L d M pc ls (.int c :: st) (h, n, w, g) = if c < 0 ∨ 60000000 < c.toNatClampNeg then none else L d M (pc + 3) ls (.ref n :: st) (mk (h, n, w, g) (aP (.object C) c.toNatClampNeg (fun _ => none)) c.toNatClampNeg) := by
  subst h1; exact R_nz hd (by show (if _ then none else (fnd3 aAT (mOc M) k).bind _) = _; rw [hk]; rfl)
theorem R_cS {M' n : Nat} {q : Nat × String × Nat} {as rest : List Value} (hd : mDec M pc = some (.invokestatic k, 3)) (hk : fnd3 aKT (mOc M) k = some q) (hM : q.1 = M') (hlt : M' < 1000) (hkd : mKd M' = 1) (hrq : rqC M M' = true) (hn : mNA M' + 0 = n) (ha : aArgs n st = some (as, rest)) (hh : mHH M = []) :
    L d M pc ls st (h, r) = if catS rest ≤ 8 then kC (aE d M' as (h, r)) (fun v H => L d M (pc + 3) ls (v.toList ++ rest) H) xT else none := by
  rw [R_call (n := n) 1 hd (fun _ => rfl) hk hM hlt hkd hrq hn ha hh]
  simp only [recv, and_true]
theorem R_cV {M' n a ci : Nat} {q : Nat × String × Nat} {as rest : List Value} (hd : mDec M pc = some (.invokevirtual k, 3)) (hk : fnd3 aKT (mOc M) k = some q) (hM : q.1 = M') (hlt : M' < 1000) (hkd : mKd M' = 0) (hrq : rqC M M' = true) (hn : mNA M' + 1 = n) (hci : mCi M' = ci) (h11 : ci ≠ 11) (ha : aArgs n st = some (.ref a :: as, rest)) (hh : mHH M = []) :
    L d M pc ls st (h, r) = if catS rest ≤ 8 ∧ rv (h a) ci = true then kC (aE d M' (.ref a :: as) (h, r)) (fun v H => L d M (pc + 3) ls (v.toList ++ rest) H) xT else none := by
  rw [R_call (n := n) 0 hd (fun _ => rfl) hk hM hlt hkd hrq hn ha hh, hci, recv_0 h11]
theorem R_cI {M' n a : Nat} {q : Nat × String × Nat} {as rest : List Value} (hd : mDec M pc = some (.invokespecial k, 3)) (hk : fnd3 aKT (mOc M) k = some q) (hM : q.1 = M') (hlt : M' < 1000) (hkd : mKd M' = 2) (hrq : rqC M M' = true) (hn : mNA M' + 1 = n) (ha : aArgs n st = some (.ref a :: as, rest)) (hh : mHH M = []) :
    L d M pc ls st (h, r) = if catS rest ≤ 8 then kC (aE d M' (.ref a :: as) (h, r)) (fun v H => L d M (pc + 3) ls (v.toList ++ rest) H) xT else none := by
  rw [R_call (n := n) 2 hd (fun _ => rfl) hk hM hlt hkd hrq hn ha hh, recv_2]
  simp only [and_true]
theorem R_cH {M' n a ci : Nat} {q : Nat × String × Nat} {as rest : List Value} (hd : mDec M pc = some (.invokevirtual k, 3)) (hk : fnd3 aKT (mOc M) k = some q) (hM : q.1 = M') (hlt : M' < 1000) (hkd : mKd M' = 0) (hrq : rqC M M' = true) (hn : mNA M' + 1 = n) (hci : mCi M' = ci) (h11 : ci ≠ 11) (ha : aArgs n st = some (.ref a :: as, rest)) :
    L d M pc ls st (h, r) = if catS rest ≤ 8 ∧ rv (h a) ci = true then kC (aE d M' (.ref a :: as) (h, r)) (fun v H => L d M (pc + 3) ls (v.toList ++ rest) H) (fun E H => aK d M (aBack M pc ls rest (some (.inr E, H)))) else none := by
  rw [R_callH (n := n) 0 hd (fun _ => rfl) hk hM hlt hkd hrq hn ha, hci, recv_0 h11]
theorem R_cSH {M' n : Nat} {q : Nat × String × Nat} {as rest : List Value} (hd : mDec M pc = some (.invokestatic k, 3)) (hk : fnd3 aKT (mOc M) k = some q) (hM : q.1 = M') (hlt : M' < 1000) (hkd : mKd M' = 1) (hrq : rqC M M' = true) (hn : mNA M' + 0 = n) (ha : aArgs n st = some (as, rest)) :
    L d M pc ls st (h, r) = if catS rest ≤ 8 then kC (aE d M' as (h, r)) (fun v H => L d M (pc + 3) ls (v.toList ++ rest) H) (fun E H => aK d M (aBack M pc ls rest (some (.inr E, H)))) else none := by
  rw [R_callH (n := n) 1 hd (fun _ => rfl) hk hM hlt hkd hrq hn ha]
  simp only [recv, and_true]
end
section
variable {d M pc len k : Nat} {ls : aLs} {st : List Value} {H : aH} {h : aHf} {r : Nat × Nat × Nat × Nat} {i : Instr} {g : Nat × Nat} {EE : Nat → List Value → aH → aR}
theorem ret_i {x : Int32} (hr : mRet M = some .int) : aAct2 EE d M pc ls [.int x] H (.ireturn, 1) = some (.inr (.inl (some (.int x)), H)) := by
  show (if kI (.int x) && retK (mRet M) (.int x) then _ else none) = _
  rw [hr]; rfl
theorem ret_z {x : Int32} (hr : mRet M = some .boolean) : aAct2 EE d M pc ls [.int x] H (.ireturn, 1) = if (x == 0 || x == 1) then some (.inr (.inl (some (.int x)), H)) else none := by
  show (if kI (.int x) && retK (mRet M) (.int x) then _ else none) = _
  rw [hr]; rfl
theorem ret_l {x : Int64} (hr : mRet M = some .long) : aAct2 EE d M pc ls [.long x] H (.lreturn, 1) = some (.inr (.inl (some (.long x)), H)) := by
  show (if kL (.long x) && retK (mRet M) (.long x) then _ else none) = _
  rw [hr]; rfl
theorem ret_d {x : UInt64} (hr : mRet M = some .double) : aAct2 EE d M pc ls [.double x] H (.dreturn, 1) = some (.inr (.inl (some (.double x)), H)) := by
  show (if kD (.double x) && retK (mRet M) (.double x) then _ else none) = _
  rw [hr]; rfl
theorem ret_o {C : String} {a : Nat} (hr : mRet M = some (.object C)) : aAct2 EE d M pc ls [.ref a] H (.areturn, 1) = some (.inr (.inl (some (.ref a)), H)) := by
  show (if kA (.ref a) && retK (mRet M) (.ref a) then _ else none) = _
  rw [hr]; rfl
theorem ret_on {C : String} (hr : mRet M = some (.object C)) : aAct2 EE d M pc ls [.null] H (.areturn, 1) = some (.inr (.inl (some .null), H)) := by
  show (if kA .null && retK (mRet M) .null then _ else none) = _
  rw [hr]; rfl
theorem ret_a {C : FieldType} {a : Nat} (hr : mRet M = some (.array C)) : aAct2 EE d M pc ls [.ref a] H (.areturn, 1) = some (.inr (.inl (some (.ref a)), H)) := by
  show (if kA (.ref a) && retK (mRet M) (.ref a) then _ else none) = _
  rw [hr]; rfl
theorem ret_v (hr : mRet M = none) : aAct2 EE d M pc ls [] H (.return_, 1) = some (.inr (.inl none, H)) := by
  show (if (mRet M).isNone then _ else none) = _
  rw [hr]; rfl
theorem R_zn {il : Instr × Nat} {p : Prop} [Decidable p] {pc' : Nat} {ls' : aLs} {st' : List Value} {H' : aH} (hd : mDec M pc = some il) (h : aAct2 (aE d) d M pc ls st H il = if p then go pc' ls' st' H' else none) : L d M pc ls st H = if p then L d M pc' ls' st' H' else none := by
  rw [L_K hd, h]
  by_cases hp : p
  · rw [if_pos hp, if_pos hp]; rfl
  · rw [if_neg hp, if_neg hp]; rfl
theorem R_ac {il : Instr × Nat} {p q : Prop} [Decidable p] [Decidable q] {pc' pc2 : Nat} {ls' : aLs} {st' : List Value} {H' : aH} (hd : mDec M pc = some il) (h : aAct2 (aE d) d M pc ls st H il = if p then (if q then go pc' ls' st' H' else go pc2 ls' st' H') else none) : L d M pc ls st H = if p then (if q then L d M pc' ls' st' H' else L d M pc2 ls' st' H') else none := by
  rw [L_K hd, h]
  by_cases hp : p
  · rw [if_pos hp, if_pos hp]
    by_cases hq : q
    · rw [if_pos hq, if_pos hq]; rfl
    · rw [if_neg hq, if_neg hq]; rfl
  · rw [if_neg hp, if_neg hp]; rfl
theorem tsw_in {df lo hi o : Int} {offs : Array Int} {x : Int32} {tg : Nat} (h1 : ¬ (x.toInt < lo ∨ hi < x.toInt)) (h2 : offs[(x.toInt - lo).toNat]? = some o) (h3 : aTg pc o = some tg) : aAct2 EE d M pc ls (.int x :: st) H (.tableswitch df lo hi offs, len) = go tg ls st H := by
  show (if x.toInt < lo ∨ hi < x.toInt then _ else (offs[(x.toInt - lo).toNat]?).bind fun o => (aTg pc o).bind fun tg => go tg ls st H) = _
  rw [if_neg h1, h2]
  show (aTg pc o).bind _ = _
  rw [h3]; rfl
theorem tsw_out {df lo hi : Int} {offs : Array Int} {x : Int32} {tg : Nat} (h1 : x.toInt < lo ∨ hi < x.toInt) (h3 : aTg pc df = some tg) : aAct2 EE d M pc ls (.int x :: st) H (.tableswitch df lo hi offs, len) = go tg ls st H := by
  show (if x.toInt < lo ∨ hi < x.toInt then (aTg pc df).bind fun tg => go tg ls st H else _) = _
  rw [if_pos h1, h3]; rfl
end
