/-! ===== the tables hold: by program over the claim's words ===== -/
def tbs (c : Nat) : List Jvm.Cond := match c with
  | 0 => k2_sels lw_privs
  | 1 => tables_1_1
  | 2 => tables_1_2
  | 3 => tables_1_3
  | 4 => tables_1_4
  | _ => tables_1_5
/-- a word by its list and its place -/
def tb (p : Nat) : Option Jvm.Cond := (tbs (p / 1000))[p % 1000]?
theorem tb_in {p : Nat} {w : Jvm.Cond} (h : tb p = some w) : w ∈ lw_tbl := by
  have hm : w ∈ tbs (p / 1000) := List.mem_of_getElem? h
  unfold lw_tbl tables_1
  unfold tbs at hm
  split at hm <;> simp only [List.mem_append, hm, true_or, or_true]
def kdOf : FieldType → Nat
  | .int => 0
  | .boolean => 1
  | .long => 2
  | .object _ => 3
  | .array _ => 3
  | .double => 4
  | _ => 9
def chkF (e : Nat × Nat × Nat × Nat × Nat × Nat) : Bool := match e with
  | (oc, k, ci, j, tc, p) => match aCl[ci]?, aON[oc]? with
    | some (C, T, N), some O => decide (tb p = some (.fieldLink O k C (T j).2.1 (T j).2.2.1)) && decide (j < N) && decide ((T j).1 = C) && decide ((parseFieldDescriptor (T j).2.2.1).map kdOf = some tc)
    | _, _ => false
def chkN (e : Nat × Nat × Nat × Nat × Nat × Nat) : Bool := match e with
  | (oc, k, ci, p, q, r) => match aCl[ci]?, aON[oc]?, aFK[ci]? with
    | some (C, T, N), some O, some ks => decide (tb p = some (.classLink O k C)) && decide (tb q = some (.instantiable C N)) && decide (tb r = some (.initialized C)) && decide (ks.length = N) && ks.all (fun t => t != 9) && decide ((List.range N).map (fun j => (parseFieldDescriptor (T j).2.2.1).map kdOf) = ks.map some)
    | _, _, _ => false
def chkC (e : Nat × Nat × String × Nat) : Bool := match e with
  | (oc, k, C, p) => match aON[oc]? with
    | some O => decide (tb p = some (.classLink O k C))
    | _ => false
def chkI (e : Nat × Nat × Int32 × Nat) : Bool := match e with
  | (oc, k, v, p) => match aON[oc]? with
    | some O => decide (tb p = some (.constant O k v))
    | _ => false
def chkL (e : Nat × Nat × Int64 × Nat) : Bool := match e with
  | (oc, k, v, p) => match aON[oc]? with
    | some O => decide (tb p = some (.constantLong O k v))
    | _ => false
def chkG (e : Nat × Nat × Value × Nat × String × String × String) : Bool := match e with
  | (oc, k, _, p, C, n, d) => match aON[oc]? with
    | some O => decide (tb p = some (.fieldLink O k C n d))
    | _ => false
def primY (p : Nat) : MethodName := match p with
  | 1000 => Lib.objectInit
  | 1001 => ⟨"java/lang/System", "arraycopy", "(Ljava/lang/Object;ILjava/lang/Object;II)V"⟩
  | _ => ⟨"jdk/internal/misc/Unsafe", "getLong", "(Ljava/lang/Object;J)J"⟩
def mY (M : Nat) : MethodName := match aRec M with | some r => rY r | none => primY M
def chkK (e : Nat × Nat × Nat × String × Nat) : Bool := match e with
  | (oc, k, M, ho, p) => match aON[oc]? with
    | some O => decide (M ≠ 0) && if ho = "" then decide (tb p = some (.methodLink O k (mY M))) else decide (tb p = some (.methodLinkNest O k (mY M) ho))
    | _ => false
/-- a method's code as a word -/
def cwM (r : aMR) : Jvm.Cond := if rHH r = [] then .code (rY r) (rB r) (rML r) (rRet r) else .codeWith (rY r) (rB r) (rML r) (rRet r) (rHH r)
def chkM (r : aMR) : Bool :=
  decide (tb r.2.2.2.2.2.2.2.2.2.2.2.1 = some (if rKd r = 1 then .static (rY r) else .instanceMethod (rY r)))
  && decide (tb r.2.2.2.2.2.2.2.2.2.2.2.2.1 = some (.initialized (rY r).cls))
  && (if rKd r = 0 then (match aCl[rCi r]? with | some (C, _, _) => decide (C = (rY r).cls) && decide (rCi r ≠ 11) | none => decide (rCi r = 11) && decide ((rY r).cls = "jdk/internal/misc/Unsafe")) && decide (tb r.2.2.2.2.2.2.2.2.2.2.2.2.2 = some (.selects (rY r).cls (rY r) (rY r))) else true)
  && (if rKd r = 2 then decide ((rY r).name = "<init>") && decide (rRet r = none) else true)
  && decide (aON[rOc r]? = some (rY r).cls) && plainFor (rY r)
  && decide ((rY r).cls ≠ "java/lang/invoke/MethodHandle") && decide ((rY r).cls ≠ "java/lang/invoke/VarHandle")
  && decide ((parseMethodDescriptor (rY r).desc).map (fun d => d.parameters.length) = some (rNA r)) && decide (rKd r ≤ 2) && decide (rML r ≤ 150) && (if rHH r = [] then true else decide (rKd r = 1))
theorem okF : aFT.all chkF = true := by decide +kernel
theorem okN : aNT.all chkN = true := by decide +kernel
theorem okC : aCT.all chkC = true := by decide +kernel
theorem okI : aIT.all chkI = true := by decide +kernel
theorem okL : aLT.all chkL = true := by decide +kernel
theorem okG : aGT.all chkG = true := by decide +kernel
theorem okK : aKT.all chkK = true := by decide +kernel
theorem okM : (aMT.drop 1).all chkM = true := by decide +kernel
theorem okMg : aMT.all (fun r => goodWord (cwM r)) = true := by decide +kernel
set_option maxRecDepth 100000 in
theorem okMc : (aMT.drop 1).map (fun r => tb r.2.2.2.2.2.2.2.2.2.2.1) = (aMT.drop 1).map (fun r => some (cwM r)) := by rfl
theorem okU : aCl.all (fun q => (u_ws q.1 q.2.1 q.2.2).all fun w => decide (w ∈ lw_tbl) && goodWord w) = true := by decide +kernel
theorem okA : aCl.all (fun q => (List.range q.2.2).all fun a => (List.range q.2.2).all fun b => a == b || decide ((q.2.1 a).2.1 ≠ (q.2.1 b).2.1)) = true := by decide +kernel
theorem fnd3_mem {α : Type} {l : List (Nat × Nat × α)} {a b : Nat} {z : α} (h : fnd3 l a b = some z) : (a, b, z) ∈ l := by
  induction l with
  | nil => cases h
  | cons q t ih =>
    obtain ⟨x, y, u⟩ := q
    rw [fnd3] at h
    split at h
    next hc =>
      simp only [Bool.and_eq_true, beq_iff_eq] at hc
      obtain ⟨rfl, rfl⟩ := hc
      cases h
      exact List.mem_cons_self
    next => exact List.mem_cons_of_mem _ (ih h)
def chkAT (e : Nat × Nat × String × Nat) : Bool := chkC e && decide (e.2.2.1 = "OvertureDesk$Song")
theorem okAT : aAT.all chkAT = true := by decide +kernel
theorem okUT : aUT.all (fun e => chkC e && decide (e.2.2.1 = "[[I")) = true := by decide +kernel
theorem okH : aKT.all (fun e => decide (e.2.2.2.1 = "") || (match aRec e.2.2.1 with | some r => decide (rHH r = []) | none => true)) = true := by decide +kernel
theorem okH2 : aKT.all (fun e => (aRec e.2.2.1).isSome || decide (1000 ≤ e.2.2.1)) = true := by decide +kernel
