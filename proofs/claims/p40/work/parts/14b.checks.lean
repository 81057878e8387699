/-! ===== .. further checks ===== -/
def chkP (e : Nat × Nat × Nat × String × Nat) : Bool := decide (e.2.2.1 < 1000) || (decide (e.2.2.2.1 = "") && decide (e.2.2.1 = 1000))
theorem okP : aKT.all chkP = true := by decide +kernel
theorem okOI : Jvm.Cond.instanceMethod Lib.objectInit ∈ lw_tbl ∧ Jvm.Cond.code Lib.objectInit ⟨#[0xb1]⟩ 1 none ∈ lw_tbl := by decide +kernel
theorem okC0 : aCT.all (fun e => decide (e.2.1 ≠ 0)) = true := by decide +kernel
theorem okCC : aCT.all (fun e => decide (e.1 ≠ 0) || decide (Jvm.Cond.castable e.2.2.1 e.2.2.1 ∈ lw_tbl)) = true := by decide +kernel
theorem okHH : (List.range aMT.length).all (fun M => decide (mHH M = []) || decide (mOc M = 0)) = true := by decide +kernel
theorem okHO (M : Nat) (h : mHH M ≠ []) : mOc M = 0 := by
  have hl : M < aMT.length := by
    apply Classical.byContradiction
    intro hn
    apply h
    unfold mHH aRec
    rw [List.getElem?_eq_none (Nat.not_lt.mp hn)]
  have := List.all_eq_true.mp okHH M (List.mem_range.mpr hl)
  simp only [Bool.or_eq_true, decide_eq_true_eq, h, false_or] at this
  exact this
