/-! ===== .. further checks ===== -/
def chkP (e : Nat × Nat × Nat × String × Nat) : Bool := decide (e.2.2.1 < 1000) || (decide (e.2.2.2.1 = "") && (decide (e.2.2.1 = 1000) || decide (e.2.2.1 = 1001) || decide (e.2.2.1 = 1002)))
theorem okP : aKT.all chkP = true := by decide +kernel
theorem okOI : Jvm.Cond.instanceMethod Lib.objectInit ∈ lw_tbl ∧ Jvm.Cond.code Lib.objectInit ⟨#[0xb1]⟩ 1 none ∈ lw_tbl := by decide +kernel
