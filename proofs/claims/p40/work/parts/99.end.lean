/-! ===== the end ===== -/
theorem i_vc : Claimed_1_1 ∧ Claimed_1_2 := i_all law_ok
