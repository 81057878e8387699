/-! ===== the reference plays a note ===== -/
def plS (M : Md) (j : Nat) (R : Nat → Int32) : Md := (M.1, M.2.1, M.2.2.1, M.2.2.2.1, M.2.2.2.2.1, M.2.2.2.2.2.1, M.2.2.2.2.2.2.1, (fun i => if i = j then R else M.2.2.2.2.2.2.2.1 i), M.2.2.2.2.2.2.2.2)
section
variable {d : Nat} {h : aHf} {r : Nat × Nat × Nat × Nat} {y : Nat} {M : Md}
theorem md_pl {j : Nat} {R : Nat → Int32} (hj : j < 480) : aup (mdW h y M) (y + 50 + j) (aI .int 5 R) = mdW h y (plS M j R) := by
  rw [Nat.add_assoc]
  refine md_up (k := 50 + j) (by omega) ?_ (fun k hk e => ?_)
  · unfold mdC plS
    rw [if_neg (by omega), if_neg (by omega), if_neg (by omega), if_neg (by omega), if_neg (by omega), if_neg (by omega), if_neg (by omega), if_neg (by omega), if_neg (by omega), if_neg (by omega), if_pos (by omega)]
    dsimp only
    rw [if_pos (by omega)]
  · unfold mdC plS
    by_cases e0 : k = 0
    · rw [if_pos e0, if_pos e0]
    rw [if_neg e0, if_neg e0]
    by_cases e1 : k = 1
    · rw [if_pos e1, if_pos e1]
    rw [if_neg e1, if_neg e1]
    by_cases e2 : k = 2
    · rw [if_pos e2, if_pos e2]
    rw [if_neg e2, if_neg e2]
    by_cases e3 : k = 3
    · rw [if_pos e3, if_pos e3]
    rw [if_neg e3, if_neg e3]
    by_cases e4 : k < 25
    · rw [if_pos e4, if_pos e4]
    rw [if_neg e4, if_neg e4]
    by_cases e5 : k = 25
    · rw [if_pos e5, if_pos e5]
    rw [if_neg e5, if_neg e5]
    by_cases e6 : k < 47
    · rw [if_pos e6, if_pos e6]
    rw [if_neg e6, if_neg e6]
    by_cases e7 : k = 47
    · rw [if_pos e7, if_pos e7]
    rw [if_neg e7, if_neg e7]
    by_cases e8 : k = 48
    · rw [if_pos e8, if_pos e8]
    rw [if_neg e8, if_neg e8]
    by_cases e9 : k = 49
    · rw [if_pos e9, if_pos e9]
    rw [if_neg e9, if_neg e9]
    by_cases e10 : k < 530
    · rw [if_pos e10, if_pos e10]
      dsimp only
      rw [if_neg (by omega)]
    rw [if_neg e10, if_neg e10]
theorem md_pr {j : Nat} {R : Nat → Int32} (hj : j < 480) : mdW h y (plS M j R) (y + 50 + j) = some (aI .int 5 R) := by
  rw [md_p hj]
  show some (aI .int 5 (if j = j then R else M.2.2.2.2.2.2.2.1 j)) = _
  rw [if_pos rfl]
theorem plS_2 {j : Nat} {R R' : Nat → Int32} : plS (plS M j R) j R' = plS M j R' := by
  unfold plS
  refine congrArg (fun z => (M.1, M.2.1, M.2.2.1, M.2.2.2.1, M.2.2.2.2.1, M.2.2.2.2.2.1, M.2.2.2.2.2.2.1, z, M.2.2.2.2.2.2.2.2)) ?_
  funext i
  dsimp only
  by_cases e : i = j
  · rw [if_pos e, if_pos e]
  · rw [if_neg e, if_neg e, if_neg e]
end
