/-! ===== the reference: its cells, from y on ===== -/
abbrev Ob : Type := Int32 × Int32 × Int32 × Bool × Int32 × Int32 × Int64
/-- thrown, undos, redos, isOpen, clips, plays, sum; all; before; undone; redone; opened; clip; played; rows -/
abbrev Md : Type := Ob × (Nat → Int32) × (Nat → Int32) × ((Nat → Nat) × (Nat → Nat → Int32)) × ((Nat → Nat) × (Nat → Nat → Int32)) × (Nat → Int32) × (Nat → Int32) × (Nat → Nat → Int32) × (Nat → Int64)
def mdC (y : Nat) (M : Md) (k : Nat) : aC :=
  if k = 0 then aB 10 [.int M.1.1, .ref (y + 1), .ref (y + 2), .ref (y + 3), .ref (y + 25), .int M.1.2.1, .int M.1.2.2.1, .int (bI (M.1.2.2.2.1 = true)), .ref (y + 47), .int M.1.2.2.2.2.1, .ref (y + 48), .ref (y + 49), .int M.1.2.2.2.2.2.1, .ref (y + 530), .long M.1.2.2.2.2.2.2]
  else if k = 1 then aI .int 385 M.2.1
  else if k = 2 then aI .int 385 M.2.2.1
  else if k = 3 then aP (.array .int) 21 (fun i => if i < 21 then some (y + 4 + M.2.2.2.1.1 i) else none)
  else if k < 25 then aI .int 385 (M.2.2.2.1.2 (k - 4))
  else if k = 25 then aP (.array .int) 21 (fun i => if i < 21 then some (y + 26 + M.2.2.2.2.1.1 i) else none)
  else if k < 47 then aI .int 385 (M.2.2.2.2.1.2 (k - 26))
  else if k = 47 then aI .int 385 M.2.2.2.2.2.1
  else if k = 48 then aI .int 300 M.2.2.2.2.2.2.1
  else if k = 49 then aP (.array .int) 480 (fun i => if i < 480 then some (y + 50 + i) else none)
  else if k < 530 then aI .int 5 (M.2.2.2.2.2.2.2.1 (k - 50))
  else aL 960 M.2.2.2.2.2.2.2.2
abbrev mdW (h : aHf) (y : Nat) (M : Md) : aHf := rgW h y 531 (mdC y M)
theorem fin_fr {h h2 : aHf} {y N n : Nat} {C C' : Nat → aC} {r r' : Nat × Nat × Nat} {n' : Nat} {o : aO} (hy : y + N ≤ n) (hf : ∀ q, q < n → h2 q = h q) : aFin true (rgW h y N C, n, r) (some (o, (rgW h2 y N C', n', r'))) = some (o, (rgW h y N C', n', r')) := by
  refine congrArg some (congrArg (Prod.mk _) (congrArg (fun z => (z, n', r')) ?_))
  funext q
  show (if q < n then rgW h2 y N C' q else rgW h y N C q) = rgW h y N C' q
  unfold rgW
  by_cases e : q < n
  · rw [if_pos e, hf q e]
  · rw [if_neg e, if_neg (by omega), if_neg (by omega)]
section
variable {h : aHf} {y : Nat} {M : Md}
theorem md_0 : mdW h y M y = some (aB 10 [.int M.1.1, .ref (y + 1), .ref (y + 2), .ref (y + 3), .ref (y + 25), .int M.1.2.1, .int M.1.2.2.1, .int (bI (M.1.2.2.2.1 = true)), .ref (y + 47), .int M.1.2.2.2.2.1, .ref (y + 48), .ref (y + 49), .int M.1.2.2.2.2.2.1, .ref (y + 530), .long M.1.2.2.2.2.2.2]) := rg_0 (by decide)
theorem md_1 : mdW h y M (y + 1) = some (aI .int 385 M.2.1) := rg_at (k := 1) (by decide)
theorem md_2 : mdW h y M (y + 2) = some (aI .int 385 M.2.2.1) := rg_at (k := 2) (by decide)
theorem md_3 : mdW h y M (y + 3) = some (aP (.array .int) 21 (fun i => if i < 21 then some (y + 4 + M.2.2.2.1.1 i) else none)) := rg_at (k := 3) (by decide)
theorem md_25 : mdW h y M (y + 25) = some (aP (.array .int) 21 (fun i => if i < 21 then some (y + 26 + M.2.2.2.2.1.1 i) else none)) := rg_at (k := 25) (by decide)
theorem md_47 : mdW h y M (y + 47) = some (aI .int 385 M.2.2.2.2.2.1) := rg_at (k := 47) (by decide)
theorem md_48 : mdW h y M (y + 48) = some (aI .int 300 M.2.2.2.2.2.2.1) := rg_at (k := 48) (by decide)
theorem md_49 : mdW h y M (y + 49) = some (aP (.array .int) 480 (fun i => if i < 480 then some (y + 50 + i) else none)) := rg_at (k := 49) (by decide)
theorem md_530 : mdW h y M (y + 530) = some (aL 960 M.2.2.2.2.2.2.2.2) := rg_at (k := 530) (by decide)
theorem md_u {j : Nat} (hj : j < 21) : mdW h y M (y + 4 + j) = some (aI .int 385 (M.2.2.2.1.2 j)) := by
  rw [Nat.add_assoc]
  refine (rg_at (show 4 + j < 531 by omega)).trans (congrArg some ?_)
  unfold mdC
  rw [if_neg (by omega), if_neg (by omega), if_neg (by omega), if_neg (by omega), if_pos (by omega), Nat.add_sub_cancel_left]
theorem md_r {j : Nat} (hj : j < 21) : mdW h y M (y + 26 + j) = some (aI .int 385 (M.2.2.2.2.1.2 j)) := by
  rw [Nat.add_assoc]
  refine (rg_at (show 26 + j < 531 by omega)).trans (congrArg some ?_)
  unfold mdC
  rw [if_neg (by omega), if_neg (by omega), if_neg (by omega), if_neg (by omega), if_neg (by omega), if_neg (by omega), if_pos (by omega), Nat.add_sub_cancel_left]
theorem md_p {j : Nat} (hj : j < 480) : mdW h y M (y + 50 + j) = some (aI .int 5 (M.2.2.2.2.2.2.2.1 j)) := by
  rw [Nat.add_assoc]
  refine (rg_at (show 50 + j < 531 by omega)).trans (congrArg some ?_)
  unfold mdC
  rw [if_neg (by omega), if_neg (by omega), if_neg (by omega), if_neg (by omega), if_neg (by omega), if_neg (by omega), if_neg (by omega), if_neg (by omega), if_neg (by omega), if_neg (by omega), if_pos (by omega), Nat.add_sub_cancel_left]
/-- one cell changed -/
theorem md_up {k : Nat} {v : aC} {M' : Md} (hk : k < 531) (hv : v = mdC y M' k) (ho : ∀ j, j < 531 → j ≠ k → mdC y M j = mdC y M' j) : aup (mdW h y M) (y + k) v = mdW h y M' := by
  rw [rg_set hk]
  refine rg_ext (fun j hj => ?_)
  by_cases e : j = k
  · rw [if_pos e, hv, e]
  · rw [if_neg e, ho j hj e]
theorem md_up0 {v : aC} {M' : Md} (hv : v = mdC y M' 0) (ho : ∀ j, j < 531 → j ≠ 0 → mdC y M j = mdC y M' j) : aup (mdW h y M) y v = mdW h y M' := md_up (k := 0) (by decide) hv ho
/-- the object's own cell changed -/
theorem md_ob {t u r c p : Int32} {b : Bool} {s : Int64} : aup (mdW h y M) y (aB 10 [.int t, .ref (y + 1), .ref (y + 2), .ref (y + 3), .ref (y + 25), .int u, .int r, .int (bI (b = true)), .ref (y + 47), .int c, .ref (y + 48), .ref (y + 49), .int p, .ref (y + 530), .long s]) = mdW h y ((t, u, r, b, c, p, s), M.2) :=
  md_up0 rfl (fun j hj e => by
    unfold mdC
    rw [if_neg e, if_neg e])
theorem md_a {F : Nat → Int32} : aup (mdW h y M) (y + 1) (aI .int 385 F) = mdW h y (M.1, F, M.2.2) :=
  md_up (by decide) rfl (fun j hj e => by
    unfold mdC
    simp only [e, if_false])
theorem md_b {F : Nat → Int32} : aup (mdW h y M) (y + 2) (aI .int 385 F) = mdW h y (M.1, M.2.1, F, M.2.2.2) :=
  md_up (by decide) rfl (fun j hj e => by
    unfold mdC
    simp only [e, if_false])
theorem md_o {F : Nat → Int32} : aup (mdW h y M) (y + 47) (aI .int 385 F) = mdW h y (M.1, M.2.1, M.2.2.1, M.2.2.2.1, M.2.2.2.2.1, F, M.2.2.2.2.2.2) :=
  md_up (by decide) rfl (fun j hj e => by
    unfold mdC
    simp only [e, if_false])
theorem md_c {F : Nat → Int32} : aup (mdW h y M) (y + 48) (aI .int 300 F) = mdW h y (M.1, M.2.1, M.2.2.1, M.2.2.2.1, M.2.2.2.2.1, M.2.2.2.2.2.1, F, M.2.2.2.2.2.2.2) :=
  md_up (by decide) rfl (fun j hj e => by
    unfold mdC
    simp only [e, if_false])
theorem md_w {F : Nat → Int64} : aup (mdW h y M) (y + 530) (aL 960 F) = mdW h y (M.1, M.2.1, M.2.2.1, M.2.2.2.1, M.2.2.2.2.1, M.2.2.2.2.2.1, M.2.2.2.2.2.2.1, M.2.2.2.2.2.2.2.1, F) :=
  md_up (by decide) rfl (fun j hj e => by
    unfold mdC
    by_cases e0 : j = 0
    · rw [if_pos e0, if_pos e0]
    · rw [if_neg e0, if_neg e0]
      have h9 : j < 530 := by omega
      simp only [h9, if_true])
/-- making a cell behind -/
theorem md_n {n : Nat} {v : aC} (hn : y + 531 ≤ n) : aup (mdW h y M) n v = mdW (aup h n v) y M := by
  funext q
  unfold aup mdW rgW
  by_cases e : q = n
  · rw [if_pos e, if_neg (by omega)]
    dsimp only
    rw [if_pos e]
  · rw [if_neg e]
    by_cases e2 : y ≤ q ∧ q < y + 531
    · rw [if_pos e2, if_pos e2]
    · rw [if_neg e2, if_neg e2]
      dsimp only
      rw [if_neg e]
theorem md_out {q : Nat} (hq : y + 531 ≤ q) : mdW h y M q = h q := rg_o (by omega)
theorem aup_o {h : aHf} {n q : Nat} {v : aC} (hq : q ≠ n) : aup h n v q = h q := if_neg hq
theorem aup_2 {h : aHf} {n : Nat} {u v : aC} : aup (aup h n u) n v = aup h n v := by
  funext q
  unfold aup
  by_cases e : q = n
  · rw [if_pos e, if_pos e]
  · rw [if_neg e, if_neg e, if_neg e]
end
