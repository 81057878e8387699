variable {d n w : Nat} {g : Nat × Nat} {st : List Value} {h : aHf} {r : Nat × Nat × Nat × Nat} {a b a1 a2 a3 a4 a5 a6 a7 a8 a9 : Nat} {x y z x1 x2 x3 x4 x5 x6 x7 x8 x9 : Int32} {X Y X1 X2 X3 X4 X5 : Int64} {D E : UInt64} {v v1 v2 v3 v4 v5 v6 v7 v8 v9 : Value} {l0 l1 l2 l3 l4 l5 l6 l7 l8 l9 l10 l11 l12 l13 l14 l15 l16 l17 l18 l19 l20 l21 l22 l23 l24 l25 l26 l27 l28 l29 l30 l31 l32 l33 l34 l35 l36 l37 l38 l39 : Option Value}
abbrev tab261_0 : List (Nat × Instr × Nat) := [(0, .iload_n 0, 1), (1, .iload_n 1, 1), (2, .irem, 1), (3, .istore_n 2, 1), (4, .iload_n 0, 1), (5, .iload_n 1, 1), (6, .ixor, 1), (7, .ifCond .ge 11, 3), (10, .iload_n 2, 1), (11, .ifCond .eq 7, 3), (14, .iload_n 2, 1), (15, .iload_n 1, 1), (16, .iadd, 1), (17, .ireturn, 1), (18, .iload_n 2, 1), (19, .ireturn, 1)]
theorem T261_0 : (tab261_0.all fun e => decide (mDec 261 e.1 = some e.2)) = true := by decide +kernel
theorem r261_0 : L d 261 0 [some (.int x), l1, l2] st (h, r) = L d 261 1 [some (.int x), l1, l2] (.int x :: st) (h, r) := K_iln (tabD T261_0 0 rfl) rfl
theorem r261_1 : L d 261 1 [l0, some (.int x), l2] st (h, r) = L d 261 2 [l0, some (.int x), l2] (.int x :: st) (h, r) := K_iln (tabD T261_0 1 rfl) rfl
theorem r261_2 : L d 261 2 [l0, l1, l2] (.int y :: .int x :: st) (h, r) = if y = 0 then none else L d 261 3 [l0, l1, l2] (.int (x - x / y * y) :: st) (h, r) := K_irem (tabD T261_0 2 rfl)
theorem r261_3 : L d 261 3 [l0, l1, l2] (.int x :: st) (h, r) = L d 261 4 [l0, klL l1, some (.int x)] st (h, r) := K_isn (tabD T261_0 3 rfl) rfl
theorem r261_4 : L d 261 4 [some (.int x), l1, l2] st (h, r) = L d 261 5 [some (.int x), l1, l2] (.int x :: st) (h, r) := K_iln (tabD T261_0 4 rfl) rfl
theorem r261_5 : L d 261 5 [l0, some (.int x), l2] st (h, r) = L d 261 6 [l0, some (.int x), l2] (.int x :: st) (h, r) := K_iln (tabD T261_0 5 rfl) rfl
theorem r261_6 : L d 261 6 [l0, l1, l2] (.int y :: .int x :: st) (h, r) = L d 261 7 [l0, l1, l2] (.int (x ^^^ y) :: st) (h, r) := K_ixor (tabD T261_0 6 rfl)
theorem r261_7 : L d 261 7 [l0, l1, l2] (.int x :: st) (h, r) = if 0 ≤ x then L d 261 18 [l0, l1, l2] st (h, r) else L d 261 10 [l0, l1, l2] st (h, r) := K_fge (tabD T261_0 7 rfl) rfl
theorem r261_10 : L d 261 10 [l0, l1, some (.int x)] st (h, r) = L d 261 11 [l0, l1, some (.int x)] (.int x :: st) (h, r) := K_iln (tabD T261_0 8 rfl) rfl
theorem r261_11 : L d 261 11 [l0, l1, l2] (.int x :: st) (h, r) = if x = 0 then L d 261 18 [l0, l1, l2] st (h, r) else L d 261 14 [l0, l1, l2] st (h, r) := K_feq (tabD T261_0 9 rfl) rfl
theorem r261_14 : L d 261 14 [l0, l1, some (.int x)] st (h, r) = L d 261 15 [l0, l1, some (.int x)] (.int x :: st) (h, r) := K_iln (tabD T261_0 10 rfl) rfl
theorem r261_15 : L d 261 15 [l0, some (.int x), l2] st (h, r) = L d 261 16 [l0, some (.int x), l2] (.int x :: st) (h, r) := K_iln (tabD T261_0 11 rfl) rfl
theorem r261_16 : L d 261 16 [l0, l1, l2] (.int y :: .int x :: st) (h, r) = L d 261 17 [l0, l1, l2] (.int (x + y) :: st) (h, r) := K_iadd (tabD T261_0 12 rfl)
theorem r261_17 : L d 261 17 [l0, l1, l2] [.int x] (h, r) = some (.inl (some (.int x)), (h, r)) := R_e (il := (.ireturn, 1)) (tabD T261_0 13 rfl) (ret_i (by decide +kernel))
theorem r261_18 : L d 261 18 [l0, l1, some (.int x)] st (h, r) = L d 261 19 [l0, l1, some (.int x)] (.int x :: st) (h, r) := K_iln (tabD T261_0 14 rfl) rfl
theorem r261_19 : L d 261 19 [l0, l1, l2] [.int x] (h, r) = some (.inl (some (.int x)), (h, r)) := R_e (il := (.ireturn, 1)) (tabD T261_0 15 rfl) (ret_i (by decide +kernel))
theorem e261 : aE (d + 1) 261 [.int x1, .int x2] (h, r) = L d 261 0 [some (.int x1), some (.int x2), none] [] (h, r) := aE_row (by decide +kernel) (n := 3) (by decide +kernel) rfl rfl
abbrev tab262_0 : List (Nat × Instr × Nat) := [(0, .iload_n 0, 1), (1, .ifCond .ge 8, 3), (4, .iload_n 0, 1), (5, .ineg, 1), (6, .goto 4, 3), (9, .iload_n 0, 1), (10, .ireturn, 1)]
theorem T262_0 : (tab262_0.all fun e => decide (mDec 262 e.1 = some e.2)) = true := by decide +kernel
theorem r262_0 : L d 262 0 [some (.int x)] st (h, r) = L d 262 1 [some (.int x)] (.int x :: st) (h, r) := K_iln (tabD T262_0 0 rfl) rfl
theorem r262_1 : L d 262 1 [l0] (.int x :: st) (h, r) = if 0 ≤ x then L d 262 9 [l0] st (h, r) else L d 262 4 [l0] st (h, r) := K_fge (tabD T262_0 1 rfl) rfl
theorem r262_4 : L d 262 4 [some (.int x)] st (h, r) = L d 262 5 [some (.int x)] (.int x :: st) (h, r) := K_iln (tabD T262_0 2 rfl) rfl
theorem r262_5 : L d 262 5 [l0] (.int x :: st) (h, r) = L d 262 6 [l0] (.int (-x) :: st) (h, r) := K_ineg (tabD T262_0 3 rfl)
theorem r262_6 : L d 262 6 [l0] st (h, r) = L d 262 10 [l0] st (h, r) := K_goto (tabD T262_0 4 rfl) rfl
theorem r262_9 : L d 262 9 [some (.int x)] st (h, r) = L d 262 10 [some (.int x)] (.int x :: st) (h, r) := K_iln (tabD T262_0 5 rfl) rfl
theorem r262_10 : L d 262 10 [l0] [.int x] (h, r) = some (.inl (some (.int x)), (h, r)) := R_e (il := (.ireturn, 1)) (tabD T262_0 6 rfl) (ret_i (by decide +kernel))
theorem e262 : aE (d + 1) 262 [.int x1] (h, r) = L d 262 0 [some (.int x1)] [] (h, r) := aE_row (by decide +kernel) (n := 1) (by decide +kernel) rfl rfl
abbrev tab263_0 : List (Nat × Instr × Nat) := [(0, .iload_n 0, 1), (1, .iload_n 1, 1), (2, .if_icmp .lt 7, 3), (5, .iload_n 0, 1), (6, .goto 4, 3), (9, .iload_n 1, 1), (10, .ireturn, 1)]
theorem T263_0 : (tab263_0.all fun e => decide (mDec 263 e.1 = some e.2)) = true := by decide +kernel
theorem r263_0 : L d 263 0 [some (.int x), l1] st (h, r) = L d 263 1 [some (.int x), l1] (.int x :: st) (h, r) := K_iln (tabD T263_0 0 rfl) rfl
theorem r263_1 : L d 263 1 [l0, some (.int x)] st (h, r) = L d 263 2 [l0, some (.int x)] (.int x :: st) (h, r) := K_iln (tabD T263_0 1 rfl) rfl
theorem r263_2 : L d 263 2 [l0, l1] (.int y :: .int x :: st) (h, r) = if x < y then L d 263 9 [l0, l1] st (h, r) else L d 263 5 [l0, l1] st (h, r) := K_clt (tabD T263_0 2 rfl) rfl
theorem r263_5 : L d 263 5 [some (.int x), l1] st (h, r) = L d 263 6 [some (.int x), l1] (.int x :: st) (h, r) := K_iln (tabD T263_0 3 rfl) rfl
theorem r263_6 : L d 263 6 [l0, l1] st (h, r) = L d 263 10 [l0, l1] st (h, r) := K_goto (tabD T263_0 4 rfl) rfl
theorem r263_9 : L d 263 9 [l0, some (.int x)] st (h, r) = L d 263 10 [l0, some (.int x)] (.int x :: st) (h, r) := K_iln (tabD T263_0 5 rfl) rfl
theorem r263_10 : L d 263 10 [l0, l1] [.int x] (h, r) = some (.inl (some (.int x)), (h, r)) := R_e (il := (.ireturn, 1)) (tabD T263_0 6 rfl) (ret_i (by decide +kernel))
theorem e263 : aE (d + 1) 263 [.int x1, .int x2] (h, r) = L d 263 0 [some (.int x1), some (.int x2)] [] (h, r) := aE_row (by decide +kernel) (n := 2) (by decide +kernel) rfl rfl
abbrev tab264_0 : List (Nat × Instr × Nat) := [(0, .iload_n 0, 1), (1, .iload_n 1, 1), (2, .if_icmp .gt 7, 3), (5, .iload_n 0, 1), (6, .goto 4, 3), (9, .iload_n 1, 1), (10, .ireturn, 1)]
theorem T264_0 : (tab264_0.all fun e => decide (mDec 264 e.1 = some e.2)) = true := by decide +kernel
theorem r264_0 : L d 264 0 [some (.int x), l1] st (h, r) = L d 264 1 [some (.int x), l1] (.int x :: st) (h, r) := K_iln (tabD T264_0 0 rfl) rfl
theorem r264_1 : L d 264 1 [l0, some (.int x)] st (h, r) = L d 264 2 [l0, some (.int x)] (.int x :: st) (h, r) := K_iln (tabD T264_0 1 rfl) rfl
theorem r264_2 : L d 264 2 [l0, l1] (.int y :: .int x :: st) (h, r) = if y < x then L d 264 9 [l0, l1] st (h, r) else L d 264 5 [l0, l1] st (h, r) := K_cgt (tabD T264_0 2 rfl) rfl
theorem r264_5 : L d 264 5 [some (.int x), l1] st (h, r) = L d 264 6 [some (.int x), l1] (.int x :: st) (h, r) := K_iln (tabD T264_0 3 rfl) rfl
theorem r264_6 : L d 264 6 [l0, l1] st (h, r) = L d 264 10 [l0, l1] st (h, r) := K_goto (tabD T264_0 4 rfl) rfl
theorem r264_9 : L d 264 9 [l0, some (.int x)] st (h, r) = L d 264 10 [l0, some (.int x)] (.int x :: st) (h, r) := K_iln (tabD T264_0 5 rfl) rfl
theorem r264_10 : L d 264 10 [l0, l1] [.int x] (h, r) = some (.inl (some (.int x)), (h, r)) := R_e (il := (.ireturn, 1)) (tabD T264_0 6 rfl) (ret_i (by decide +kernel))
theorem e264 : aE (d + 1) 264 [.int x1, .int x2] (h, r) = L d 264 0 [some (.int x1), some (.int x2)] [] (h, r) := aE_row (by decide +kernel) (n := 2) (by decide +kernel) rfl rfl
