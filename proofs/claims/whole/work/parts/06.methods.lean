/-! ===== the methods as data (by program, wip/whole/gen_methods.py) ===== -/
theorem mj_pdB {cc : ByteArray} {P : List (Nat × Instr × Nat)} (h : P.all (fun e => decide (decode cc e.1 = .ok (e.2.1, e.2.2)) && (mj_isSw e.2.1 || decide (e.2.2 = mj_il e.2.1))) = true) : mj_pd cc P := by
  intro e he
  have h1 := List.all_eq_true.mp h e he
  simp only [Bool.and_eq_true, Bool.or_eq_true, decide_eq_true_eq] at h1
  exact h1
def mX0_forget : mj_m := (0, false, cX0_forget, 1, none, yX0_forget)
def pX0_forget : List (Nat × Instr × Nat) := [(0, .aload_n 0, 1), (1, .iconst 0, 1), (2, .putfield 15, 3), (5, .return_, 1)]
set_option maxRecDepth 100000 in
theorem dX0_forget : mj_pd cX0_forget pX0_forget := mj_pdB (by decide +kernel)
theorem fX0_forget : mj_mf mX0_forget := ⟨mj_t3 129 (by decide +kernel) rfl, mj_t1 10 (by decide +kernel) rfl, by decide, by decide, by decide⟩
theorem iX0_forget : Cond.instanceMethod yX0_forget ∈ mj_GW := mj_t3 127 (by decide +kernel) rfl
theorem vX0_forget : Cond.selects (mj_own.getD 0 "") yX0_forget yX0_forget ∈ mj_GW := mj_t3 128 (by decide +kernel) rfl
def mX0_remember : mj_m := (0, false, cX0_remember, 2, none, yX0_remember)
def pX0_remember : List (Nat × Instr × Nat) := [(0, .aload_n 1, 1), (1, .aload_n 0, 1), (2, .getfield 11, 3), (5, .aload_n 0, 1), (6, .getfield 19, 3), (9, .bipush 49, 2), (11, .imul, 1), (12, .invokevirtual 22, 3), (15, .aload_n 0, 1), (16, .aload_n 0, 1), (17, .getfield 19, 3), (20, .iconst 1, 1), (21, .iadd, 1), (22, .bipush 40, 2), (24, .if_icmp .ge 12, 3), (27, .aload_n 0, 1), (28, .getfield 19, 3), (31, .iconst 1, 1), (32, .iadd, 1), (33, .goto 4, 3), (36, .iconst 0, 1), (37, .putfield 19, 3), (40, .aload_n 0, 1), (41, .getfield 15, 3), (44, .bipush 40, 2), (46, .if_icmp .ge 13, 3), (49, .aload_n 0, 1), (50, .dup, 1), (51, .getfield 15, 3), (54, .iconst 1, 1), (55, .iadd, 1), (56, .putfield 15, 3), (59, .return_, 1)]
set_option maxRecDepth 100000 in
theorem dX0_remember : mj_pd cX0_remember pX0_remember := mj_pdB (by decide +kernel)
theorem fX0_remember : mj_mf mX0_remember := ⟨mj_t3 162 (by decide +kernel) rfl, mj_t1 10 (by decide +kernel) rfl, by decide, by decide, by decide⟩
theorem iX0_remember : Cond.instanceMethod yX0_remember ∈ mj_GW := mj_t3 160 (by decide +kernel) rfl
theorem vX0_remember : Cond.selects (mj_own.getD 0 "") yX0_remember yX0_remember ∈ mj_GW := mj_t3 161 (by decide +kernel) rfl
def mX0_takeBack : mj_m := (0, false, cX0_takeBack, 2, none, yX0_takeBack)
def pX0_takeBack : List (Nat × Instr × Nat) := [(0, .aload_n 0, 1), (1, .getfield 15, 3), (4, .iconst 1, 1), (5, .if_icmp .ge 4, 3), (8, .return_, 1), (9, .aload_n 0, 1), (10, .aload_n 0, 1), (11, .getfield 19, 3), (14, .ifCond .le 12, 3), (17, .aload_n 0, 1), (18, .getfield 19, 3), (21, .iconst 1, 1), (22, .isub, 1), (23, .goto 5, 3), (26, .bipush 39, 2), (28, .putfield 19, 3), (31, .aload_n 0, 1), (32, .dup, 1), (33, .getfield 15, 3), (36, .iconst 1, 1), (37, .isub, 1), (38, .putfield 15, 3), (41, .aload_n 1, 1), (42, .aload_n 0, 1), (43, .getfield 11, 3), (46, .aload_n 0, 1), (47, .getfield 19, 3), (50, .bipush 49, 2), (52, .imul, 1), (53, .invokevirtual 26, 3), (56, .return_, 1)]
set_option maxRecDepth 100000 in
theorem dX0_takeBack : mj_pd cX0_takeBack pX0_takeBack := mj_pdB (by decide +kernel)
theorem fX0_takeBack : mj_mf mX0_takeBack := ⟨mj_t4 71 (by decide +kernel) rfl, mj_t1 10 (by decide +kernel) rfl, by decide, by decide, by decide⟩
theorem iX0_takeBack : Cond.instanceMethod yX0_takeBack ∈ mj_GW := mj_t4 69 (by decide +kernel) rfl
theorem vX0_takeBack : Cond.selects (mj_own.getD 0 "") yX0_takeBack yX0_takeBack ∈ mj_GW := mj_t4 70 (by decide +kernel) rfl
def mX1_copyFrom : mj_m := (1, false, cX1_copyFrom, 2, none, yX1_copyFrom)
def pX1_copyFrom : List (Nat × Instr × Nat) := [(0, .aload_n 1, 1), (1, .getfield 9, 3), (4, .iconst 0, 1), (5, .aload_n 0, 1), (6, .getfield 9, 3), (9, .iconst 0, 1), (10, .bipush 7, 2), (12, .invokestatic 13, 3), (15, .return_, 1)]
set_option maxRecDepth 100000 in
theorem dX1_copyFrom : mj_pd cX1_copyFrom pX1_copyFrom := mj_pdB (by decide +kernel)
theorem fX1_copyFrom : mj_mf mX1_copyFrom := ⟨mj_t3 120 (by decide +kernel) rfl, mj_t1 5 (by decide +kernel) rfl, by decide, by decide, by decide⟩
theorem iX1_copyFrom : Cond.instanceMethod yX1_copyFrom ∈ mj_GW := mj_t3 118 (by decide +kernel) rfl
theorem vX1_copyFrom : Cond.selects (mj_own.getD 1 "") yX1_copyFrom yX1_copyFrom ∈ mj_GW := mj_t3 119 (by decide +kernel) rfl
def mX1_setForDuel : mj_m := (1, false, cX1_setForDuel, 3, none, yX1_setForDuel)
def pX1_setForDuel : List (Nat × Instr × Nat) := [(0, .iconst 0, 1), (1, .istore_n 2, 1), (2, .iload_n 2, 1), (3, .bipush 7, 2), (5, .if_icmp .ge 16, 3), (8, .aload_n 0, 1), (9, .getfield 9, 3), (12, .iload_n 2, 1), (13, .iconst 0, 1), (14, .iastore, 1), (15, .iinc 2 1, 3), (18, .goto (-16), 3), (21, .aload_n 0, 1), (22, .getfield 9, 3), (25, .iconst 0, 1), (26, .iconst 2, 1), (27, .iastore, 1), (28, .aload_n 0, 1), (29, .getfield 9, 3), (32, .iconst 5, 1), (33, .iload_n 1, 1), (34, .iastore, 1), (35, .return_, 1)]
set_option maxRecDepth 100000 in
theorem dX1_setForDuel : mj_pd cX1_setForDuel pX1_setForDuel := mj_pdB (by decide +kernel)
theorem fX1_setForDuel : mj_mf mX1_setForDuel := ⟨mj_t4 226 (by decide +kernel) rfl, mj_t1 5 (by decide +kernel) rfl, by decide, by decide, by decide⟩
theorem iX1_setForDuel : Cond.instanceMethod yX1_setForDuel ∈ mj_GW := mj_t4 224 (by decide +kernel) rfl
theorem vX1_setForDuel : Cond.selects (mj_own.getD 1 "") yX1_setForDuel yX1_setForDuel ∈ mj_GW := mj_t4 225 (by decide +kernel) rfl
def mX1_hasColumn : mj_m := (1, false, cX1_hasColumn, 2, some .boolean, yX1_hasColumn)
def pX1_hasColumn : List (Nat × Instr × Nat) := [(0, .iload_n 1, 1), (1, .ifCond .lt 17, 3), (4, .iload_n 1, 1), (5, .aload_n 0, 1), (6, .getfield 9, 3), (9, .iconst 0, 1), (10, .iaload, 1), (11, .if_icmp .ge 7, 3), (14, .iconst 1, 1), (15, .goto 4, 3), (18, .iconst 0, 1), (19, .ireturn, 1)]
set_option maxRecDepth 100000 in
theorem dX1_hasColumn : mj_pd cX1_hasColumn pX1_hasColumn := mj_pdB (by decide +kernel)
theorem fX1_hasColumn : mj_mf mX1_hasColumn := ⟨mj_t3 58 (by decide +kernel) rfl, mj_t1 5 (by decide +kernel) rfl, by decide, by decide, by decide⟩
theorem iX1_hasColumn : Cond.instanceMethod yX1_hasColumn ∈ mj_GW := mj_t3 56 (by decide +kernel) rfl
theorem vX1_hasColumn : Cond.selects (mj_own.getD 1 "") yX1_hasColumn yX1_hasColumn ∈ mj_GW := mj_t3 57 (by decide +kernel) rfl
def mX1_thirdOf : mj_m := (1, false, cX1_thirdOf, 2, some .int, yX1_thirdOf)
def pX1_thirdOf : List (Nat × Instr × Nat) := [(0, .aload_n 0, 1), (1, .getfield 9, 3), (4, .iconst 0, 1), (5, .iaload, 1), (6, .iconst 1, 1), (7, .if_icmp .ge 7, 3), (10, .iconst 0, 1), (11, .goto 13, 3), (14, .iload_n 1, 1), (15, .iconst 3, 1), (16, .imul, 1), (17, .aload_n 0, 1), (18, .getfield 9, 3), (21, .iconst 0, 1), (22, .iaload, 1), (23, .idiv, 1), (24, .ireturn, 1)]
set_option maxRecDepth 100000 in
theorem dX1_thirdOf : mj_pd cX1_thirdOf pX1_thirdOf := mj_pdB (by decide +kernel)
theorem fX1_thirdOf : mj_mf mX1_thirdOf := ⟨mj_t4 151 (by decide +kernel) rfl, mj_t1 5 (by decide +kernel) rfl, by decide, by decide, by decide⟩
theorem iX1_thirdOf : Cond.instanceMethod yX1_thirdOf ∈ mj_GW := mj_t4 149 (by decide +kernel) rfl
theorem vX1_thirdOf : Cond.selects (mj_own.getD 1 "") yX1_thirdOf yX1_thirdOf ∈ mj_GW := mj_t4 150 (by decide +kernel) rfl
def mX1_secondsLeft : mj_m := (1, false, cX1_secondsLeft, 2, some .int, yX1_secondsLeft)
def pX1_secondsLeft : List (Nat × Instr × Nat) := [(0, .aload_n 0, 1), (1, .getfield 9, 3), (4, .iconst 5, 1), (5, .iaload, 1), (6, .aload_n 1, 1), (7, .getfield 19, 3), (10, .isub, 1), (11, .ireturn, 1)]
set_option maxRecDepth 100000 in
theorem dX1_secondsLeft : mj_pd cX1_secondsLeft pX1_secondsLeft := mj_pdB (by decide +kernel)
theorem fX1_secondsLeft : mj_mf mX1_secondsLeft := ⟨mj_t3 199 (by decide +kernel) rfl, mj_t1 5 (by decide +kernel) rfl, by decide, by decide, by decide⟩
theorem iX1_secondsLeft : Cond.instanceMethod yX1_secondsLeft ∈ mj_GW := mj_t3 197 (by decide +kernel) rfl
theorem vX1_secondsLeft : Cond.selects (mj_own.getD 1 "") yX1_secondsLeft yX1_secondsLeft ∈ mj_GW := mj_t3 198 (by decide +kernel) rfl
def mX1_statusOf : mj_m := (1, false, cX1_statusOf, 3, some .int, yX1_statusOf)
def pX1_statusOf : List (Nat × Instr × Nat) := [(0, .aload_n 0, 1), (1, .getfield 9, 3), (4, .bipush 6, 2), (6, .iaload, 1), (7, .iconst 1, 1), (8, .if_icmp .ne 19, 3), (11, .aload_n 1, 1), (12, .getfield 25, 3), (15, .iload_n 2, 1), (16, .iaload, 1), (17, .iconst 1, 1), (18, .if_icmp .ne 7, 3), (21, .iconst 2, 1), (22, .goto 4, 3), (25, .iconst 0, 1), (26, .ireturn, 1), (27, .aload_n 1, 1), (28, .getfield 28, 3), (31, .iload_n 2, 1), (32, .iaload, 1), (33, .ifCond .ge 7, 3), (36, .iconst 1, 1), (37, .goto 4, 3), (40, .iconst 0, 1), (41, .ireturn, 1)]
set_option maxRecDepth 100000 in
theorem dX1_statusOf : mj_pd cX1_statusOf pX1_statusOf := mj_pdB (by decide +kernel)
theorem fX1_statusOf : mj_mf mX1_statusOf := ⟨mj_t4 89 (by decide +kernel) rfl, mj_t1 5 (by decide +kernel) rfl, by decide, by decide, by decide⟩
theorem iX1_statusOf : Cond.instanceMethod yX1_statusOf ∈ mj_GW := mj_t4 87 (by decide +kernel) rfl
theorem vX1_statusOf : Cond.selects (mj_own.getD 1 "") yX1_statusOf yX1_statusOf ∈ mj_GW := mj_t4 88 (by decide +kernel) rfl
def mX1_scoreOf : mj_m := (1, false, cX1_scoreOf, 5, some .int, yX1_scoreOf)
def pX1_scoreOf : List (Nat × Instr × Nat) := [(0, .aload_n 0, 1), (1, .aload_n 1, 1), (2, .getfield 31, 3), (5, .iload_n 2, 1), (6, .iaload, 1), (7, .invokevirtual 34, 3), (10, .aload_n 1, 1), (11, .getfield 38, 3), (14, .iload_n 2, 1), (15, .iaload, 1), (16, .iadd, 1), (17, .istore_n 3, 1), (18, .aload_n 1, 1), (19, .getfield 28, 3), (22, .iload_n 2, 1), (23, .iaload, 1), (24, .ifCond .le 12, 3), (27, .iload_n 3, 1), (28, .aload_n 1, 1), (29, .getfield 28, 3), (32, .iload_n 2, 1), (33, .iaload, 1), (34, .isub, 1), (35, .istore_n 3, 1), (36, .aload_n 1, 1), (37, .iload_n 2, 1), (38, .invokevirtual 41, 3), (41, .ifCond .eq 6, 3), (44, .iinc 3 (-5), 3), (47, .aload_n 0, 1), (48, .aload_n 1, 1), (49, .iload_n 2, 1), (50, .invokevirtual 45, 3), (53, .istore 4, 2), (55, .iload 4, 2), (57, .iconst 1, 1), (58, .if_icmp .ne 6, 3), (61, .iinc 3 (-30), 3), (64, .iload 4, 2), (66, .iconst 2, 1), (67, .if_icmp .ne 10, 3), (70, .iload_n 3, 1), (71, .bipush 100, 2), (73, .isub, 1), (74, .goto 4, 3), (77, .iload_n 3, 1), (78, .ireturn, 1)]
set_option maxRecDepth 100000 in
theorem dX1_scoreOf : mj_pd cX1_scoreOf pX1_scoreOf := mj_pdB (by decide +kernel)
theorem fX1_scoreOf : mj_mf mX1_scoreOf := ⟨mj_t4 93 (by decide +kernel) rfl, mj_t1 5 (by decide +kernel) rfl, by decide, by decide, by decide⟩
theorem iX1_scoreOf : Cond.instanceMethod yX1_scoreOf ∈ mj_GW := mj_t4 91 (by decide +kernel) rfl
theorem vX1_scoreOf : Cond.selects (mj_own.getD 1 "") yX1_scoreOf yX1_scoreOf ∈ mj_GW := mj_t4 92 (by decide +kernel) rfl
def mX1_worthOfColumn : mj_m := (1, false, cX1_worthOfColumn, 4, some .int, yX1_worthOfColumn)
def pX1_worthOfColumn : List (Nat × Instr × Nat) := [(0, .aload_n 0, 1), (1, .getfield 9, 3), (4, .iconst 0, 1), (5, .iaload, 1), (6, .iconst 1, 1), (7, .isub, 1), (8, .istore_n 2, 1), (9, .aload_n 0, 1), (10, .getfield 9, 3), (13, .iconst 2, 1), (14, .iaload, 1), (15, .ifCond .ne 9, 3), (18, .iload_n 2, 1), (19, .iload_n 1, 1), (20, .isub, 1), (21, .goto 4, 3), (24, .iload_n 1, 1), (25, .istore_n 3, 1), (26, .iload_n 2, 1), (27, .iconst 1, 1), (28, .if_icmp .ge 7, 3), (31, .iconst 0, 1), (32, .goto 15, 3), (35, .iconst 5, 1), (36, .aload_n 0, 1), (37, .getfield 9, 3), (40, .iconst 1, 1), (41, .iaload, 1), (42, .imul, 1), (43, .iload_n 3, 1), (44, .imul, 1), (45, .iload_n 2, 1), (46, .idiv, 1), (47, .ireturn, 1)]
set_option maxRecDepth 100000 in
theorem dX1_worthOfColumn : mj_pd cX1_worthOfColumn pX1_worthOfColumn := mj_pdB (by decide +kernel)
theorem fX1_worthOfColumn : mj_mf mX1_worthOfColumn := ⟨mj_t4 97 (by decide +kernel) rfl, mj_t1 5 (by decide +kernel) rfl, by decide, by decide, by decide⟩
theorem iX1_worthOfColumn : Cond.instanceMethod yX1_worthOfColumn ∈ mj_GW := mj_t4 96 (by decide +kernel) rfl
theorem vX1_worthOfColumn : Cond.selects (mj_own.getD 1 "") yX1_worthOfColumn yX1_worthOfColumn ∈ mj_GW := mj_p2 10 (by decide +kernel) rfl
def mX1_placeOf : mj_m := (1, false, cX1_placeOf, 7, some .int, yX1_placeOf)
def pX1_placeOf : List (Nat × Instr × Nat) := [(0, .aload_n 0, 1), (1, .aload_n 1, 1), (2, .iload_n 2, 1), (3, .invokevirtual 49, 3), (6, .istore_n 3, 1), (7, .iconst 1, 1), (8, .istore 4, 2), (10, .iconst 0, 1), (11, .istore 5, 2), (13, .iload 5, 2), (15, .aload_n 1, 1), (16, .getfield 52, 3), (19, .if_icmp .ge 48, 3), (22, .iload 5, 2), (24, .iload_n 2, 1), (25, .if_icmp .ne 6, 3), (28, .goto 33, 3), (31, .aload_n 0, 1), (32, .aload_n 1, 1), (33, .iload 5, 2), (35, .invokevirtual 49, 3), (38, .istore 6, 2), (40, .iload 6, 2), (42, .iload_n 3, 1), (43, .if_icmp .gt 15, 3), (46, .iload 6, 2), (48, .iload_n 3, 1), (49, .if_icmp .ne 12, 3), (52, .iload 5, 2), (54, .iload_n 2, 1), (55, .if_icmp .ge 6, 3), (58, .iinc 4 1, 3), (61, .iinc 5 1, 3), (64, .goto (-51), 3), (67, .iload 4, 2), (69, .ireturn, 1)]
set_option maxRecDepth 100000 in
theorem dX1_placeOf : mj_pd cX1_placeOf pX1_placeOf := mj_pdB (by decide +kernel)
theorem fX1_placeOf : mj_mf mX1_placeOf := ⟨mj_t4 103 (by decide +kernel) rfl, mj_t1 5 (by decide +kernel) rfl, by decide, by decide, by decide⟩
theorem iX1_placeOf : Cond.instanceMethod yX1_placeOf ∈ mj_GW := mj_t4 101 (by decide +kernel) rfl
theorem vX1_placeOf : Cond.selects (mj_own.getD 1 "") yX1_placeOf yX1_placeOf ∈ mj_GW := mj_t4 102 (by decide +kernel) rfl
def mX2_begin : mj_m := (2, false, cX2_begin, 3, none, yX2_begin)
def pX2_begin : List (Nat × Instr × Nat) := [(0, .aload_n 0, 1), (1, .lload_n 1, 1), (2, .putfield 7, 3), (5, .return_, 1)]
set_option maxRecDepth 100000 in
theorem dX2_begin : mj_pd cX2_begin pX2_begin := mj_pdB (by decide +kernel)
theorem fX2_begin : mj_mf mX2_begin := ⟨mj_t4 49 (by decide +kernel) rfl, mj_t1 9 (by decide +kernel) rfl, by decide, by decide, by decide⟩
theorem iX2_begin : Cond.instanceMethod yX2_begin ∈ mj_GW := mj_t4 47 (by decide +kernel) rfl
theorem vX2_begin : Cond.selects (mj_own.getD 2 "") yX2_begin yX2_begin ∈ mj_GW := mj_t4 48 (by decide +kernel) rfl
def mX2_next : mj_m := (2, false, cX2_next, 2, some .int, yX2_next)
def pX2_next : List (Nat × Instr × Nat) := [(0, .aload_n 0, 1), (1, .aload_n 0, 1), (2, .getfield 7, 3), (5, .ldc2_w 13, 3), (8, .lmul, 1), (9, .ldc2_w 15, 3), (12, .ladd, 1), (13, .putfield 7, 3), (16, .iload_n 1, 1), (17, .iconst 1, 1), (18, .if_icmp .ge 7, 3), (21, .iconst 0, 1), (22, .goto 14, 3), (25, .aload_n 0, 1), (26, .getfield 7, 3), (29, .bipush 33, 2), (31, .lushr, 1), (32, .iload_n 1, 1), (33, .i2l, 1), (34, .lrem, 1), (35, .l2i, 1), (36, .ireturn, 1)]
set_option maxRecDepth 100000 in
theorem dX2_next : mj_pd cX2_next pX2_next := mj_pdB (by decide +kernel)
theorem fX2_next : mj_mf mX2_next := ⟨mj_t4 61 (by decide +kernel) rfl, mj_t1 9 (by decide +kernel) rfl, by decide, by decide, by decide⟩
theorem iX2_next : Cond.instanceMethod yX2_next ∈ mj_GW := mj_t4 59 (by decide +kernel) rfl
theorem vX2_next : Cond.selects (mj_own.getD 2 "") yX2_next yX2_next ∈ mj_GW := mj_t4 60 (by decide +kernel) rfl
def mX3_empty : mj_m := (3, false, cX3_empty, 1, none, yX3_empty)
def pX3_empty : List (Nat × Instr × Nat) := [(0, .aload_n 0, 1), (1, .iconst 0, 1), (2, .putfield 36, 3), (5, .aload_n 0, 1), (6, .iconst 0, 1), (7, .putfield 40, 3), (10, .return_, 1)]
set_option maxRecDepth 100000 in
theorem dX3_empty : mj_pd cX3_empty pX3_empty := mj_pdB (by decide +kernel)
theorem fX3_empty : mj_mf mX3_empty := ⟨mj_t2 143 (by decide +kernel) rfl, mj_t1 6 (by decide +kernel) rfl, by decide, by decide, by decide⟩
theorem iX3_empty : Cond.instanceMethod yX3_empty ∈ mj_GW := mj_t2 141 (by decide +kernel) rfl
theorem vX3_empty : Cond.selects (mj_own.getD 3 "") yX3_empty yX3_empty ∈ mj_GW := mj_t2 142 (by decide +kernel) rfl
def mX3_join : mj_m := (3, false, cX3_join, 2, none, yX3_join)
def pX3_join : List (Nat × Instr × Nat) := [(0, .aload_n 0, 1), (1, .getfield 36, 3), (4, .bipush 8, 2), (6, .if_icmp .ge 10, 3), (9, .aload_n 1, 1), (10, .arraylength, 1), (11, .bipush 6, 2), (13, .if_icmp .ge 4, 3), (16, .return_, 1), (17, .aload_n 0, 1), (18, .getfield 9, 3), (21, .aload_n 0, 1), (22, .getfield 36, 3), (25, .aload_n 1, 1), (26, .iconst 0, 1), (27, .iaload, 1), (28, .iastore, 1), (29, .aload_n 0, 1), (30, .getfield 15, 3), (33, .aload_n 0, 1), (34, .getfield 36, 3), (37, .aload_n 1, 1), (38, .iconst 1, 1), (39, .iaload, 1), (40, .iastore, 1), (41, .aload_n 0, 1), (42, .getfield 18, 3), (45, .aload_n 0, 1), (46, .getfield 36, 3), (49, .aload_n 1, 1), (50, .iconst 2, 1), (51, .iaload, 1), (52, .iastore, 1), (53, .aload_n 0, 1), (54, .getfield 21, 3), (57, .aload_n 0, 1), (58, .getfield 36, 3), (61, .aload_n 1, 1), (62, .iconst 3, 1), (63, .iaload, 1), (64, .iastore, 1), (65, .aload_n 0, 1), (66, .getfield 24, 3), (69, .aload_n 0, 1), (70, .getfield 36, 3), (73, .aload_n 1, 1), (74, .iconst 4, 1), (75, .iaload, 1), (76, .iastore, 1), (77, .aload_n 0, 1), (78, .getfield 27, 3), (81, .aload_n 0, 1), (82, .getfield 36, 3), (85, .aload_n 1, 1), (86, .iconst 5, 1), (87, .iaload, 1), (88, .iconst 4, 1), (89, .if_icmp .ne 7, 3), (92, .iconst (-1), 1), (93, .goto 6, 3), (96, .aload_n 1, 1), (97, .iconst 5, 1), (98, .iaload, 1), (99, .iastore, 1), (100, .aload_n 0, 1), (101, .getfield 30, 3), (104, .aload_n 0, 1), (105, .getfield 36, 3), (108, .iconst 0, 1), (109, .iastore, 1), (110, .aload_n 0, 1), (111, .getfield 33, 3), (114, .aload_n 0, 1), (115, .getfield 36, 3), (118, .iconst 0, 1), (119, .iastore, 1), (120, .aload_n 0, 1), (121, .dup, 1), (122, .getfield 36, 3), (125, .iconst 1, 1), (126, .iadd, 1), (127, .putfield 36, 3), (130, .return_, 1)]
set_option maxRecDepth 100000 in
theorem dX3_join : mj_pd cX3_join pX3_join := mj_pdB (by decide +kernel)
theorem fX3_join : mj_mf mX3_join := ⟨mj_t3 50 (by decide +kernel) rfl, mj_t1 6 (by decide +kernel) rfl, by decide, by decide, by decide⟩
theorem iX3_join : Cond.instanceMethod yX3_join ∈ mj_GW := mj_t3 48 (by decide +kernel) rfl
theorem vX3_join : Cond.selects (mj_own.getD 3 "") yX3_join yX3_join ∈ mj_GW := mj_t3 49 (by decide +kernel) rfl
def mX3_setForDuel : mj_m := (3, false, cX3_setForDuel, 3, none, yX3_setForDuel)
def pX3_setForDuel : List (Nat × Instr × Nat) := [(0, .aload_n 0, 1), (1, .invokevirtual 43, 3), (4, .aload_n 0, 1), (5, .iconst 0, 1), (6, .iload_n 1, 1), (7, .invokevirtual 46, 3), (10, .aload_n 0, 1), (11, .iconst 1, 1), (12, .iload_n 2, 1), (13, .invokevirtual 46, 3), (16, .return_, 1)]
set_option maxRecDepth 100000 in
theorem dX3_setForDuel : mj_pd cX3_setForDuel pX3_setForDuel := mj_pdB (by decide +kernel)
theorem fX3_setForDuel : mj_mf mX3_setForDuel := ⟨mj_t4 230 (by decide +kernel) rfl, mj_t1 6 (by decide +kernel) rfl, by decide, by decide, by decide⟩
theorem iX3_setForDuel : Cond.instanceMethod yX3_setForDuel ∈ mj_GW := mj_t4 228 (by decide +kernel) rfl
theorem vX3_setForDuel : Cond.selects (mj_own.getD 3 "") yX3_setForDuel yX3_setForDuel ∈ mj_GW := mj_t4 229 (by decide +kernel) rfl
def mX3_joinDuel : mj_m := (3, false, cX3_joinDuel, 3, none, yX3_joinDuel)
def pX3_joinDuel : List (Nat × Instr × Nat) := [(0, .aload_n 0, 1), (1, .getfield 9, 3), (4, .iload_n 1, 1), (5, .iload_n 1, 1), (6, .iastore, 1), (7, .aload_n 0, 1), (8, .getfield 15, 3), (11, .iload_n 1, 1), (12, .bipush 9, 2), (14, .iastore, 1), (15, .aload_n 0, 1), (16, .getfield 18, 3), (19, .iload_n 1, 1), (20, .iconst 0, 1), (21, .iastore, 1), (22, .aload_n 0, 1), (23, .getfield 21, 3), (26, .iload_n 1, 1), (27, .iconst 2, 1), (28, .iastore, 1), (29, .aload_n 0, 1), (30, .getfield 24, 3), (33, .iload_n 1, 1), (34, .iconst 5, 1), (35, .iastore, 1), (36, .aload_n 0, 1), (37, .getfield 27, 3), (40, .iload_n 1, 1), (41, .iload_n 2, 1), (42, .iastore, 1), (43, .aload_n 0, 1), (44, .getfield 30, 3), (47, .iload_n 1, 1), (48, .iconst 0, 1), (49, .iastore, 1), (50, .aload_n 0, 1), (51, .getfield 33, 3), (54, .iload_n 1, 1), (55, .iconst 0, 1), (56, .iastore, 1), (57, .aload_n 0, 1), (58, .iload_n 1, 1), (59, .iconst 1, 1), (60, .iadd, 1), (61, .putfield 36, 3), (64, .return_, 1)]
set_option maxRecDepth 100000 in
theorem dX3_joinDuel : mj_pd cX3_joinDuel pX3_joinDuel := mj_pdB (by decide +kernel)
theorem fX3_joinDuel : mj_mf mX3_joinDuel := ⟨mj_t4 235 (by decide +kernel) rfl, mj_t1 6 (by decide +kernel) rfl, by decide, by decide, by decide⟩
theorem iX3_joinDuel : Cond.instanceMethod yX3_joinDuel ∈ mj_GW := mj_t4 234 (by decide +kernel) rfl
theorem vX3_joinDuel : Cond.selects (mj_own.getD 3 "") yX3_joinDuel yX3_joinDuel ∈ mj_GW := mj_p3 2 (by decide +kernel) rfl
def mX3_copyFrom : mj_m := (3, false, cX3_copyFrom, 3, none, yX3_copyFrom)
def pX3_copyFrom : List (Nat × Instr × Nat) := [(0, .aload_n 0, 1), (1, .aload_n 1, 1), (2, .getfield 36, 3), (5, .putfield 36, 3), (8, .aload_n 0, 1), (9, .aload_n 1, 1), (10, .getfield 40, 3), (13, .putfield 40, 3), (16, .iconst 0, 1), (17, .istore_n 2, 1), (18, .iload_n 2, 1), (19, .aload_n 0, 1), (20, .getfield 36, 3), (23, .if_icmp .ge 105, 3), (26, .aload_n 0, 1), (27, .getfield 9, 3), (30, .iload_n 2, 1), (31, .aload_n 1, 1), (32, .getfield 9, 3), (35, .iload_n 2, 1), (36, .iaload, 1), (37, .iastore, 1), (38, .aload_n 0, 1), (39, .getfield 15, 3), (42, .iload_n 2, 1), (43, .aload_n 1, 1), (44, .getfield 15, 3), (47, .iload_n 2, 1), (48, .iaload, 1), (49, .iastore, 1), (50, .aload_n 0, 1), (51, .getfield 18, 3), (54, .iload_n 2, 1), (55, .aload_n 1, 1), (56, .getfield 18, 3), (59, .iload_n 2, 1), (60, .iaload, 1), (61, .iastore, 1), (62, .aload_n 0, 1), (63, .getfield 21, 3), (66, .iload_n 2, 1), (67, .aload_n 1, 1), (68, .getfield 21, 3), (71, .iload_n 2, 1), (72, .iaload, 1), (73, .iastore, 1), (74, .aload_n 0, 1), (75, .getfield 24, 3), (78, .iload_n 2, 1), (79, .aload_n 1, 1), (80, .getfield 24, 3), (83, .iload_n 2, 1), (84, .iaload, 1), (85, .iastore, 1), (86, .aload_n 0, 1), (87, .getfield 27, 3), (90, .iload_n 2, 1), (91, .aload_n 1, 1), (92, .getfield 27, 3), (95, .iload_n 2, 1), (96, .iaload, 1), (97, .iastore, 1), (98, .aload_n 0, 1), (99, .getfield 30, 3), (102, .iload_n 2, 1), (103, .aload_n 1, 1), (104, .getfield 30, 3), (107, .iload_n 2, 1), (108, .iaload, 1), (109, .iastore, 1), (110, .aload_n 0, 1), (111, .getfield 33, 3), (114, .iload_n 2, 1), (115, .aload_n 1, 1), (116, .getfield 33, 3), (119, .iload_n 2, 1), (120, .iaload, 1), (121, .iastore, 1), (122, .iinc 2 1, 3), (125, .goto (-107), 3), (128, .return_, 1)]
set_option maxRecDepth 100000 in
theorem dX3_copyFrom : mj_pd cX3_copyFrom pX3_copyFrom := mj_pdB (by decide +kernel)
theorem fX3_copyFrom : mj_mf mX3_copyFrom := ⟨mj_t3 125 (by decide +kernel) rfl, mj_t1 6 (by decide +kernel) rfl, by decide, by decide, by decide⟩
theorem iX3_copyFrom : Cond.instanceMethod yX3_copyFrom ∈ mj_GW := mj_t3 123 (by decide +kernel) rfl
theorem vX3_copyFrom : Cond.selects (mj_own.getD 3 "") yX3_copyFrom yX3_copyFrom ∈ mj_GW := mj_t3 124 (by decide +kernel) rfl
def mX3_writeTo : mj_m := (3, false, cX3_writeTo, 5, none, yX3_writeTo)
def pX3_writeTo : List (Nat × Instr × Nat) := [(0, .aload_n 1, 1), (1, .iload_n 2, 1), (2, .aload_n 0, 1), (3, .getfield 40, 3), (6, .iastore, 1), (7, .iload_n 2, 1), (8, .iconst 1, 1), (9, .iadd, 1), (10, .istore_n 3, 1), (11, .iconst 0, 1), (12, .istore 4, 2), (14, .iload 4, 2), (16, .bipush 8, 2), (18, .if_icmp .ge 82, 3), (21, .aload_n 1, 1), (22, .iload_n 3, 1), (23, .aload_n 0, 1), (24, .getfield 9, 3), (27, .iload 4, 2), (29, .iaload, 1), (30, .iastore, 1), (31, .aload_n 1, 1), (32, .iload_n 3, 1), (33, .iconst 1, 1), (34, .iadd, 1), (35, .aload_n 0, 1), (36, .getfield 15, 3), (39, .iload 4, 2), (41, .iaload, 1), (42, .iastore, 1), (43, .aload_n 1, 1), (44, .iload_n 3, 1), (45, .iconst 2, 1), (46, .iadd, 1), (47, .aload_n 0, 1), (48, .getfield 18, 3), (51, .iload 4, 2), (53, .iaload, 1), (54, .iastore, 1), (55, .aload_n 1, 1), (56, .iload_n 3, 1), (57, .iconst 3, 1), (58, .iadd, 1), (59, .aload_n 0, 1), (60, .getfield 27, 3), (63, .iload 4, 2), (65, .iaload, 1), (66, .iastore, 1), (67, .aload_n 1, 1), (68, .iload_n 3, 1), (69, .iconst 4, 1), (70, .iadd, 1), (71, .aload_n 0, 1), (72, .getfield 30, 3), (75, .iload 4, 2), (77, .iaload, 1), (78, .iastore, 1), (79, .aload_n 1, 1), (80, .iload_n 3, 1), (81, .iconst 5, 1), (82, .iadd, 1), (83, .aload_n 0, 1), (84, .getfield 33, 3), (87, .iload 4, 2), (89, .iaload, 1), (90, .iastore, 1), (91, .iinc 3 6, 3), (94, .iinc 4 1, 3), (97, .goto (-83), 3), (100, .return_, 1)]
set_option maxRecDepth 100000 in
theorem dX3_writeTo : mj_pd cX3_writeTo pX3_writeTo := mj_pdB (by decide +kernel)
theorem fX3_writeTo : mj_mf mX3_writeTo := ⟨mj_t3 166 (by decide +kernel) rfl, mj_t1 6 (by decide +kernel) rfl, by decide, by decide, by decide⟩
theorem iX3_writeTo : Cond.instanceMethod yX3_writeTo ∈ mj_GW := mj_t3 164 (by decide +kernel) rfl
theorem vX3_writeTo : Cond.selects (mj_own.getD 3 "") yX3_writeTo yX3_writeTo ∈ mj_GW := mj_t3 165 (by decide +kernel) rfl
def mX3_readFrom : mj_m := (3, false, cX3_readFrom, 5, none, yX3_readFrom)
def pX3_readFrom : List (Nat × Instr × Nat) := [(0, .aload_n 0, 1), (1, .aload_n 1, 1), (2, .iload_n 2, 1), (3, .iaload, 1), (4, .putfield 40, 3), (7, .iload_n 2, 1), (8, .iconst 1, 1), (9, .iadd, 1), (10, .istore_n 3, 1), (11, .iconst 0, 1), (12, .istore 4, 2), (14, .iload 4, 2), (16, .bipush 8, 2), (18, .if_icmp .ge 82, 3), (21, .aload_n 0, 1), (22, .getfield 9, 3), (25, .iload 4, 2), (27, .aload_n 1, 1), (28, .iload_n 3, 1), (29, .iaload, 1), (30, .iastore, 1), (31, .aload_n 0, 1), (32, .getfield 15, 3), (35, .iload 4, 2), (37, .aload_n 1, 1), (38, .iload_n 3, 1), (39, .iconst 1, 1), (40, .iadd, 1), (41, .iaload, 1), (42, .iastore, 1), (43, .aload_n 0, 1), (44, .getfield 18, 3), (47, .iload 4, 2), (49, .aload_n 1, 1), (50, .iload_n 3, 1), (51, .iconst 2, 1), (52, .iadd, 1), (53, .iaload, 1), (54, .iastore, 1), (55, .aload_n 0, 1), (56, .getfield 27, 3), (59, .iload 4, 2), (61, .aload_n 1, 1), (62, .iload_n 3, 1), (63, .iconst 3, 1), (64, .iadd, 1), (65, .iaload, 1), (66, .iastore, 1), (67, .aload_n 0, 1), (68, .getfield 30, 3), (71, .iload 4, 2), (73, .aload_n 1, 1), (74, .iload_n 3, 1), (75, .iconst 4, 1), (76, .iadd, 1), (77, .iaload, 1), (78, .iastore, 1), (79, .aload_n 0, 1), (80, .getfield 33, 3), (83, .iload 4, 2), (85, .aload_n 1, 1), (86, .iload_n 3, 1), (87, .iconst 5, 1), (88, .iadd, 1), (89, .iaload, 1), (90, .iastore, 1), (91, .iinc 3 6, 3), (94, .iinc 4 1, 3), (97, .goto (-83), 3), (100, .return_, 1)]
set_option maxRecDepth 100000 in
theorem dX3_readFrom : mj_pd cX3_readFrom pX3_readFrom := mj_pdB (by decide +kernel)
theorem fX3_readFrom : mj_mf mX3_readFrom := ⟨mj_t4 75 (by decide +kernel) rfl, mj_t1 6 (by decide +kernel) rfl, by decide, by decide, by decide⟩
theorem iX3_readFrom : Cond.instanceMethod yX3_readFrom ∈ mj_GW := mj_t4 73 (by decide +kernel) rfl
theorem vX3_readFrom : Cond.selects (mj_own.getD 3 "") yX3_readFrom yX3_readFrom ∈ mj_GW := mj_t4 74 (by decide +kernel) rfl
def mX3_scatter : mj_m := (3, false, cX3_scatter, 8, none, yX3_scatter)
def pX3_scatter : List (Nat × Instr × Nat) := [(0, .aload_n 0, 1), (1, .getfield 36, 3), (4, .istore_n 3, 1), (5, .iconst 0, 1), (6, .istore 4, 2), (8, .iload 4, 2), (10, .iload_n 3, 1), (11, .if_icmp .ge 139, 3), (14, .aload_n 0, 1), (15, .iload 4, 2), (17, .putfield 36, 3), (20, .iconst 5, 1), (21, .aload_n 1, 1), (22, .bipush 10, 2), (24, .invokevirtual 50, 3), (27, .iadd, 1), (28, .istore 5, 2), (30, .aload_n 1, 1), (31, .iload_n 2, 1), (32, .invokevirtual 50, 3), (35, .istore 6, 2), (37, .iconst 0, 1), (38, .istore 7, 2), (40, .iload 7, 2), (42, .bipush 8, 2), (44, .if_icmp .ge 22, 3), (47, .aload_n 0, 1), (48, .iload 5, 2), (50, .iload_n 2, 1), (51, .invokevirtual 56, 3), (54, .ifCond .eq 12, 3), (57, .iinc 5 1, 3), (60, .iinc 7 1, 3), (63, .goto (-23), 3), (66, .iconst 0, 1), (67, .istore 7, 2), (69, .iload 7, 2), (71, .iload_n 2, 1), (72, .if_icmp .ge 38, 3), (75, .aload_n 0, 1), (76, .iload 6, 2), (78, .iload 5, 2), (80, .invokevirtual 60, 3), (83, .ifCond .eq 27, 3), (86, .iload 6, 2), (88, .iconst 1, 1), (89, .iadd, 1), (90, .iload_n 2, 1), (91, .if_icmp .ge 10, 3), (94, .iload 6, 2), (96, .iconst 1, 1), (97, .iadd, 1), (98, .goto 4, 3), (101, .iconst 0, 1), (102, .istore 6, 2), (104, .iinc 7 1, 3), (107, .goto (-38), 3), (110, .aload_n 0, 1), (111, .getfield 9, 3), (114, .iload 4, 2), (116, .iload 6, 2), (118, .iastore, 1), (119, .aload_n 0, 1), (120, .getfield 15, 3), (123, .iload 4, 2), (125, .iload 5, 2), (127, .iastore, 1), (128, .aload_n 0, 1), (129, .getfield 30, 3), (132, .iload 4, 2), (134, .iconst 0, 1), (135, .iastore, 1), (136, .aload_n 0, 1), (137, .getfield 33, 3), (140, .iload 4, 2), (142, .iconst 0, 1), (143, .iastore, 1), (144, .iinc 4 1, 3), (147, .goto (-139), 3), (150, .aload_n 0, 1), (151, .iload_n 3, 1), (152, .putfield 36, 3), (155, .return_, 1)]
set_option maxRecDepth 100000 in
theorem dX3_scatter : mj_pd cX3_scatter pX3_scatter := mj_pdB (by decide +kernel)
theorem fX3_scatter : mj_mf mX3_scatter := ⟨mj_t5 48 (by decide +kernel) rfl, mj_t1 6 (by decide +kernel) rfl, by decide, by decide, by decide⟩
theorem iX3_scatter : Cond.instanceMethod yX3_scatter ∈ mj_GW := mj_t5 46 (by decide +kernel) rfl
theorem vX3_scatter : Cond.selects (mj_own.getD 3 "") yX3_scatter yX3_scatter ∈ mj_GW := mj_t5 47 (by decide +kernel) rfl
def mX3_isRowFull : mj_m := (3, false, cX3_isRowFull, 5, some .boolean, yX3_isRowFull)
def pX3_isRowFull : List (Nat × Instr × Nat) := [(0, .iconst 0, 1), (1, .istore_n 3, 1), (2, .iconst 0, 1), (3, .istore 4, 2), (5, .iload 4, 2), (7, .aload_n 0, 1), (8, .getfield 36, 3), (11, .if_icmp .ge 23, 3), (14, .aload_n 0, 1), (15, .getfield 15, 3), (18, .iload 4, 2), (20, .iaload, 1), (21, .iload_n 1, 1), (22, .if_icmp .ne 6, 3), (25, .iinc 3 1, 3), (28, .iinc 4 1, 3), (31, .goto (-26), 3), (34, .iload_n 3, 1), (35, .iload_n 2, 1), (36, .if_icmp .lt 7, 3), (39, .iconst 1, 1), (40, .goto 4, 3), (43, .iconst 0, 1), (44, .ireturn, 1)]
set_option maxRecDepth 100000 in
theorem dX3_isRowFull : mj_pd cX3_isRowFull pX3_isRowFull := mj_pdB (by decide +kernel)
theorem fX3_isRowFull : mj_mf mX3_isRowFull := ⟨mj_t5 53 (by decide +kernel) rfl, mj_t1 6 (by decide +kernel) rfl, by decide, by decide, by decide⟩
theorem iX3_isRowFull : Cond.instanceMethod yX3_isRowFull ∈ mj_GW := mj_t5 52 (by decide +kernel) rfl
theorem vX3_isRowFull : Cond.selects (mj_own.getD 3 "") yX3_isRowFull yX3_isRowFull ∈ mj_GW := mj_p3 3 (by decide +kernel) rfl
def mX3_isHeld : mj_m := (3, false, cX3_isHeld, 4, some .boolean, yX3_isHeld)
def pX3_isHeld : List (Nat × Instr × Nat) := [(0, .iconst 0, 1), (1, .istore_n 3, 1), (2, .iload_n 3, 1), (3, .aload_n 0, 1), (4, .getfield 36, 3), (7, .if_icmp .ge 31, 3), (10, .aload_n 0, 1), (11, .getfield 9, 3), (14, .iload_n 3, 1), (15, .iaload, 1), (16, .iload_n 1, 1), (17, .if_icmp .ne 15, 3), (20, .aload_n 0, 1), (21, .getfield 15, 3), (24, .iload_n 3, 1), (25, .iaload, 1), (26, .iload_n 2, 1), (27, .if_icmp .ne 5, 3), (30, .iconst 1, 1), (31, .ireturn, 1), (32, .iinc 3 1, 3), (35, .goto (-33), 3), (38, .iconst 0, 1), (39, .ireturn, 1)]
set_option maxRecDepth 100000 in
theorem dX3_isHeld : mj_pd cX3_isHeld pX3_isHeld := mj_pdB (by decide +kernel)
theorem fX3_isHeld : mj_mf mX3_isHeld := ⟨mj_t3 183 (by decide +kernel) rfl, mj_t1 6 (by decide +kernel) rfl, by decide, by decide, by decide⟩
theorem iX3_isHeld : Cond.instanceMethod yX3_isHeld ∈ mj_GW := mj_t3 181 (by decide +kernel) rfl
theorem vX3_isHeld : Cond.selects (mj_own.getD 3 "") yX3_isHeld yX3_isHeld ∈ mj_GW := mj_t3 182 (by decide +kernel) rfl
def mX3_isLeewardHeld : mj_m := (3, false, cX3_isLeewardHeld, 2, some .boolean, yX3_isLeewardHeld)
def pX3_isLeewardHeld : List (Nat × Instr × Nat) := [(0, .aload_n 0, 1), (1, .getfield 9, 3), (4, .iload_n 1, 1), (5, .iaload, 1), (6, .ifCond .le 28, 3), (9, .aload_n 0, 1), (10, .aload_n 0, 1), (11, .getfield 9, 3), (14, .iload_n 1, 1), (15, .iaload, 1), (16, .iconst 1, 1), (17, .isub, 1), (18, .aload_n 0, 1), (19, .getfield 15, 3), (22, .iload_n 1, 1), (23, .iaload, 1), (24, .invokevirtual 60, 3), (27, .ifCond .eq 7, 3), (30, .iconst 1, 1), (31, .goto 4, 3), (34, .iconst 0, 1), (35, .ireturn, 1)]
set_option maxRecDepth 100000 in
theorem dX3_isLeewardHeld : mj_pd cX3_isLeewardHeld pX3_isLeewardHeld := mj_pdB (by decide +kernel)
theorem fX3_isLeewardHeld : mj_mf mX3_isLeewardHeld := ⟨mj_t3 236 (by decide +kernel) rfl, mj_t1 6 (by decide +kernel) rfl, by decide, by decide, by decide⟩
theorem iX3_isLeewardHeld : Cond.instanceMethod yX3_isLeewardHeld ∈ mj_GW := mj_t3 234 (by decide +kernel) rfl
theorem vX3_isLeewardHeld : Cond.selects (mj_own.getD 3 "") yX3_isLeewardHeld yX3_isLeewardHeld ∈ mj_GW := mj_t3 235 (by decide +kernel) rfl
def mX3_isShadowed : mj_m := (3, false, cX3_isShadowed, 4, some .boolean, yX3_isShadowed)
def pX3_isShadowed : List (Nat × Instr × Nat) := [(0, .iconst 0, 1), (1, .istore_n 2, 1), (2, .iload_n 2, 1), (3, .aload_n 0, 1), (4, .getfield 36, 3), (7, .if_icmp .ge 44, 3), (10, .aload_n 0, 1), (11, .getfield 15, 3), (14, .iload_n 1, 1), (15, .iaload, 1), (16, .aload_n 0, 1), (17, .getfield 15, 3), (20, .iload_n 2, 1), (21, .iaload, 1), (22, .isub, 1), (23, .istore_n 3, 1), (24, .iload_n 3, 1), (25, .iconst 1, 1), (26, .if_icmp .lt 19, 3), (29, .iload_n 3, 1), (30, .iconst 3, 1), (31, .if_icmp .gt 14, 3), (34, .aload_n 0, 1), (35, .iload_n 1, 1), (36, .iload_n 2, 1), (37, .invokevirtual 63, 3), (40, .ifCond .eq 5, 3), (43, .iconst 1, 1), (44, .ireturn, 1), (45, .iinc 2 1, 3), (48, .goto (-46), 3), (51, .iconst 0, 1), (52, .ireturn, 1)]
set_option maxRecDepth 100000 in
theorem dX3_isShadowed : mj_pd cX3_isShadowed pX3_isShadowed := mj_pdB (by decide +kernel)
theorem fX3_isShadowed : mj_mf mX3_isShadowed := ⟨mj_t3 211 (by decide +kernel) rfl, mj_t1 6 (by decide +kernel) rfl, by decide, by decide, by decide⟩
theorem iX3_isShadowed : Cond.instanceMethod yX3_isShadowed ∈ mj_GW := mj_t3 209 (by decide +kernel) rfl
theorem vX3_isShadowed : Cond.selects (mj_own.getD 3 "") yX3_isShadowed yX3_isShadowed ∈ mj_GW := mj_t3 210 (by decide +kernel) rfl
def mX3_countBeside : mj_m := (3, false, cX3_countBeside, 4, some .int, yX3_countBeside)
def pX3_countBeside : List (Nat × Instr × Nat) := [(0, .iconst 0, 1), (1, .istore_n 2, 1), (2, .iconst 0, 1), (3, .istore_n 3, 1), (4, .iload_n 3, 1), (5, .aload_n 0, 1), (6, .getfield 36, 3), (9, .if_icmp .ge 26, 3), (12, .iload_n 3, 1), (13, .iload_n 1, 1), (14, .if_icmp .eq 15, 3), (17, .aload_n 0, 1), (18, .iload_n 1, 1), (19, .iload_n 3, 1), (20, .invokevirtual 63, 3), (23, .ifCond .eq 6, 3), (26, .iinc 2 1, 3), (29, .iinc 3 1, 3), (32, .goto (-28), 3), (35, .iload_n 2, 1), (36, .ireturn, 1)]
set_option maxRecDepth 100000 in
theorem dX3_countBeside : mj_pd cX3_countBeside pX3_countBeside := mj_pdB (by decide +kernel)
theorem fX3_countBeside : mj_mf mX3_countBeside := ⟨mj_t3 232 (by decide +kernel) rfl, mj_t1 6 (by decide +kernel) rfl, by decide, by decide, by decide⟩
theorem iX3_countBeside : Cond.instanceMethod yX3_countBeside ∈ mj_GW := mj_t3 230 (by decide +kernel) rfl
theorem vX3_countBeside : Cond.selects (mj_own.getD 3 "") yX3_countBeside yX3_countBeside ∈ mj_GW := mj_t3 231 (by decide +kernel) rfl
def mX3_isBeside : mj_m := (3, false, cX3_isBeside, 4, some .boolean, yX3_isBeside)
def pX3_isBeside : List (Nat × Instr × Nat) := [(0, .aload_n 0, 1), (1, .getfield 9, 3), (4, .iload_n 1, 1), (5, .iaload, 1), (6, .aload_n 0, 1), (7, .getfield 9, 3), (10, .iload_n 2, 1), (11, .iaload, 1), (12, .isub, 1), (13, .istore_n 3, 1), (14, .iload_n 3, 1), (15, .iconst (-1), 1), (16, .if_icmp .lt 12, 3), (19, .iload_n 3, 1), (20, .iconst 1, 1), (21, .if_icmp .gt 7, 3), (24, .iconst 1, 1), (25, .goto 4, 3), (28, .iconst 0, 1), (29, .ireturn, 1)]
set_option maxRecDepth 100000 in
theorem dX3_isBeside : mj_pd cX3_isBeside pX3_isBeside := mj_pdB (by decide +kernel)
theorem fX3_isBeside : mj_mf mX3_isBeside := ⟨mj_t3 215 (by decide +kernel) rfl, mj_t1 6 (by decide +kernel) rfl, by decide, by decide, by decide⟩
theorem iX3_isBeside : Cond.instanceMethod yX3_isBeside ∈ mj_GW := mj_t3 214 (by decide +kernel) rfl
theorem vX3_isBeside : Cond.selects (mj_own.getD 3 "") yX3_isBeside yX3_isBeside ∈ mj_GW := mj_p2 5 (by decide +kernel) rfl
def mX3_believedBack : mj_m := (3, false, cX3_believedBack, 2, some .int, yX3_believedBack)
def pX3_believedBack : List (Nat × Instr × Nat) := [(0, .aload_n 0, 1), (1, .getfield 30, 3), (4, .iload_n 1, 1), (5, .iaload, 1), (6, .iconst 1, 1), (7, .if_icmp .ne 12, 3), (10, .aload_n 0, 1), (11, .getfield 15, 3), (14, .iload_n 1, 1), (15, .iaload, 1), (16, .goto 18, 3), (19, .aload_n 0, 1), (20, .getfield 15, 3), (23, .iload_n 1, 1), (24, .iaload, 1), (25, .iconst 5, 1), (26, .iadd, 1), (27, .aload_n 0, 1), (28, .getfield 24, 3), (31, .iload_n 1, 1), (32, .iaload, 1), (33, .isub, 1), (34, .ireturn, 1)]
set_option maxRecDepth 100000 in
theorem dX3_believedBack : mj_pd cX3_believedBack pX3_believedBack := mj_pdB (by decide +kernel)
theorem fX3_believedBack : mj_mf mX3_believedBack := ⟨mj_t3 227 (by decide +kernel) rfl, mj_t1 6 (by decide +kernel) rfl, by decide, by decide, by decide⟩
theorem iX3_believedBack : Cond.instanceMethod yX3_believedBack ∈ mj_GW := mj_t3 225 (by decide +kernel) rfl
theorem vX3_believedBack : Cond.selects (mj_own.getD 3 "") yX3_believedBack yX3_believedBack ∈ mj_GW := mj_t3 226 (by decide +kernel) rfl
def mX3_speedUp : mj_m := (3, false, cX3_speedUp, 2, none, yX3_speedUp)
def pX3_speedUp : List (Nat × Instr × Nat) := [(0, .aload_n 0, 1), (1, .getfield 18, 3), (4, .iload_n 1, 1), (5, .iaload, 1), (6, .aload_n 0, 1), (7, .getfield 21, 3), (10, .iload_n 1, 1), (11, .iaload, 1), (12, .if_icmp .ge 13, 3), (15, .aload_n 0, 1), (16, .getfield 18, 3), (19, .iload_n 1, 1), (20, .dup2, 1), (21, .iaload, 1), (22, .iconst 1, 1), (23, .iadd, 1), (24, .iastore, 1), (25, .return_, 1)]
set_option maxRecDepth 100000 in
theorem dX3_speedUp : mj_pd cX3_speedUp pX3_speedUp := mj_pdB (by decide +kernel)
theorem fX3_speedUp : mj_mf mX3_speedUp := ⟨mj_t4 19 (by decide +kernel) rfl, mj_t1 6 (by decide +kernel) rfl, by decide, by decide, by decide⟩
theorem iX3_speedUp : Cond.instanceMethod yX3_speedUp ∈ mj_GW := mj_t4 17 (by decide +kernel) rfl
theorem vX3_speedUp : Cond.selects (mj_own.getD 3 "") yX3_speedUp yX3_speedUp ∈ mj_GW := mj_t4 18 (by decide +kernel) rfl
def mX3_slowDown : mj_m := (3, false, cX3_slowDown, 2, none, yX3_slowDown)
def pX3_slowDown : List (Nat × Instr × Nat) := [(0, .aload_n 0, 1), (1, .getfield 18, 3), (4, .iload_n 1, 1), (5, .iaload, 1), (6, .ifCond .le 13, 3), (9, .aload_n 0, 1), (10, .getfield 18, 3), (13, .iload_n 1, 1), (14, .dup2, 1), (15, .iaload, 1), (16, .iconst 1, 1), (17, .isub, 1), (18, .iastore, 1), (19, .return_, 1)]
set_option maxRecDepth 100000 in
theorem dX3_slowDown : mj_pd cX3_slowDown pX3_slowDown := mj_pdB (by decide +kernel)
theorem fX3_slowDown : mj_mf mX3_slowDown := ⟨mj_t4 23 (by decide +kernel) rfl, mj_t1 6 (by decide +kernel) rfl, by decide, by decide, by decide⟩
theorem iX3_slowDown : Cond.instanceMethod yX3_slowDown ∈ mj_GW := mj_t4 21 (by decide +kernel) rfl
theorem vX3_slowDown : Cond.selects (mj_own.getD 3 "") yX3_slowDown yX3_slowDown ∈ mj_GW := mj_t4 22 (by decide +kernel) rfl
def mX4_passSecond : mj_m := (4, false, cX4_passSecond, 3, none, yX4_passSecond)
def pX4_passSecond : List (Nat × Instr × Nat) := [(0, .aload_n 0, 1), (1, .aload_n 2, 1), (2, .invokevirtual 27, 3), (5, .aload_n 0, 1), (6, .aload_n 1, 1), (7, .aload_n 2, 1), (8, .iconst (-1), 1), (9, .invokevirtual 31, 3), (12, .aload_n 0, 1), (13, .aload_n 1, 1), (14, .aload_n 2, 1), (15, .invokevirtual 35, 3), (18, .return_, 1)]
set_option maxRecDepth 100000 in
theorem dX4_passSecond : mj_pd cX4_passSecond pX4_passSecond := mj_pdB (by decide +kernel)
theorem fX4_passSecond : mj_mf mX4_passSecond := ⟨mj_t3 203 (by decide +kernel) rfl, mj_t1 8 (by decide +kernel) rfl, by decide, by decide, by decide⟩
theorem iX4_passSecond : Cond.instanceMethod yX4_passSecond ∈ mj_GW := mj_t3 201 (by decide +kernel) rfl
theorem vX4_passSecond : Cond.selects (mj_own.getD 4 "") yX4_passSecond yX4_passSecond ∈ mj_GW := mj_t3 202 (by decide +kernel) rfl
def mX4_passGustySecond : mj_m := (4, false, cX4_passGustySecond, 5, none, yX4_passGustySecond)
def pX4_passGustySecond : List (Nat × Instr × Nat) := [(0, .aload_n 0, 1), (1, .aload_n 2, 1), (2, .invokevirtual 27, 3), (5, .aload_n 0, 1), (6, .aload_n 1, 1), (7, .aload_n 2, 1), (8, .iconst (-1), 1), (9, .invokevirtual 31, 3), (12, .aload_n 0, 1), (13, .aload_n 2, 1), (14, .aload_n 3, 1), (15, .iload 4, 2), (17, .invokevirtual 39, 3), (20, .aload_n 0, 1), (21, .aload_n 1, 1), (22, .aload_n 2, 1), (23, .invokevirtual 35, 3), (26, .return_, 1)]
set_option maxRecDepth 100000 in
theorem dX4_passGustySecond : mj_pd cX4_passGustySecond pX4_passGustySecond := mj_pdB (by decide +kernel)
theorem fX4_passGustySecond : mj_mf mX4_passGustySecond := ⟨mj_t4 53 (by decide +kernel) rfl, mj_t1 8 (by decide +kernel) rfl, by decide, by decide, by decide⟩
theorem iX4_passGustySecond : Cond.instanceMethod yX4_passGustySecond ∈ mj_GW := mj_t4 51 (by decide +kernel) rfl
theorem vX4_passGustySecond : Cond.selects (mj_own.getD 4 "") yX4_passGustySecond yX4_passGustySecond ∈ mj_GW := mj_t4 52 (by decide +kernel) rfl
def mX4_passToGun : mj_m := (4, false, cX4_passToGun, 5, none, yX4_passToGun)
def pX4_passToGun : List (Nat × Instr × Nat) := [(0, .aload_n 1, 1), (1, .aload_n 2, 1), (2, .invokevirtual 43, 3), (5, .istore_n 3, 1), (6, .iconst 0, 1), (7, .istore 4, 2), (9, .iload 4, 2), (11, .iload_n 3, 1), (12, .if_icmp .ge 15, 3), (15, .aload_n 0, 1), (16, .aload_n 1, 1), (17, .aload_n 2, 1), (18, .invokevirtual 49, 3), (21, .iinc 4 1, 3), (24, .goto (-15), 3), (27, .return_, 1)]
set_option maxRecDepth 100000 in
theorem dX4_passToGun : mj_pd cX4_passToGun pX4_passToGun := mj_pdB (by decide +kernel)
theorem fX4_passToGun : mj_mf mX4_passToGun := ⟨mj_t4 84 (by decide +kernel) rfl, mj_t1 8 (by decide +kernel) rfl, by decide, by decide, by decide⟩
theorem iX4_passToGun : Cond.instanceMethod yX4_passToGun ∈ mj_GW := mj_t4 82 (by decide +kernel) rfl
theorem vX4_passToGun : Cond.selects (mj_own.getD 4 "") yX4_passToGun yX4_passToGun ∈ mj_GW := mj_t4 83 (by decide +kernel) rfl
def mX4_passHeldSecond : mj_m := (4, false, cX4_passHeldSecond, 4, none, yX4_passHeldSecond)
def pX4_passHeldSecond : List (Nat × Instr × Nat) := [(0, .aload_n 0, 1), (1, .aload_n 2, 1), (2, .invokevirtual 27, 3), (5, .aload_n 0, 1), (6, .aload_n 1, 1), (7, .aload_n 2, 1), (8, .iload_n 3, 1), (9, .invokevirtual 31, 3), (12, .aload_n 2, 1), (13, .getfield 52, 3), (16, .iload_n 3, 1), (17, .iconst 0, 1), (18, .iastore, 1), (19, .aload_n 0, 1), (20, .aload_n 1, 1), (21, .aload_n 2, 1), (22, .invokevirtual 35, 3), (25, .return_, 1)]
set_option maxRecDepth 100000 in
theorem dX4_passHeldSecond : mj_pd cX4_passHeldSecond pX4_passHeldSecond := mj_pdB (by decide +kernel)
theorem fX4_passHeldSecond : mj_mf mX4_passHeldSecond := ⟨mj_t4 131 (by decide +kernel) rfl, mj_t1 8 (by decide +kernel) rfl, by decide, by decide, by decide⟩
theorem iX4_passHeldSecond : Cond.instanceMethod yX4_passHeldSecond ∈ mj_GW := mj_t4 129 (by decide +kernel) rfl
theorem vX4_passHeldSecond : Cond.selects (mj_own.getD 4 "") yX4_passHeldSecond yX4_passHeldSecond ∈ mj_GW := mj_t4 130 (by decide +kernel) rfl
def mX4_passToGunReleased : mj_m := (4, false, cX4_passToGunReleased, 6, none, yX4_passToGunReleased)
def pX4_passToGunReleased : List (Nat × Instr × Nat) := [(0, .aload_n 1, 1), (1, .aload_n 2, 1), (2, .invokevirtual 43, 3), (5, .istore 4, 2), (7, .iconst 0, 1), (8, .istore 5, 2), (10, .iload 5, 2), (12, .iload 4, 2), (14, .if_icmp .ge 32, 3), (17, .aload_n 0, 1), (18, .aload_n 2, 1), (19, .invokevirtual 27, 3), (22, .aload_n 0, 1), (23, .aload_n 1, 1), (24, .aload_n 2, 1), (25, .iload_n 3, 1), (26, .invokevirtual 31, 3), (29, .aload_n 2, 1), (30, .iload_n 3, 1), (31, .invokevirtual 57, 3), (34, .aload_n 0, 1), (35, .aload_n 1, 1), (36, .aload_n 2, 1), (37, .invokevirtual 35, 3), (40, .iinc 5 1, 3), (43, .goto (-33), 3), (46, .return_, 1)]
set_option maxRecDepth 100000 in
theorem dX4_passToGunReleased : mj_pd cX4_passToGunReleased pX4_passToGunReleased := mj_pdB (by decide +kernel)
theorem fX4_passToGunReleased : mj_mf mX4_passToGunReleased := ⟨mj_t4 127 (by decide +kernel) rfl, mj_t1 8 (by decide +kernel) rfl, by decide, by decide, by decide⟩
theorem iX4_passToGunReleased : Cond.instanceMethod yX4_passToGunReleased ∈ mj_GW := mj_t4 125 (by decide +kernel) rfl
theorem vX4_passToGunReleased : Cond.selects (mj_own.getD 4 "") yX4_passToGunReleased yX4_passToGunReleased ∈ mj_GW := mj_t4 126 (by decide +kernel) rfl
def mX4_look : mj_m := (4, false, cX4_look, 4, none, yX4_look)
def pX4_look : List (Nat × Instr × Nat) := [(0, .iconst 0, 1), (1, .istore_n 2, 1), (2, .iload_n 2, 1), (3, .aload_n 1, 1), (4, .getfield 61, 3), (7, .if_icmp .ge 83, 3), (10, .aload_n 0, 1), (11, .getfield 17, 3), (14, .iload_n 2, 1), (15, .aload_n 1, 1), (16, .iload_n 2, 1), (17, .invokevirtual 65, 3), (20, .ifCond .eq 7, 3), (23, .iconst 1, 1), (24, .goto 4, 3), (27, .iconst 0, 1), (28, .iastore, 1), (29, .iload_n 2, 1), (30, .istore_n 3, 1), (31, .iload_n 3, 1), (32, .ifCond .le 45, 3), (35, .aload_n 1, 1), (36, .getfield 69, 3), (39, .aload_n 0, 1), (40, .getfield 20, 3), (43, .iload_n 3, 1), (44, .iconst 1, 1), (45, .isub, 1), (46, .iaload, 1), (47, .iaload, 1), (48, .aload_n 1, 1), (49, .getfield 69, 3), (52, .iload_n 2, 1), (53, .iaload, 1), (54, .if_icmp .le 23, 3), (57, .aload_n 0, 1), (58, .getfield 20, 3), (61, .iload_n 3, 1), (62, .aload_n 0, 1), (63, .getfield 20, 3), (66, .iload_n 3, 1), (67, .iconst 1, 1), (68, .isub, 1), (69, .iaload, 1), (70, .iastore, 1), (71, .iinc 3 (-1), 3), (74, .goto (-43), 3), (77, .aload_n 0, 1), (78, .getfield 20, 3), (81, .iload_n 3, 1), (82, .iload_n 2, 1), (83, .iastore, 1), (84, .iinc 2 1, 3), (87, .goto (-85), 3), (90, .return_, 1)]
set_option maxRecDepth 100000 in
theorem dX4_look : mj_pd cX4_look pX4_look := mj_pdB (by decide +kernel)
theorem fX4_look : mj_mf mX4_look := ⟨mj_t3 207 (by decide +kernel) rfl, mj_t1 8 (by decide +kernel) rfl, by decide, by decide, by decide⟩
theorem iX4_look : Cond.instanceMethod yX4_look ∈ mj_GW := mj_t3 206 (by decide +kernel) rfl
theorem vX4_look : Cond.selects (mj_own.getD 4 "") yX4_look yX4_look ∈ mj_GW := mj_p2 4 (by decide +kernel) rfl
def mX4_askRules : mj_m := (4, false, cX4_askRules, 6, none, yX4_askRules)
def pX4_askRules : List (Nat × Instr × Nat) := [(0, .iconst 0, 1), (1, .istore 4, 2), (3, .iload 4, 2), (5, .aload_n 2, 1), (6, .getfield 61, 3), (9, .if_icmp .ge 175, 3), (12, .iload 4, 2), (14, .iload_n 3, 1), (15, .if_icmp .eq 163, 3), (18, .aload_n 0, 1), (19, .getfield 23, 3), (22, .aload_n 2, 1), (23, .getfield 72, 3), (26, .iload 4, 2), (28, .iaload, 1), (29, .invokevirtual 75, 3), (32, .ifCond .ne 6, 3), (35, .goto 143, 3), (38, .aload_n 0, 1), (39, .getfield 11, 3), (42, .iconst 0, 1), (43, .aload_n 2, 1), (44, .iload 4, 2), (46, .invokevirtual 78, 3), (49, .iastore, 1), (50, .aload_n 0, 1), (51, .getfield 11, 3), (54, .iconst 1, 1), (55, .aload_n 1, 1), (56, .aload_n 2, 1), (57, .invokevirtual 43, 3), (60, .iastore, 1), (61, .aload_n 0, 1), (62, .getfield 11, 3), (65, .iconst 2, 1), (66, .aload_n 2, 1), (67, .getfield 52, 3), (70, .iload 4, 2), (72, .iaload, 1), (73, .iastore, 1), (74, .aload_n 0, 1), (75, .getfield 11, 3), (78, .iconst 3, 1), (79, .aload_n 2, 1), (80, .getfield 82, 3), (83, .iload 4, 2), (85, .iaload, 1), (86, .iastore, 1), (87, .aload_n 0, 1), (88, .getfield 11, 3), (91, .iconst 4, 1), (92, .aload_n 2, 1), (93, .iload 4, 2), (95, .invokevirtual 85, 3), (98, .iastore, 1), (99, .aload_n 0, 1), (100, .getfield 11, 3), (103, .iconst 5, 1), (104, .aload_n 0, 1), (105, .getfield 17, 3), (108, .iload 4, 2), (110, .iaload, 1), (111, .iastore, 1), (112, .aload_n 0, 1), (113, .getfield 11, 3), (116, .bipush 6, 2), (118, .aload_n 2, 1), (119, .iload 4, 2), (121, .invokevirtual 88, 3), (124, .ifCond .eq 7, 3), (127, .iconst 1, 1), (128, .goto 4, 3), (131, .iconst 0, 1), (132, .iastore, 1), (133, .aload_n 0, 1), (134, .getfield 23, 3), (137, .aload_n 2, 1), (138, .getfield 72, 3), (141, .iload 4, 2), (143, .iaload, 1), (144, .aload_n 0, 1), (145, .getfield 11, 3), (148, .invokevirtual 91, 3), (151, .istore 5, 2), (153, .iload 5, 2), (155, .ifCond .le 12, 3), (158, .aload_n 2, 1), (159, .iload 4, 2), (161, .invokevirtual 57, 3), (164, .goto 14, 3), (167, .iload 5, 2), (169, .ifCond .ge 9, 3), (172, .aload_n 2, 1), (173, .iload 4, 2), (175, .invokevirtual 95, 3), (178, .iinc 4 1, 3), (181, .goto (-178), 3), (184, .return_, 1)]
set_option maxRecDepth 100000 in
theorem dX4_askRules : mj_pd cX4_askRules pX4_askRules := mj_pdB (by decide +kernel)
theorem fX4_askRules : mj_mf mX4_askRules := ⟨mj_t3 219 (by decide +kernel) rfl, mj_t1 8 (by decide +kernel) rfl, by decide, by decide, by decide⟩
theorem iX4_askRules : Cond.instanceMethod yX4_askRules ∈ mj_GW := mj_t3 218 (by decide +kernel) rfl
theorem vX4_askRules : Cond.selects (mj_own.getD 4 "") yX4_askRules yX4_askRules ∈ mj_GW := mj_p2 6 (by decide +kernel) rfl
def mX4_drawGusts : mj_m := (4, false, cX4_drawGusts, 5, none, yX4_drawGusts)
def pX4_drawGusts : List (Nat × Instr × Nat) := [(0, .iconst 0, 1), (1, .istore 4, 2), (3, .iload 4, 2), (5, .aload_n 1, 1), (6, .getfield 61, 3), (9, .if_icmp .ge 45, 3), (12, .aload_n 2, 1), (13, .bipush 100, 2), (15, .invokevirtual 98, 3), (18, .iload_n 3, 1), (19, .if_icmp .lt 6, 3), (22, .goto 26, 3), (25, .aload_n 2, 1), (26, .iconst 2, 1), (27, .invokevirtual 98, 3), (30, .ifCond .ne 12, 3), (33, .aload_n 1, 1), (34, .iload 4, 2), (36, .invokevirtual 95, 3), (39, .goto 9, 3), (42, .aload_n 1, 1), (43, .iload 4, 2), (45, .invokevirtual 57, 3), (48, .iinc 4 1, 3), (51, .goto (-48), 3), (54, .return_, 1)]
set_option maxRecDepth 100000 in
theorem dX4_drawGusts : mj_pd cX4_drawGusts pX4_drawGusts := mj_pdB (by decide +kernel)
theorem fX4_drawGusts : mj_mf mX4_drawGusts := ⟨mj_t4 57 (by decide +kernel) rfl, mj_t1 8 (by decide +kernel) rfl, by decide, by decide, by decide⟩
theorem iX4_drawGusts : Cond.instanceMethod yX4_drawGusts ∈ mj_GW := mj_t4 56 (by decide +kernel) rfl
theorem vX4_drawGusts : Cond.selects (mj_own.getD 4 "") yX4_drawGusts yX4_drawGusts ∈ mj_GW := mj_p2 9 (by decide +kernel) rfl
def mX4_moveAll : mj_m := (4, false, cX4_moveAll, 4, none, yX4_moveAll)
def pX4_moveAll : List (Nat × Instr × Nat) := [(0, .iconst 0, 1), (1, .istore_n 3, 1), (2, .iload_n 3, 1), (3, .aload_n 2, 1), (4, .getfield 61, 3), (7, .if_icmp .ge 20, 3), (10, .aload_n 0, 1), (11, .aload_n 2, 1), (12, .aload_n 0, 1), (13, .getfield 20, 3), (16, .iload_n 3, 1), (17, .iaload, 1), (18, .invokevirtual 103, 3), (21, .iinc 3 1, 3), (24, .goto (-22), 3), (27, .aload_n 2, 1), (28, .dup, 1), (29, .getfield 107, 3), (32, .iconst 1, 1), (33, .iadd, 1), (34, .putfield 107, 3), (37, .aload_n 1, 1), (38, .getfield 110, 3), (41, .iconst 3, 1), (42, .iaload, 1), (43, .aload_n 2, 1), (44, .getfield 107, 3), (47, .invokestatic 113, 3), (50, .ifCond .eq 29, 3), (53, .iconst 0, 1), (54, .istore_n 3, 1), (55, .iload_n 3, 1), (56, .aload_n 2, 1), (57, .getfield 61, 3), (60, .if_icmp .ge 19, 3), (63, .aload_n 2, 1), (64, .getfield 69, 3), (67, .iload_n 3, 1), (68, .dup2, 1), (69, .iaload, 1), (70, .iconst 1, 1), (71, .isub, 1), (72, .iastore, 1), (73, .iinc 3 1, 3), (76, .goto (-21), 3), (79, .aload_n 1, 1), (80, .getfield 110, 3), (83, .iconst 4, 1), (84, .iaload, 1), (85, .aload_n 2, 1), (86, .getfield 107, 3), (89, .invokestatic 113, 3), (92, .ifCond .eq 8, 3), (95, .aload_n 1, 1), (96, .aload_n 2, 1), (97, .invokestatic 117, 3), (100, .aload_n 1, 1), (101, .aload_n 2, 1), (102, .invokevirtual 43, 3), (105, .bipush 9, 2), (107, .if_icmp .gt 7, 3), (110, .aload_n 2, 1), (111, .invokestatic 120, 3), (114, .return_, 1)]
set_option maxRecDepth 100000 in
theorem dX4_moveAll : mj_pd cX4_moveAll pX4_moveAll := mj_pdB (by decide +kernel)
theorem fX4_moveAll : mj_mf mX4_moveAll := ⟨mj_t4 27 (by decide +kernel) rfl, mj_t1 8 (by decide +kernel) rfl, by decide, by decide, by decide⟩
theorem iX4_moveAll : Cond.instanceMethod yX4_moveAll ∈ mj_GW := mj_t4 26 (by decide +kernel) rfl
theorem vX4_moveAll : Cond.selects (mj_own.getD 4 "") yX4_moveAll yX4_moveAll ∈ mj_GW := mj_p2 7 (by decide +kernel) rfl
def mX4_comesNow : mj_m := (4, false, cX4_comesNow, 2, some .boolean, yX4_comesNow)
def pX4_comesNow : List (Nat × Instr × Nat) := [(0, .iload_n 0, 1), (1, .ifCond .le 13, 3), (4, .iload_n 1, 1), (5, .iload_n 0, 1), (6, .irem, 1), (7, .ifCond .ne 7, 3), (10, .iconst 1, 1), (11, .goto 4, 3), (14, .iconst 0, 1), (15, .ireturn, 1)]
set_option maxRecDepth 100000 in
theorem dX4_comesNow : mj_pd cX4_comesNow pX4_comesNow := mj_pdB (by decide +kernel)
theorem fX4_comesNow : mj_mf mX4_comesNow := ⟨mj_t4 35 (by decide +kernel) rfl, mj_t1 8 (by decide +kernel) rfl, by decide, by decide, by decide⟩
theorem sX4_comesNow : Cond.static yX4_comesNow ∈ mj_GW := mj_t4 34 (by decide +kernel) rfl
def mX4_sail : mj_m := (4, false, cX4_sail, 5, none, yX4_sail)
def pX4_sail : List (Nat × Instr × Nat) := [(0, .aload_n 1, 1), (1, .getfield 52, 3), (4, .iload_n 2, 1), (5, .iaload, 1), (6, .aload_n 0, 1), (7, .getfield 17, 3), (10, .iload_n 2, 1), (11, .iaload, 1), (12, .isub, 1), (13, .istore_n 3, 1), (14, .iconst 0, 1), (15, .istore 4, 2), (17, .iload 4, 2), (19, .iload_n 3, 1), (20, .if_icmp .ge 48, 3), (23, .aload_n 1, 1), (24, .aload_n 1, 1), (25, .getfield 82, 3), (28, .iload_n 2, 1), (29, .iaload, 1), (30, .aload_n 1, 1), (31, .getfield 69, 3), (34, .iload_n 2, 1), (35, .iaload, 1), (36, .iconst 1, 1), (37, .isub, 1), (38, .invokevirtual 123, 3), (41, .ifCond .eq 11, 3), (44, .aload_n 1, 1), (45, .getfield 52, 3), (48, .iload_n 2, 1), (49, .iconst 0, 1), (50, .iastore, 1), (51, .return_, 1), (52, .aload_n 1, 1), (53, .getfield 69, 3), (56, .iload_n 2, 1), (57, .dup2, 1), (58, .iaload, 1), (59, .iconst 1, 1), (60, .isub, 1), (61, .iastore, 1), (62, .iinc 4 1, 3), (65, .goto (-48), 3), (68, .return_, 1)]
set_option maxRecDepth 100000 in
theorem dX4_sail : mj_pd cX4_sail pX4_sail := mj_pdB (by decide +kernel)
theorem fX4_sail : mj_mf mX4_sail := ⟨mj_t4 31 (by decide +kernel) rfl, mj_t1 8 (by decide +kernel) rfl, by decide, by decide, by decide⟩
theorem iX4_sail : Cond.instanceMethod yX4_sail ∈ mj_GW := mj_t4 30 (by decide +kernel) rfl
theorem vX4_sail : Cond.selects (mj_own.getD 4 "") yX4_sail yX4_sail ∈ mj_GW := mj_p2 8 (by decide +kernel) rfl
def mX4_driftAll : mj_m := (4, false, cX4_driftAll, 4, none, yX4_driftAll)
def pX4_driftAll : List (Nat × Instr × Nat) := [(0, .aload_n 0, 1), (1, .getfield 110, 3), (4, .iconst 0, 1), (5, .iaload, 1), (6, .iconst 2, 1), (7, .isub, 1), (8, .istore_n 2, 1), (9, .iload_n 2, 1), (10, .ifCond .lt 60, 3), (13, .iconst 0, 1), (14, .istore_n 3, 1), (15, .iload_n 3, 1), (16, .aload_n 1, 1), (17, .getfield 61, 3), (20, .if_icmp .ge 44, 3), (23, .aload_n 1, 1), (24, .getfield 82, 3), (27, .iload_n 3, 1), (28, .iaload, 1), (29, .iload_n 2, 1), (30, .if_icmp .ne 28, 3), (33, .aload_n 1, 1), (34, .iload_n 2, 1), (35, .iconst 1, 1), (36, .iadd, 1), (37, .aload_n 1, 1), (38, .getfield 69, 3), (41, .iload_n 3, 1), (42, .iaload, 1), (43, .invokevirtual 123, 3), (46, .ifCond .ne 12, 3), (49, .aload_n 1, 1), (50, .getfield 82, 3), (53, .iload_n 3, 1), (54, .iload_n 2, 1), (55, .iconst 1, 1), (56, .iadd, 1), (57, .iastore, 1), (58, .iinc 3 1, 3), (61, .goto (-46), 3), (64, .iinc 2 (-1), 3), (67, .goto (-58), 3), (70, .return_, 1)]
set_option maxRecDepth 100000 in
theorem dX4_driftAll : mj_pd cX4_driftAll pX4_driftAll := mj_pdB (by decide +kernel)
theorem fX4_driftAll : mj_mf mX4_driftAll := ⟨mj_t4 38 (by decide +kernel) rfl, mj_t1 8 (by decide +kernel) rfl, by decide, by decide, by decide⟩
theorem sX4_driftAll : Cond.static yX4_driftAll ∈ mj_GW := mj_t4 37 (by decide +kernel) rfl
def mX4_noteEarly : mj_m := (4, false, cX4_noteEarly, 2, none, yX4_noteEarly)
def pX4_noteEarly : List (Nat × Instr × Nat) := [(0, .iconst 0, 1), (1, .istore_n 1, 1), (2, .iload_n 1, 1), (3, .aload_n 0, 1), (4, .getfield 61, 3), (7, .if_icmp .ge 25, 3), (10, .aload_n 0, 1), (11, .getfield 69, 3), (14, .iload_n 1, 1), (15, .iaload, 1), (16, .ifCond .ge 10, 3), (19, .aload_n 0, 1), (20, .getfield 126, 3), (23, .iload_n 1, 1), (24, .iconst 1, 1), (25, .iastore, 1), (26, .iinc 1 1, 3), (29, .goto (-27), 3), (32, .return_, 1)]
set_option maxRecDepth 100000 in
theorem dX4_noteEarly : mj_pd cX4_noteEarly pX4_noteEarly := mj_pdB (by decide +kernel)
theorem fX4_noteEarly : mj_mf mX4_noteEarly := ⟨mj_t4 41 (by decide +kernel) rfl, mj_t1 8 (by decide +kernel) rfl, by decide, by decide, by decide⟩
theorem sX4_noteEarly : Cond.static yX4_noteEarly ∈ mj_GW := mj_t4 40 (by decide +kernel) rfl
def mX5_forget : mj_m := (5, false, cX5_forget, 2, none, yX5_forget)
def pX5_forget : List (Nat × Instr × Nat) := [(0, .aload_n 0, 1), (1, .iconst 0, 1), (2, .putfield 24, 3), (5, .aload_n 0, 1), (6, .iconst 0, 1), (7, .putfield 28, 3), (10, .iconst 0, 1), (11, .istore_n 1, 1), (12, .iload_n 1, 1), (13, .bipush 8, 2), (15, .if_icmp .ge 39, 3), (18, .aload_n 0, 1), (19, .getfield 9, 3), (22, .iload_n 1, 1), (23, .iconst 0, 1), (24, .iastore, 1), (25, .aload_n 0, 1), (26, .getfield 15, 3), (29, .iload_n 1, 1), (30, .bipush (-20), 2), (32, .iastore, 1), (33, .aload_n 0, 1), (34, .getfield 18, 3), (37, .iload_n 1, 1), (38, .bipush 20, 2), (40, .iastore, 1), (41, .aload_n 0, 1), (42, .getfield 21, 3), (45, .iload_n 1, 1), (46, .iconst 0, 1), (47, .iastore, 1), (48, .iinc 1 1, 3), (51, .goto (-39), 3), (54, .return_, 1)]
set_option maxRecDepth 100000 in
theorem dX5_forget : mj_pd cX5_forget pX5_forget := mj_pdB (by decide +kernel)
theorem fX5_forget : mj_mf mX5_forget := ⟨mj_t3 133 (by decide +kernel) rfl, mj_t1 12 (by decide +kernel) rfl, by decide, by decide, by decide⟩
theorem iX5_forget : Cond.instanceMethod yX5_forget ∈ mj_GW := mj_t3 131 (by decide +kernel) rfl
theorem vX5_forget : Cond.selects (mj_own.getD 5 "") yX5_forget yX5_forget ∈ mj_GW := mj_t3 132 (by decide +kernel) rfl
def mX5_canSee : mj_m := (5, false, cX5_canSee, 3, some .boolean, yX5_canSee)
def pX5_canSee : List (Nat × Instr × Nat) := [(0, .aload_n 0, 1), (1, .getfield 24, 3), (4, .bipush 12, 2), (6, .if_icmp .ge 24, 3), (9, .iload_n 1, 1), (10, .bipush (-20), 2), (12, .if_icmp .lt 18, 3), (15, .iload_n 2, 1), (16, .bipush 20, 2), (18, .if_icmp .gt 12, 3), (21, .iload_n 1, 1), (22, .iload_n 2, 1), (23, .if_icmp .gt 7, 3), (26, .iconst 1, 1), (27, .goto 4, 3), (30, .iconst 0, 1), (31, .ireturn, 1)]
set_option maxRecDepth 100000 in
theorem dX5_canSee : mj_pd cX5_canSee pX5_canSee := mj_pdB (by decide +kernel)
theorem fX5_canSee : mj_mf mX5_canSee := ⟨mj_t5 11 (by decide +kernel) rfl, mj_t1 12 (by decide +kernel) rfl, by decide, by decide, by decide⟩
theorem iX5_canSee : Cond.instanceMethod yX5_canSee ∈ mj_GW := mj_t5 9 (by decide +kernel) rfl
theorem vX5_canSee : Cond.selects (mj_own.getD 5 "") yX5_canSee yX5_canSee ∈ mj_GW := mj_t5 10 (by decide +kernel) rfl
def mX5_addPicture : mj_m := (5, false, cX5_addPicture, 4, some .int, yX5_addPicture)
def pX5_addPicture : List (Nat × Instr × Nat) := [(0, .aload_n 0, 1), (1, .getfield 9, 3), (4, .iload_n 1, 1), (5, .dup2, 1), (6, .iaload, 1), (7, .iconst 1, 1), (8, .iadd, 1), (9, .iastore, 1), (10, .aload_n 0, 1), (11, .getfield 15, 3), (14, .iload_n 1, 1), (15, .iload_n 2, 1), (16, .aload_n 0, 1), (17, .getfield 15, 3), (20, .iload_n 1, 1), (21, .iaload, 1), (22, .if_icmp .le 7, 3), (25, .iload_n 2, 1), (26, .goto 9, 3), (29, .aload_n 0, 1), (30, .getfield 15, 3), (33, .iload_n 1, 1), (34, .iaload, 1), (35, .iastore, 1), (36, .aload_n 0, 1), (37, .getfield 18, 3), (40, .iload_n 1, 1), (41, .iload_n 3, 1), (42, .aload_n 0, 1), (43, .getfield 18, 3), (46, .iload_n 1, 1), (47, .iaload, 1), (48, .if_icmp .ge 7, 3), (51, .iload_n 3, 1), (52, .goto 9, 3), (55, .aload_n 0, 1), (56, .getfield 18, 3), (59, .iload_n 1, 1), (60, .iaload, 1), (61, .iastore, 1), (62, .aload_n 0, 1), (63, .dup, 1), (64, .getfield 24, 3), (67, .iconst 1, 1), (68, .iadd, 1), (69, .putfield 24, 3), (72, .aload_n 0, 1), (73, .getfield 24, 3), (76, .ireturn, 1)]
set_option maxRecDepth 100000 in
theorem dX5_addPicture : mj_pd cX5_addPicture pX5_addPicture := mj_pdB (by decide +kernel)
theorem fX5_addPicture : mj_mf mX5_addPicture := ⟨mj_t5 15 (by decide +kernel) rfl, mj_t1 12 (by decide +kernel) rfl, by decide, by decide, by decide⟩
theorem iX5_addPicture : Cond.instanceMethod yX5_addPicture ∈ mj_GW := mj_t5 13 (by decide +kernel) rfl
theorem vX5_addPicture : Cond.selects (mj_own.getD 5 "") yX5_addPicture yX5_addPicture ∈ mj_GW := mj_t5 14 (by decide +kernel) rfl
def mX5_isSeen : mj_m := (5, false, cX5_isSeen, 4, some .boolean, yX5_isSeen)
def pX5_isSeen : List (Nat × Instr × Nat) := [(0, .aload_n 0, 1), (1, .getfield 15, 3), (4, .iload_n 1, 1), (5, .iaload, 1), (6, .aload_n 0, 1), (7, .getfield 18, 3), (10, .iload_n 1, 1), (11, .iaload, 1), (12, .if_icmp .gt 7, 3), (15, .iconst 1, 1), (16, .goto 4, 3), (19, .iconst 0, 1), (20, .istore_n 3, 1), (21, .iload_n 2, 1), (22, .lookupswitch 82 #[(0, 26), (1, 54)], 26), (48, .aload_n 0, 1), (49, .getfield 9, 3), (52, .iload_n 1, 1), (53, .iaload, 1), (54, .ifCond .le 20, 3), (57, .iload_n 3, 1), (58, .ifCond .eq 16, 3), (61, .aload_n 0, 1), (62, .getfield 15, 3), (65, .iload_n 1, 1), (66, .iaload, 1), (67, .ifCond .ge 7, 3), (70, .iconst 1, 1), (71, .goto 4, 3), (74, .iconst 0, 1), (75, .ireturn, 1), (76, .aload_n 0, 1), (77, .getfield 9, 3), (80, .iload_n 1, 1), (81, .iaload, 1), (82, .ifCond .le 20, 3), (85, .iload_n 3, 1), (86, .ifCond .eq 16, 3), (89, .aload_n 0, 1), (90, .getfield 18, 3), (93, .iload_n 1, 1), (94, .iaload, 1), (95, .ifCond .ge 7, 3), (98, .iconst 1, 1), (99, .goto 4, 3), (102, .iconst 0, 1), (103, .ireturn, 1), (104, .iload_n 3, 1), (105, .ifCond .ne 7, 3), (108, .iconst 1, 1), (109, .goto 4, 3), (112, .iconst 0, 1), (113, .ireturn, 1)]
set_option maxRecDepth 100000 in
theorem dX5_isSeen : mj_pd cX5_isSeen pX5_isSeen := mj_pdB (by decide +kernel)
theorem fX5_isSeen : mj_mf mX5_isSeen := ⟨mj_t5 23 (by decide +kernel) rfl, mj_t1 12 (by decide +kernel) rfl, by decide, by decide, by decide⟩
theorem iX5_isSeen : Cond.instanceMethod yX5_isSeen ∈ mj_GW := mj_t5 21 (by decide +kernel) rfl
theorem vX5_isSeen : Cond.selects (mj_own.getD 5 "") yX5_isSeen yX5_isSeen ∈ mj_GW := mj_t5 22 (by decide +kernel) rfl
def mX5_addRace : mj_m := (5, false, cX5_addRace, 4, some .int, yX5_addRace)
def pX5_addRace : List (Nat × Instr × Nat) := [(0, .iconst 0, 1), (1, .istore_n 3, 1), (2, .iload_n 3, 1), (3, .aload_n 2, 1), (4, .getfield 31, 3), (7, .if_icmp .ge 24, 3), (10, .aload_n 0, 1), (11, .getfield 21, 3), (14, .iload_n 3, 1), (15, .dup2, 1), (16, .iaload, 1), (17, .aload_n 1, 1), (18, .aload_n 2, 1), (19, .iload_n 3, 1), (20, .invokevirtual 36, 3), (23, .iadd, 1), (24, .iastore, 1), (25, .iinc 3 1, 3), (28, .goto (-26), 3), (31, .aload_n 0, 1), (32, .dup, 1), (33, .getfield 28, 3), (36, .iconst 1, 1), (37, .iadd, 1), (38, .putfield 28, 3), (41, .aload_n 0, 1), (42, .getfield 28, 3), (45, .ireturn, 1)]
set_option maxRecDepth 100000 in
theorem dX5_addRace : mj_pd cX5_addRace pX5_addRace := mj_pdB (by decide +kernel)
theorem fX5_addRace : mj_mf mX5_addRace := ⟨mj_t5 31 (by decide +kernel) rfl, mj_t1 12 (by decide +kernel) rfl, by decide, by decide, by decide⟩
theorem iX5_addRace : Cond.instanceMethod yX5_addRace ∈ mj_GW := mj_t5 29 (by decide +kernel) rfl
theorem vX5_addRace : Cond.selects (mj_own.getD 5 "") yX5_addRace yX5_addRace ∈ mj_GW := mj_t5 30 (by decide +kernel) rfl
def mX6_has : mj_m := (6, false, cX6_has, 2, some .boolean, yX6_has)
def pX6_has : List (Nat × Instr × Nat) := [(0, .iload_n 1, 1), (1, .ifCond .lt 15, 3), (4, .iload_n 1, 1), (5, .aload_n 0, 1), (6, .getfield 25, 3), (9, .if_icmp .ge 7, 3), (12, .iconst 1, 1), (13, .goto 4, 3), (16, .iconst 0, 1), (17, .ireturn, 1)]
set_option maxRecDepth 100000 in
theorem dX6_has : mj_pd cX6_has pX6_has := mj_pdB (by decide +kernel)
theorem fX6_has : mj_mf mX6_has := ⟨mj_t3 223 (by decide +kernel) rfl, mj_t1 3 (by decide +kernel) rfl, by decide, by decide, by decide⟩
theorem iX6_has : Cond.instanceMethod yX6_has ∈ mj_GW := mj_t3 221 (by decide +kernel) rfl
theorem vX6_has : Cond.selects (mj_own.getD 6 "") yX6_has yX6_has ∈ mj_GW := mj_t3 222 (by decide +kernel) rfl
def mX6_add : mj_m := (6, false, cX6_add, 3, some .int, yX6_add)
def pX6_add : List (Nat × Instr × Nat) := [(0, .aload_n 0, 1), (1, .getfield 25, 3), (4, .iconst 4, 1), (5, .if_icmp .ge 16, 3), (8, .iload_n 2, 1), (9, .sipush 240, 3), (12, .if_icmp .gt 9, 3), (15, .iload_n 2, 1), (16, .aload_n 1, 1), (17, .arraylength, 1), (18, .if_icmp .le 5, 3), (21, .iconst (-1), 1), (22, .ireturn, 1), (23, .aload_n 1, 1), (24, .iconst 0, 1), (25, .aload_n 0, 1), (26, .getfield 15, 3), (29, .aload_n 0, 1), (30, .getfield 25, 3), (33, .aaload, 1), (34, .iconst 0, 1), (35, .iload_n 2, 1), (36, .invokestatic 29, 3), (39, .aload_n 0, 1), (40, .getfield 18, 3), (43, .aload_n 0, 1), (44, .getfield 25, 3), (47, .iload_n 2, 1), (48, .iastore, 1), (49, .aload_n 0, 1), (50, .dup, 1), (51, .getfield 25, 3), (54, .iconst 1, 1), (55, .iadd, 1), (56, .putfield 25, 3), (59, .aload_n 0, 1), (60, .getfield 25, 3), (63, .iconst 1, 1), (64, .isub, 1), (65, .ireturn, 1)]
set_option maxRecDepth 100000 in
theorem dX6_add : mj_pd cX6_add pX6_add := mj_pdB (by decide +kernel)
theorem fX6_add : mj_mf mX6_add := ⟨mj_t3 141 (by decide +kernel) rfl, mj_t1 3 (by decide +kernel) rfl, by decide, by decide, by decide⟩
theorem iX6_add : Cond.instanceMethod yX6_add ∈ mj_GW := mj_t3 139 (by decide +kernel) rfl
theorem vX6_add : Cond.selects (mj_own.getD 6 "") yX6_add yX6_add ∈ mj_GW := mj_t3 140 (by decide +kernel) rfl
def mX6_worthOf : mj_m := (6, false, cX6_worthOf, 8, some .int, yX6_worthOf)
def pX6_worthOf : List (Nat × Instr × Nat) := [(0, .aload_n 0, 1), (1, .iload_n 1, 1), (2, .invokevirtual 35, 3), (5, .ifCond .ne 5, 3), (8, .iconst 0, 1), (9, .ireturn, 1), (10, .aload_n 0, 1), (11, .getfield 15, 3), (14, .iload_n 1, 1), (15, .aaload, 1), (16, .astore_n 3, 1), (17, .aload_n 0, 1), (18, .getfield 18, 3), (21, .iload_n 1, 1), (22, .iaload, 1), (23, .istore 4, 2), (25, .iconst 0, 1), (26, .istore 5, 2), (28, .iconst 0, 1), (29, .istore 6, 2), (31, .iload 6, 2), (33, .iload 4, 2), (35, .if_icmp .ge 222, 3), (38, .aload_n 3, 1), (39, .iload 6, 2), (41, .iaload, 1), (42, .istore 7, 2), (44, .iload 7, 2), (46, .sipush 20000, 3), (49, .if_icmp .ge 48, 3), (52, .iload 5, 2), (54, .bipush 64, 2), (56, .if_icmp .lt 5, 3), (59, .iconst 0, 1), (60, .ireturn, 1), (61, .aload_n 0, 1), (62, .getfield 22, 3), (65, .iload 5, 2), (67, .iload 7, 2), (69, .sipush 10000, 3), (72, .if_icmp .ge 8, 3), (75, .iload 7, 2), (77, .goto 13, 3), (80, .aload_n 2, 1), (81, .iload 7, 2), (83, .sipush 10000, 3), (86, .isub, 1), (87, .invokestatic 39, 3), (90, .iastore, 1), (91, .iinc 5 1, 3), (94, .goto 157, 3), (97, .iload 5, 2), (99, .iconst 1, 1), (100, .if_icmp .lt 11, 3), (103, .iload 7, 2), (105, .sipush 20010, 3), (108, .if_icmp .ne 23, 3), (111, .iload 5, 2), (113, .iconst 1, 1), (114, .if_icmp .ge 7, 3), (117, .iconst 0, 1), (118, .goto 12, 3), (121, .aload_n 0, 1), (122, .getfield 22, 3), (125, .iload 5, 2), (127, .iconst 1, 1), (128, .isub, 1), (129, .iaload, 1), (130, .ireturn, 1), (131, .iload 7, 2), (133, .sipush 20009, 3), (136, .if_icmp .ne 26, 3), (139, .aload_n 0, 1), (140, .getfield 22, 3), (143, .iload 5, 2), (145, .iconst 1, 1), (146, .isub, 1), (147, .iconst 1, 1), (148, .aload_n 0, 1), (149, .getfield 22, 3), (152, .iload 5, 2), (154, .iconst 1, 1), (155, .isub, 1), (156, .iaload, 1), (157, .isub, 1), (158, .iastore, 1), (159, .goto 92, 3), (162, .iload 7, 2), (164, .sipush 30000, 3), (167, .if_icmp .lt 40, 3), (170, .iinc 5 (-1), 3), (173, .aload_n 0, 1), (174, .getfield 22, 3), (177, .iload 5, 2), (179, .iaload, 1), (180, .ifCond .ne 71, 3), (183, .iload 7, 2), (185, .sipush 30000, 3), (188, .isub, 1), (189, .iload 6, 2), (191, .if_icmp .le 60, 3), (194, .iload 7, 2), (196, .sipush 30000, 3), (199, .isub, 1), (200, .iconst 1, 1), (201, .isub, 1), (202, .istore 6, 2), (204, .goto 47, 3), (207, .iload 5, 2), (209, .iconst 2, 1), (210, .if_icmp .ge 5, 3), (213, .iconst 0, 1), (214, .ireturn, 1), (215, .iinc 5 (-1), 3), (218, .aload_n 0, 1), (219, .getfield 22, 3), (222, .iload 5, 2), (224, .iconst 1, 1), (225, .isub, 1), (226, .iload 7, 2), (228, .aload_n 0, 1), (229, .getfield 22, 3), (232, .iload 5, 2), (234, .iconst 1, 1), (235, .isub, 1), (236, .iaload, 1), (237, .aload_n 0, 1), (238, .getfield 22, 3), (241, .iload 5, 2), (243, .iaload, 1), (244, .invokestatic 43, 3), (247, .invokestatic 47, 3), (250, .iastore, 1), (251, .iinc 6 1, 3), (254, .goto (-223), 3), (257, .iconst 0, 1), (258, .ireturn, 1)]
set_option maxRecDepth 100000 in
theorem dX6_worthOf : mj_pd cX6_worthOf pX6_worthOf := mj_pdB (by decide +kernel)
theorem fX6_worthOf : mj_mf mX6_worthOf := ⟨mj_t4 1 (by decide +kernel) rfl, mj_t1 3 (by decide +kernel) rfl, by decide, by decide, by decide⟩
theorem iX6_worthOf : Cond.instanceMethod yX6_worthOf ∈ mj_GW := mj_t3 239 (by decide +kernel) rfl
theorem vX6_worthOf : Cond.selects (mj_own.getD 6 "") yX6_worthOf yX6_worthOf ∈ mj_GW := mj_t4 0 (by decide +kernel) rfl
def mX6_letterAt : mj_m := (6, false, cX6_letterAt, 2, some .int, yX6_letterAt)
def pX6_letterAt : List (Nat × Instr × Nat) := [(0, .iload_n 1, 1), (1, .ifCond .lt 15, 3), (4, .iload_n 1, 1), (5, .aload_n 0, 1), (6, .arraylength, 1), (7, .if_icmp .ge 9, 3), (10, .aload_n 0, 1), (11, .iload_n 1, 1), (12, .iaload, 1), (13, .goto 4, 3), (16, .iconst 0, 1), (17, .ireturn, 1)]
set_option maxRecDepth 100000 in
theorem dX6_letterAt : mj_pd cX6_letterAt pX6_letterAt := mj_pdB (by decide +kernel)
theorem fX6_letterAt : mj_mf mX6_letterAt := ⟨mj_t4 5 (by decide +kernel) rfl, mj_t1 3 (by decide +kernel) rfl, by decide, by decide, by decide⟩
theorem sX6_letterAt : Cond.static yX6_letterAt ∈ mj_GW := mj_t4 4 (by decide +kernel) rfl
def mX6_join : mj_m := (6, false, cX6_join, 3, some .long, yX6_join)
def pX6_join : List (Nat × Instr × Nat) := [(0, .iload_n 0, 1), (1, .tableswitch 116 20000 20007 #[47, 53, 59, 65, 78, 89, 100, 111], 47), (48, .iload_n 1, 1), (49, .i2l, 1), (50, .iload_n 2, 1), (51, .i2l, 1), (52, .ladd, 1), (53, .lreturn, 1), (54, .iload_n 1, 1), (55, .i2l, 1), (56, .iload_n 2, 1), (57, .i2l, 1), (58, .lsub, 1), (59, .lreturn, 1), (60, .iload_n 1, 1), (61, .i2l, 1), (62, .iload_n 2, 1), (63, .i2l, 1), (64, .lmul, 1), (65, .lreturn, 1), (66, .iload_n 2, 1), (67, .ifCond .ne 7, 3), (70, .lconst 0, 1), (71, .goto 7, 3), (74, .iload_n 1, 1), (75, .iload_n 2, 1), (76, .idiv, 1), (77, .i2l, 1), (78, .lreturn, 1), (79, .iload_n 1, 1), (80, .iload_n 2, 1), (81, .if_icmp .ne 7, 3), (84, .lconst 1, 1), (85, .goto 4, 3), (88, .lconst 0, 1), (89, .lreturn, 1), (90, .iload_n 1, 1), (91, .iload_n 2, 1), (92, .if_icmp .ge 7, 3), (95, .lconst 1, 1), (96, .goto 4, 3), (99, .lconst 0, 1), (100, .lreturn, 1), (101, .iload_n 1, 1), (102, .iload_n 2, 1), (103, .if_icmp .le 7, 3), (106, .lconst 1, 1), (107, .goto 4, 3), (110, .lconst 0, 1), (111, .lreturn, 1), (112, .iload_n 1, 1), (113, .iload_n 2, 1), (114, .iand, 1), (115, .i2l, 1), (116, .lreturn, 1), (117, .iload_n 1, 1), (118, .iload_n 2, 1), (119, .ior, 1), (120, .i2l, 1), (121, .lreturn, 1)]
set_option maxRecDepth 100000 in
theorem dX6_join : mj_pd cX6_join pX6_join := mj_pdB (by decide +kernel)
theorem fX6_join : mj_mf mX6_join := ⟨mj_t4 8 (by decide +kernel) rfl, mj_t1 3 (by decide +kernel) rfl, by decide, by decide, by decide⟩
theorem sX6_join : Cond.static yX6_join ∈ mj_GW := mj_t4 7 (by decide +kernel) rfl
def mX6_bounded : mj_m := (6, false, cX6_bounded, 2, some .int, yX6_bounded)
def pX6_bounded : List (Nat × Instr × Nat) := [(0, .lload_n 0, 1), (1, .ldc2_w 51, 3), (4, .lcmp, 1), (5, .ifCond .le 6, 3), (8, .ldc 53, 2), (10, .ireturn, 1), (11, .lload_n 0, 1), (12, .ldc2_w 54, 3), (15, .lcmp, 1), (16, .ifCond .ge 8, 3), (19, .ldc 56, 2), (21, .goto 5, 3), (24, .lload_n 0, 1), (25, .l2i, 1), (26, .ireturn, 1)]
set_option maxRecDepth 100000 in
theorem dX6_bounded : mj_pd cX6_bounded pX6_bounded := mj_pdB (by decide +kernel)
theorem fX6_bounded : mj_mf mX6_bounded := ⟨mj_t4 11 (by decide +kernel) rfl, mj_t1 3 (by decide +kernel) rfl, by decide, by decide, by decide⟩
theorem sX6_bounded : Cond.static yX6_bounded ∈ mj_GW := mj_t4 10 (by decide +kernel) rfl
def mX7_findFault : mj_m := (7, false, cX7_findFault, 2, some .int, yX7_findFault)
def pX7_findFault : List (Nat × Instr × Nat) := [(0, .aload_n 0, 1), (1, .getfield 17, 3), (4, .invokevirtual 21, 3), (7, .aload_n 0, 1), (8, .iconst 0, 1), (9, .putfield 26, 3), (12, .iconst 0, 1), (13, .istore_n 1, 1), (14, .iload_n 1, 1), (15, .sipush 240, 3), (18, .if_icmp .ge 39, 3), (21, .aload_n 0, 1), (22, .invokevirtual 30, 3), (25, .ifCond .ne 11, 3), (28, .aload_n 0, 1), (29, .getfield 17, 3), (32, .getfield 34, 3), (35, .ireturn, 1), (36, .aload_n 0, 1), (37, .getfield 17, 3), (40, .bipush 59, 2), (42, .invokevirtual 37, 3), (45, .ifCond .ne 6, 3), (48, .goto 9, 3), (51, .iinc 1 1, 3), (54, .goto (-40), 3), (57, .aload_n 0, 1), (58, .getfield 17, 3), (61, .invokevirtual 41, 3), (64, .iconst (-1), 1), (65, .if_icmp .ne 7, 3), (68, .iconst (-1), 1), (69, .goto 10, 3), (72, .aload_n 0, 1), (73, .getfield 17, 3), (76, .getfield 34, 3), (79, .ireturn, 1)]
set_option maxRecDepth 100000 in
theorem dX7_findFault : mj_pd cX7_findFault pX7_findFault := mj_pdB (by decide +kernel)
theorem fX7_findFault : mj_mf mX7_findFault := ⟨mj_t3 62 (by decide +kernel) rfl, mj_t1 7 (by decide +kernel) rfl, by decide, by decide, by decide⟩
theorem iX7_findFault : Cond.instanceMethod yX7_findFault ∈ mj_GW := mj_t3 60 (by decide +kernel) rfl
theorem vX7_findFault : Cond.selects (mj_own.getD 7 "") yX7_findFault yX7_findFault ∈ mj_GW := mj_t3 61 (by decide +kernel) rfl
def mX7_readClause : mj_m := (7, false, cX7_readClause, 2, some .boolean, yX7_readClause)
def pX7_readClause : List (Nat × Instr × Nat) := [(0, .aload_n 0, 1), (1, .getfield 17, 3), (4, .bipush 121, 2), (6, .invokevirtual 37, 3), (9, .ifCond .eq 15, 3), (12, .aload_n 0, 1), (13, .getfield 17, 3), (16, .bipush 58, 2), (18, .invokevirtual 37, 3), (21, .ifCond .ne 5, 3), (24, .iconst 0, 1), (25, .ireturn, 1), (26, .aload_n 0, 1), (27, .getfield 17, 3), (30, .invokevirtual 41, 3), (33, .istore_n 1, 1), (34, .iload_n 1, 1), (35, .bipush 33, 2), (37, .if_icmp .eq 9, 3), (40, .iload_n 1, 1), (41, .bipush 40, 2), (43, .if_icmp .ne 25, 3), (46, .aload_n 0, 1), (47, .iconst 0, 1), (48, .iconst 0, 1), (49, .invokevirtual 45, 3), (52, .ifCond .eq 14, 3), (55, .aload_n 0, 1), (56, .invokevirtual 49, 3), (59, .ifCond .eq 7, 3), (62, .iconst 1, 1), (63, .goto 4, 3), (66, .iconst 0, 1), (67, .ireturn, 1), (68, .aload_n 0, 1), (69, .iconst 0, 1), (70, .invokevirtual 52, 3), (73, .ifCond .ne 5, 3), (76, .iconst 0, 1), (77, .ireturn, 1), (78, .aload_n 0, 1), (79, .getfield 17, 3), (82, .invokevirtual 41, 3), (85, .invokestatic 55, 3), (88, .iconst (-1), 1), (89, .if_icmp .eq 25, 3), (92, .aload_n 0, 1), (93, .iconst 0, 1), (94, .iconst 1, 1), (95, .invokevirtual 45, 3), (98, .ifCond .eq 14, 3), (101, .aload_n 0, 1), (102, .invokevirtual 49, 3), (105, .ifCond .eq 7, 3), (108, .iconst 1, 1), (109, .goto 4, 3), (112, .iconst 0, 1), (113, .ireturn, 1), (114, .aload_n 0, 1), (115, .sipush 20010, 3), (118, .invokevirtual 59, 3), (121, .iconst 1, 1), (122, .ireturn, 1)]
set_option maxRecDepth 100000 in
theorem dX7_readClause : mj_pd cX7_readClause pX7_readClause := mj_pdB (by decide +kernel)
theorem fX7_readClause : mj_mf mX7_readClause := ⟨mj_t3 67 (by decide +kernel) rfl, mj_t1 7 (by decide +kernel) rfl, by decide, by decide, by decide⟩
theorem iX7_readClause : Cond.instanceMethod yX7_readClause ∈ mj_GW := mj_t3 66 (by decide +kernel) rfl
theorem vX7_readClause : Cond.selects (mj_own.getD 7 "") yX7_readClause yX7_readClause ∈ mj_GW := mj_p1 6 (by decide +kernel) rfl
def mX7_readAnswer : mj_m := (7, false, cX7_readAnswer, 2, some .boolean, yX7_readAnswer)
def pX7_readAnswer : List (Nat × Instr × Nat) := [(0, .aload_n 0, 1), (1, .getfield 17, 3), (4, .bipush 63, 2), (6, .invokevirtual 37, 3), (9, .ifCond .ne 5, 3), (12, .iconst 0, 1), (13, .ireturn, 1), (14, .aload_n 0, 1), (15, .getfield 26, 3), (18, .istore_n 1, 1), (19, .aload_n 0, 1), (20, .sipush 30000, 3), (23, .invokevirtual 59, 3), (26, .aload_n 0, 1), (27, .iconst 0, 1), (28, .invokevirtual 52, 3), (31, .ifCond .ne 5, 3), (34, .iconst 0, 1), (35, .ireturn, 1), (36, .aload_n 0, 1), (37, .sipush 20010, 3), (40, .invokevirtual 59, 3), (43, .iload_n 1, 1), (44, .aload_n 0, 1), (45, .getfield 11, 3), (48, .arraylength, 1), (49, .if_icmp .ge 17, 3), (52, .aload_n 0, 1), (53, .getfield 11, 3), (56, .iload_n 1, 1), (57, .sipush 30000, 3), (60, .aload_n 0, 1), (61, .getfield 26, 3), (64, .iadd, 1), (65, .iastore, 1), (66, .iconst 1, 1), (67, .ireturn, 1)]
set_option maxRecDepth 100000 in
theorem dX7_readAnswer : mj_pd cX7_readAnswer pX7_readAnswer := mj_pdB (by decide +kernel)
theorem fX7_readAnswer : mj_mf mX7_readAnswer := ⟨mj_t3 107 (by decide +kernel) rfl, mj_t1 7 (by decide +kernel) rfl, by decide, by decide, by decide⟩
theorem iX7_readAnswer : Cond.instanceMethod yX7_readAnswer ∈ mj_GW := mj_t3 106 (by decide +kernel) rfl
theorem vX7_readAnswer : Cond.selects (mj_own.getD 7 "") yX7_readAnswer yX7_readAnswer ∈ mj_GW := mj_p1 14 (by decide +kernel) rfl
def mX7_readCondition : mj_m := (7, false, cX7_readCondition, 4, some .boolean, yX7_readCondition)
def pX7_readCondition : List (Nat × Instr × Nat) := [(0, .aload_n 0, 1), (1, .iload_n 1, 1), (2, .iload_n 2, 1), (3, .invokevirtual 63, 3), (6, .ifCond .ne 5, 3), (9, .iconst 0, 1), (10, .ireturn, 1), (11, .iconst 0, 1), (12, .istore_n 3, 1), (13, .iload_n 3, 1), (14, .sipush 240, 3), (17, .if_icmp .ge 39, 3), (20, .aload_n 0, 1), (21, .getfield 17, 3), (24, .bipush 124, 2), (26, .invokevirtual 37, 3), (29, .ifCond .eq 27, 3), (32, .aload_n 0, 1), (33, .iload_n 1, 1), (34, .iconst 0, 1), (35, .invokevirtual 63, 3), (38, .ifCond .ne 5, 3), (41, .iconst 0, 1), (42, .ireturn, 1), (43, .aload_n 0, 1), (44, .sipush 20008, 3), (47, .invokevirtual 59, 3), (50, .iinc 3 1, 3), (53, .goto (-40), 3), (56, .iconst 1, 1), (57, .ireturn, 1)]
set_option maxRecDepth 100000 in
theorem dX7_readCondition : mj_pd cX7_readCondition pX7_readCondition := mj_pdB (by decide +kernel)
theorem fX7_readCondition : mj_mf mX7_readCondition := ⟨mj_t3 73 (by decide +kernel) rfl, mj_t1 7 (by decide +kernel) rfl, by decide, by decide, by decide⟩
theorem iX7_readCondition : Cond.instanceMethod yX7_readCondition ∈ mj_GW := mj_t3 72 (by decide +kernel) rfl
theorem vX7_readCondition : Cond.selects (mj_own.getD 7 "") yX7_readCondition yX7_readCondition ∈ mj_GW := mj_p1 7 (by decide +kernel) rfl
def mX7_readTruth : mj_m := (7, false, cX7_readTruth, 4, some .boolean, yX7_readTruth)
def pX7_readTruth : List (Nat × Instr × Nat) := [(0, .aload_n 0, 1), (1, .iload_n 1, 1), (2, .iload_n 2, 1), (3, .invokevirtual 66, 3), (6, .ifCond .ne 5, 3), (9, .iconst 0, 1), (10, .ireturn, 1), (11, .iconst 0, 1), (12, .istore_n 3, 1), (13, .iload_n 3, 1), (14, .sipush 240, 3), (17, .if_icmp .ge 39, 3), (20, .aload_n 0, 1), (21, .getfield 17, 3), (24, .bipush 38, 2), (26, .invokevirtual 37, 3), (29, .ifCond .eq 27, 3), (32, .aload_n 0, 1), (33, .iload_n 1, 1), (34, .iconst 0, 1), (35, .invokevirtual 66, 3), (38, .ifCond .ne 5, 3), (41, .iconst 0, 1), (42, .ireturn, 1), (43, .aload_n 0, 1), (44, .sipush 20007, 3), (47, .invokevirtual 59, 3), (50, .iinc 3 1, 3), (53, .goto (-40), 3), (56, .iconst 1, 1), (57, .ireturn, 1)]
set_option maxRecDepth 100000 in
theorem dX7_readTruth : mj_pd cX7_readTruth pX7_readTruth := mj_pdB (by decide +kernel)
theorem fX7_readTruth : mj_mf mX7_readTruth := ⟨mj_t3 77 (by decide +kernel) rfl, mj_t1 7 (by decide +kernel) rfl, by decide, by decide, by decide⟩
theorem iX7_readTruth : Cond.instanceMethod yX7_readTruth ∈ mj_GW := mj_t3 76 (by decide +kernel) rfl
theorem vX7_readTruth : Cond.selects (mj_own.getD 7 "") yX7_readTruth yX7_readTruth ∈ mj_GW := mj_p1 8 (by decide +kernel) rfl
def mX7_readUnit : mj_m := (7, false, cX7_readUnit, 5, some .boolean, yX7_readUnit)
def pX7_readUnit : List (Nat × Instr × Nat) := [(0, .aload_n 0, 1), (1, .getfield 17, 3), (4, .invokevirtual 41, 3), (7, .istore_n 3, 1), (8, .iload_n 2, 1), (9, .ifCond .ne 48, 3), (12, .iload_n 3, 1), (13, .bipush 33, 2), (15, .if_icmp .ne 42, 3), (18, .iload_n 1, 1), (19, .bipush 6, 2), (21, .if_icmp .ge 25, 3), (24, .aload_n 0, 1), (25, .getfield 17, 3), (28, .iload_n 3, 1), (29, .invokevirtual 37, 3), (32, .ifCond .eq 14, 3), (35, .aload_n 0, 1), (36, .iload_n 1, 1), (37, .iconst 1, 1), (38, .iadd, 1), (39, .iconst 0, 1), (40, .invokevirtual 66, 3), (43, .ifCond .ne 5, 3), (46, .iconst 0, 1), (47, .ireturn, 1), (48, .aload_n 0, 1), (49, .sipush 20009, 3), (52, .invokevirtual 59, 3), (55, .iconst 1, 1), (56, .ireturn, 1), (57, .iload_n 2, 1), (58, .ifCond .ne 55, 3), (61, .iload_n 3, 1), (62, .bipush 40, 2), (64, .if_icmp .ne 49, 3), (67, .iload_n 1, 1), (68, .bipush 6, 2), (70, .if_icmp .ge 41, 3), (73, .aload_n 0, 1), (74, .getfield 17, 3), (77, .iload_n 3, 1), (78, .invokevirtual 37, 3), (81, .ifCond .eq 30, 3), (84, .aload_n 0, 1), (85, .iload_n 1, 1), (86, .iconst 1, 1), (87, .iadd, 1), (88, .iconst 0, 1), (89, .invokevirtual 45, 3), (92, .ifCond .eq 19, 3), (95, .aload_n 0, 1), (96, .getfield 17, 3), (99, .bipush 41, 2), (101, .invokevirtual 37, 3), (104, .ifCond .eq 7, 3), (107, .iconst 1, 1), (108, .goto 4, 3), (111, .iconst 0, 1), (112, .ireturn, 1), (113, .iload_n 2, 1), (114, .ifCond .ne 13, 3), (117, .aload_n 0, 1), (118, .iload_n 1, 1), (119, .invokevirtual 52, 3), (122, .ifCond .ne 5, 3), (125, .iconst 0, 1), (126, .ireturn, 1), (127, .aload_n 0, 1), (128, .getfield 17, 3), (131, .invokevirtual 41, 3), (134, .invokestatic 55, 3), (137, .istore 4, 2), (139, .iload 4, 2), (141, .iconst (-1), 1), (142, .if_icmp .ne 5, 3), (145, .iconst 0, 1), (146, .ireturn, 1), (147, .aload_n 0, 1), (148, .getfield 17, 3), (151, .dup, 1), (152, .getfield 34, 3), (155, .iconst 1, 1), (156, .iadd, 1), (157, .putfield 34, 3), (160, .aload_n 0, 1), (161, .iload_n 1, 1), (162, .invokevirtual 52, 3), (165, .ifCond .ne 5, 3), (168, .iconst 0, 1), (169, .ireturn, 1), (170, .aload_n 0, 1), (171, .iload 4, 2), (173, .invokevirtual 59, 3), (176, .iconst 1, 1), (177, .ireturn, 1)]
set_option maxRecDepth 100000 in
theorem dX7_readUnit : mj_pd cX7_readUnit pX7_readUnit := mj_pdB (by decide +kernel)
theorem fX7_readUnit : mj_mf mX7_readUnit := ⟨mj_t3 81 (by decide +kernel) rfl, mj_t1 7 (by decide +kernel) rfl, by decide, by decide, by decide⟩
theorem iX7_readUnit : Cond.instanceMethod yX7_readUnit ∈ mj_GW := mj_t3 80 (by decide +kernel) rfl
theorem vX7_readUnit : Cond.selects (mj_own.getD 7 "") yX7_readUnit yX7_readUnit ∈ mj_GW := mj_p1 9 (by decide +kernel) rfl
def mX7_comparisonOf : mj_m := (7, false, cX7_comparisonOf, 1, some .int, yX7_comparisonOf)
def pX7_comparisonOf : List (Nat × Instr × Nat) := [(0, .iload_n 0, 1), (1, .tableswitch 39 60 62 #[31, 27, 35], 27), (28, .sipush 20004, 3), (31, .ireturn, 1), (32, .sipush 20005, 3), (35, .ireturn, 1), (36, .sipush 20006, 3), (39, .ireturn, 1), (40, .iconst (-1), 1), (41, .ireturn, 1)]
set_option maxRecDepth 100000 in
theorem dX7_comparisonOf : mj_pd cX7_comparisonOf pX7_comparisonOf := mj_pdB (by decide +kernel)
theorem fX7_comparisonOf : mj_mf mX7_comparisonOf := ⟨mj_t3 103 (by decide +kernel) rfl, mj_t1 7 (by decide +kernel) rfl, by decide, by decide, by decide⟩
theorem sX7_comparisonOf : Cond.static yX7_comparisonOf ∈ mj_GW := mj_t3 102 (by decide +kernel) rfl
def mX7_readSum : mj_m := (7, false, cX7_readSum, 4, some .boolean, yX7_readSum)
def pX7_readSum : List (Nat × Instr × Nat) := [(0, .aload_n 0, 1), (1, .iload_n 1, 1), (2, .invokevirtual 69, 3), (5, .ifCond .ne 5, 3), (8, .iconst 0, 1), (9, .ireturn, 1), (10, .iconst 0, 1), (11, .istore_n 2, 1), (12, .iload_n 2, 1), (13, .sipush 240, 3), (16, .if_icmp .ge 72, 3), (19, .aload_n 0, 1), (20, .getfield 17, 3), (23, .invokevirtual 41, 3), (26, .istore_n 3, 1), (27, .iload_n 3, 1), (28, .bipush 43, 2), (30, .if_icmp .eq 12, 3), (33, .iload_n 3, 1), (34, .bipush 45, 2), (36, .if_icmp .eq 6, 3), (39, .goto 49, 3), (42, .aload_n 0, 1), (43, .getfield 17, 3), (46, .iload_n 3, 1), (47, .invokevirtual 37, 3), (50, .ifCond .eq 11, 3), (53, .aload_n 0, 1), (54, .iload_n 1, 1), (55, .invokevirtual 69, 3), (58, .ifCond .ne 5, 3), (61, .iconst 0, 1), (62, .ireturn, 1), (63, .aload_n 0, 1), (64, .iload_n 3, 1), (65, .bipush 43, 2), (67, .if_icmp .ne 9, 3), (70, .sipush 20000, 3), (73, .goto 6, 3), (76, .sipush 20001, 3), (79, .invokevirtual 59, 3), (82, .iinc 2 1, 3), (85, .goto (-73), 3), (88, .iconst 1, 1), (89, .ireturn, 1)]
set_option maxRecDepth 100000 in
theorem dX7_readSum : mj_pd cX7_readSum pX7_readSum := mj_pdB (by decide +kernel)
theorem fX7_readSum : mj_mf mX7_readSum := ⟨mj_t3 89 (by decide +kernel) rfl, mj_t1 7 (by decide +kernel) rfl, by decide, by decide, by decide⟩
theorem iX7_readSum : Cond.instanceMethod yX7_readSum ∈ mj_GW := mj_t3 88 (by decide +kernel) rfl
theorem vX7_readSum : Cond.selects (mj_own.getD 7 "") yX7_readSum yX7_readSum ∈ mj_GW := mj_p1 11 (by decide +kernel) rfl
def mX7_readTerm : mj_m := (7, false, cX7_readTerm, 4, some .boolean, yX7_readTerm)
def pX7_readTerm : List (Nat × Instr × Nat) := [(0, .aload_n 0, 1), (1, .iload_n 1, 1), (2, .invokevirtual 72, 3), (5, .ifCond .ne 5, 3), (8, .iconst 0, 1), (9, .ireturn, 1), (10, .iconst 0, 1), (11, .istore_n 2, 1), (12, .iload_n 2, 1), (13, .sipush 240, 3), (16, .if_icmp .ge 72, 3), (19, .aload_n 0, 1), (20, .getfield 17, 3), (23, .invokevirtual 41, 3), (26, .istore_n 3, 1), (27, .iload_n 3, 1), (28, .bipush 42, 2), (30, .if_icmp .eq 12, 3), (33, .iload_n 3, 1), (34, .bipush 47, 2), (36, .if_icmp .eq 6, 3), (39, .goto 49, 3), (42, .aload_n 0, 1), (43, .getfield 17, 3), (46, .iload_n 3, 1), (47, .invokevirtual 37, 3), (50, .ifCond .eq 11, 3), (53, .aload_n 0, 1), (54, .iload_n 1, 1), (55, .invokevirtual 72, 3), (58, .ifCond .ne 5, 3), (61, .iconst 0, 1), (62, .ireturn, 1), (63, .aload_n 0, 1), (64, .iload_n 3, 1), (65, .bipush 42, 2), (67, .if_icmp .ne 9, 3), (70, .sipush 20002, 3), (73, .goto 6, 3), (76, .sipush 20003, 3), (79, .invokevirtual 59, 3), (82, .iinc 2 1, 3), (85, .goto (-73), 3), (88, .iconst 1, 1), (89, .ireturn, 1)]
set_option maxRecDepth 100000 in
theorem dX7_readTerm : mj_pd cX7_readTerm pX7_readTerm := mj_pdB (by decide +kernel)
theorem fX7_readTerm : mj_mf mX7_readTerm := ⟨mj_t3 93 (by decide +kernel) rfl, mj_t1 7 (by decide +kernel) rfl, by decide, by decide, by decide⟩
theorem iX7_readTerm : Cond.instanceMethod yX7_readTerm ∈ mj_GW := mj_t3 92 (by decide +kernel) rfl
theorem vX7_readTerm : Cond.selects (mj_own.getD 7 "") yX7_readTerm yX7_readTerm ∈ mj_GW := mj_p1 12 (by decide +kernel) rfl
def mX7_readAtom : mj_m := (7, false, cX7_readAtom, 5, some .boolean, yX7_readAtom)
def pX7_readAtom : List (Nat × Instr × Nat) := [(0, .aload_n 0, 1), (1, .getfield 17, 3), (4, .invokevirtual 41, 3), (7, .istore_n 2, 1), (8, .iload_n 2, 1), (9, .bipush 91, 2), (11, .if_icmp .ne 48, 3), (14, .iload_n 1, 1), (15, .bipush 6, 2), (17, .if_icmp .ge 40, 3), (20, .aload_n 0, 1), (21, .getfield 17, 3), (24, .iload_n 2, 1), (25, .invokevirtual 37, 3), (28, .ifCond .eq 29, 3), (31, .aload_n 0, 1), (32, .iload_n 1, 1), (33, .iconst 1, 1), (34, .iadd, 1), (35, .invokevirtual 52, 3), (38, .ifCond .eq 19, 3), (41, .aload_n 0, 1), (42, .getfield 17, 3), (45, .bipush 93, 2), (47, .invokevirtual 37, 3), (50, .ifCond .eq 7, 3), (53, .iconst 1, 1), (54, .goto 4, 3), (57, .iconst 0, 1), (58, .ireturn, 1), (59, .ldc 75, 2), (61, .iload_n 2, 1), (62, .invokestatic 77, 3), (65, .istore_n 3, 1), (66, .iload_n 3, 1), (67, .ifCond .lt 21, 3), (70, .aload_n 0, 1), (71, .sipush 10000, 3), (74, .iload_n 3, 1), (75, .iadd, 1), (76, .invokevirtual 59, 3), (79, .aload_n 0, 1), (80, .getfield 17, 3), (83, .iload_n 2, 1), (84, .invokevirtual 37, 3), (87, .ireturn, 1), (88, .aload_n 0, 1), (89, .getfield 17, 3), (92, .iconst 4, 1), (93, .invokevirtual 81, 3), (96, .istore 4, 2), (98, .iload 4, 2), (100, .iconst (-1), 1), (101, .if_icmp .ne 5, 3), (104, .iconst 0, 1), (105, .ireturn, 1), (106, .aload_n 0, 1), (107, .iload 4, 2), (109, .invokevirtual 59, 3), (112, .iconst 1, 1), (113, .ireturn, 1)]
set_option maxRecDepth 100000 in
theorem dX7_readAtom : mj_pd cX7_readAtom pX7_readAtom := mj_pdB (by decide +kernel)
theorem fX7_readAtom : mj_mf mX7_readAtom := ⟨mj_t3 97 (by decide +kernel) rfl, mj_t1 7 (by decide +kernel) rfl, by decide, by decide, by decide⟩
theorem iX7_readAtom : Cond.instanceMethod yX7_readAtom ∈ mj_GW := mj_t3 96 (by decide +kernel) rfl
theorem vX7_readAtom : Cond.selects (mj_own.getD 7 "") yX7_readAtom yX7_readAtom ∈ mj_GW := mj_p1 13 (by decide +kernel) rfl
def mX7_emit : mj_m := (7, false, cX7_emit, 2, none, yX7_emit)
def pX7_emit : List (Nat × Instr × Nat) := [(0, .aload_n 0, 1), (1, .getfield 26, 3), (4, .aload_n 0, 1), (5, .getfield 11, 3), (8, .arraylength, 1), (9, .if_icmp .ge 23, 3), (12, .aload_n 0, 1), (13, .getfield 11, 3), (16, .aload_n 0, 1), (17, .getfield 26, 3), (20, .iload_n 1, 1), (21, .iastore, 1), (22, .aload_n 0, 1), (23, .dup, 1), (24, .getfield 26, 3), (27, .iconst 1, 1), (28, .iadd, 1), (29, .putfield 26, 3), (32, .return_, 1)]
set_option maxRecDepth 100000 in
theorem dX7_emit : mj_pd cX7_emit pX7_emit := mj_pdB (by decide +kernel)
theorem fX7_emit : mj_mf mX7_emit := ⟨mj_t3 85 (by decide +kernel) rfl, mj_t1 7 (by decide +kernel) rfl, by decide, by decide, by decide⟩
theorem iX7_emit : Cond.instanceMethod yX7_emit ∈ mj_GW := mj_t3 84 (by decide +kernel) rfl
theorem vX7_emit : Cond.selects (mj_own.getD 7 "") yX7_emit yX7_emit ∈ mj_GW := mj_p1 10 (by decide +kernel) rfl
def mX8_bytesOf : mj_m := (8, false, cX8_bytesOf, 3, some .int, yX8_bytesOf)
def pX8_bytesOf : List (Nat × Instr × Nat) := [(0, .iconst 0, 1), (1, .istore_n 1, 1), (2, .bipush 24, 2), (4, .istore_n 2, 1), (5, .iload_n 2, 1), (6, .ifCond .lt 22, 3), (9, .iload_n 0, 1), (10, .iload_n 2, 1), (11, .iushr, 1), (12, .sipush 255, 3), (15, .iand, 1), (16, .ifCond .eq 6, 3), (19, .iinc 1 1, 3), (22, .iinc 2 (-8), 3), (25, .goto (-20), 3), (28, .iload_n 1, 1), (29, .ireturn, 1)]
set_option maxRecDepth 100000 in
theorem dX8_bytesOf : mj_pd cX8_bytesOf pX8_bytesOf := mj_pdB (by decide +kernel)
theorem fX8_bytesOf : mj_mf mX8_bytesOf := ⟨mj_t2 119 (by decide +kernel) rfl, mj_t1 2 (by decide +kernel) rfl, by decide, by decide, by decide⟩
theorem sX8_bytesOf : Cond.static yX8_bytesOf ∈ mj_GW := mj_t2 118 (by decide +kernel) rfl
def mX8_append : mj_m := (8, false, cX8_append, 4, none, yX8_append)
def pX8_append : List (Nat × Instr × Nat) := [(0, .bipush 24, 2), (2, .istore_n 2, 1), (3, .iload_n 2, 1), (4, .ifCond .lt 51, 3), (7, .iload_n 1, 1), (8, .iload_n 2, 1), (9, .iushr, 1), (10, .sipush 255, 3), (13, .iand, 1), (14, .istore_n 3, 1), (15, .iload_n 3, 1), (16, .ifCond .eq 33, 3), (19, .aload_n 0, 1), (20, .getfield 15, 3), (23, .sipush 240, 3), (26, .if_icmp .ge 23, 3), (29, .aload_n 0, 1), (30, .getfield 11, 3), (33, .aload_n 0, 1), (34, .getfield 15, 3), (37, .iload_n 3, 1), (38, .iastore, 1), (39, .aload_n 0, 1), (40, .dup, 1), (41, .getfield 15, 3), (44, .iconst 1, 1), (45, .iadd, 1), (46, .putfield 15, 3), (49, .iinc 2 (-8), 3), (52, .goto (-49), 3), (55, .return_, 1)]
set_option maxRecDepth 100000 in
theorem dX8_append : mj_pd cX8_append pX8_append := mj_pdB (by decide +kernel)
theorem fX8_append : mj_mf mX8_append := ⟨mj_t2 123 (by decide +kernel) rfl, mj_t1 2 (by decide +kernel) rfl, by decide, by decide, by decide⟩
theorem iX8_append : Cond.instanceMethod yX8_append ∈ mj_GW := mj_t2 121 (by decide +kernel) rfl
theorem vX8_append : Cond.selects (mj_own.getD 8 "") yX8_append yX8_append ∈ mj_GW := mj_t2 122 (by decide +kernel) rfl
def mX8_rewind : mj_m := (8, false, cX8_rewind, 1, none, yX8_rewind)
def pX8_rewind : List (Nat × Instr × Nat) := [(0, .aload_n 0, 1), (1, .iconst 0, 1), (2, .putfield 19, 3), (5, .return_, 1)]
set_option maxRecDepth 100000 in
theorem dX8_rewind : mj_pd cX8_rewind pX8_rewind := mj_pdB (by decide +kernel)
theorem fX8_rewind : mj_mf mX8_rewind := ⟨mj_t2 139 (by decide +kernel) rfl, mj_t1 2 (by decide +kernel) rfl, by decide, by decide, by decide⟩
theorem iX8_rewind : Cond.instanceMethod yX8_rewind ∈ mj_GW := mj_t2 137 (by decide +kernel) rfl
theorem vX8_rewind : Cond.selects (mj_own.getD 8 "") yX8_rewind yX8_rewind ∈ mj_GW := mj_t2 138 (by decide +kernel) rfl
def mX8_rawSign : mj_m := (8, false, cX8_rawSign, 1, some .int, yX8_rawSign)
def pX8_rawSign : List (Nat × Instr × Nat) := [(0, .aload_n 0, 1), (1, .getfield 19, 3), (4, .ifCond .lt 36, 3), (7, .aload_n 0, 1), (8, .getfield 19, 3), (11, .aload_n 0, 1), (12, .getfield 15, 3), (15, .if_icmp .ge 25, 3), (18, .aload_n 0, 1), (19, .getfield 19, 3), (22, .sipush 240, 3), (25, .if_icmp .ge 15, 3), (28, .aload_n 0, 1), (29, .getfield 11, 3), (32, .aload_n 0, 1), (33, .getfield 19, 3), (36, .iaload, 1), (37, .goto 4, 3), (40, .iconst (-1), 1), (41, .ireturn, 1)]
set_option maxRecDepth 100000 in
theorem dX8_rawSign : mj_pd cX8_rawSign pX8_rawSign := mj_pdB (by decide +kernel)
theorem fX8_rawSign : mj_mf mX8_rawSign := ⟨mj_t3 35 (by decide +kernel) rfl, mj_t1 2 (by decide +kernel) rfl, by decide, by decide, by decide⟩
theorem iX8_rawSign : Cond.instanceMethod yX8_rawSign ∈ mj_GW := mj_t3 34 (by decide +kernel) rfl
theorem vX8_rawSign : Cond.selects (mj_own.getD 8 "") yX8_rawSign yX8_rawSign ∈ mj_GW := mj_p1 3 (by decide +kernel) rfl
def mX8_nextSign : mj_m := (8, false, cX8_nextSign, 1, some .int, yX8_nextSign)
def pX8_nextSign : List (Nat × Instr × Nat) := [(0, .aload_n 0, 1), (1, .getfield 19, 3), (4, .ifCond .lt 61, 3), (7, .aload_n 0, 1), (8, .getfield 19, 3), (11, .aload_n 0, 1), (12, .getfield 15, 3), (15, .if_icmp .ge 50, 3), (18, .aload_n 0, 1), (19, .getfield 19, 3), (22, .sipush 240, 3), (25, .if_icmp .ge 40, 3), (28, .aload_n 0, 1), (29, .getfield 11, 3), (32, .aload_n 0, 1), (33, .getfield 19, 3), (36, .iaload, 1), (37, .bipush 32, 2), (39, .if_icmp .eq 13, 3), (42, .aload_n 0, 1), (43, .getfield 11, 3), (46, .aload_n 0, 1), (47, .getfield 19, 3), (50, .iaload, 1), (51, .ireturn, 1), (52, .aload_n 0, 1), (53, .dup, 1), (54, .getfield 19, 3), (57, .iconst 1, 1), (58, .iadd, 1), (59, .putfield 19, 3), (62, .goto (-62), 3), (65, .iconst (-1), 1), (66, .ireturn, 1)]
set_option maxRecDepth 100000 in
theorem dX8_nextSign : mj_pd cX8_nextSign pX8_nextSign := mj_pdB (by decide +kernel)
theorem fX8_nextSign : mj_mf mX8_nextSign := ⟨mj_t2 151 (by decide +kernel) rfl, mj_t1 2 (by decide +kernel) rfl, by decide, by decide, by decide⟩
theorem iX8_nextSign : Cond.instanceMethod yX8_nextSign ∈ mj_GW := mj_t2 149 (by decide +kernel) rfl
theorem vX8_nextSign : Cond.selects (mj_own.getD 8 "") yX8_nextSign yX8_nextSign ∈ mj_GW := mj_t2 150 (by decide +kernel) rfl
def mX8_take : mj_m := (8, false, cX8_take, 2, some .boolean, yX8_take)
def pX8_take : List (Nat × Instr × Nat) := [(0, .aload_n 0, 1), (1, .invokevirtual 22, 3), (4, .iload_n 1, 1), (5, .if_icmp .eq 5, 3), (8, .iconst 0, 1), (9, .ireturn, 1), (10, .aload_n 0, 1), (11, .dup, 1), (12, .getfield 19, 3), (15, .iconst 1, 1), (16, .iadd, 1), (17, .putfield 19, 3), (20, .iconst 1, 1), (21, .ireturn, 1)]
set_option maxRecDepth 100000 in
theorem dX8_take : mj_pd cX8_take pX8_take := mj_pdB (by decide +kernel)
theorem fX8_take : mj_mf mX8_take := ⟨mj_t2 155 (by decide +kernel) rfl, mj_t1 2 (by decide +kernel) rfl, by decide, by decide, by decide⟩
theorem iX8_take : Cond.instanceMethod yX8_take ∈ mj_GW := mj_t2 153 (by decide +kernel) rfl
theorem vX8_take : Cond.selects (mj_own.getD 8 "") yX8_take yX8_take ∈ mj_GW := mj_t2 154 (by decide +kernel) rfl
def mX8_takeNumber : mj_m := (8, false, cX8_takeNumber, 4, some .int, yX8_takeNumber)
def pX8_takeNumber : List (Nat × Instr × Nat) := [(0, .aload_n 0, 1), (1, .invokevirtual 22, 3), (4, .invokestatic 26, 3), (7, .ifCond .ne 5, 3), (10, .iconst (-1), 1), (11, .ireturn, 1), (12, .iconst 0, 1), (13, .istore_n 2, 1), (14, .iconst 0, 1), (15, .istore_n 3, 1), (16, .iload_n 3, 1), (17, .iload_n 1, 1), (18, .if_icmp .ge 42, 3), (21, .aload_n 0, 1), (22, .invokevirtual 30, 3), (25, .invokestatic 26, 3), (28, .ifCond .eq 32, 3), (31, .iload_n 2, 1), (32, .bipush 10, 2), (34, .imul, 1), (35, .aload_n 0, 1), (36, .invokevirtual 30, 3), (39, .iadd, 1), (40, .bipush 48, 2), (42, .isub, 1), (43, .istore_n 2, 1), (44, .aload_n 0, 1), (45, .dup, 1), (46, .getfield 19, 3), (49, .iconst 1, 1), (50, .iadd, 1), (51, .putfield 19, 3), (54, .iinc 3 1, 3), (57, .goto (-41), 3), (60, .aload_n 0, 1), (61, .invokevirtual 30, 3), (64, .invokestatic 26, 3), (67, .ifCond .eq 7, 3), (70, .iconst (-1), 1), (71, .goto 4, 3), (74, .iload_n 2, 1), (75, .ireturn, 1)]
set_option maxRecDepth 100000 in
theorem dX8_takeNumber : mj_pd cX8_takeNumber pX8_takeNumber := mj_pdB (by decide +kernel)
theorem fX8_takeNumber : mj_mf mX8_takeNumber := ⟨mj_t3 28 (by decide +kernel) rfl, mj_t1 2 (by decide +kernel) rfl, by decide, by decide, by decide⟩
theorem iX8_takeNumber : Cond.instanceMethod yX8_takeNumber ∈ mj_GW := mj_t3 26 (by decide +kernel) rfl
theorem vX8_takeNumber : Cond.selects (mj_own.getD 8 "") yX8_takeNumber yX8_takeNumber ∈ mj_GW := mj_t3 27 (by decide +kernel) rfl
def mX8_isDigit : mj_m := (8, false, cX8_isDigit, 1, some .boolean, yX8_isDigit)
def pX8_isDigit : List (Nat × Instr × Nat) := [(0, .iload_n 0, 1), (1, .bipush 48, 2), (3, .if_icmp .lt 13, 3), (6, .iload_n 0, 1), (7, .bipush 57, 2), (9, .if_icmp .gt 7, 3), (12, .iconst 1, 1), (13, .goto 4, 3), (16, .iconst 0, 1), (17, .ireturn, 1)]
set_option maxRecDepth 100000 in
theorem dX8_isDigit : mj_pd cX8_isDigit pX8_isDigit := mj_pdB (by decide +kernel)
theorem fX8_isDigit : mj_mf mX8_isDigit := ⟨mj_t3 31 (by decide +kernel) rfl, mj_t1 2 (by decide +kernel) rfl, by decide, by decide, by decide⟩
theorem sX8_isDigit : Cond.static yX8_isDigit ∈ mj_GW := mj_t3 30 (by decide +kernel) rfl
def mX8_indexIn : mj_m := (8, false, cX8_indexIn, 2, some .int, yX8_indexIn)
def pX8_indexIn : List (Nat × Instr × Nat) := [(0, .iload_n 1, 1), (1, .iconst 1, 1), (2, .if_icmp .ge 7, 3), (5, .iconst (-1), 1), (6, .goto 9, 3), (9, .aload_n 0, 1), (10, .iload_n 1, 1), (11, .i2c, 1), (12, .invokevirtual 33, 3), (15, .ireturn, 1)]
set_option maxRecDepth 100000 in
theorem dX8_indexIn : mj_pd cX8_indexIn pX8_indexIn := mj_pdB (by decide +kernel)
theorem fX8_indexIn : mj_mf mX8_indexIn := ⟨mj_t2 187 (by decide +kernel) rfl, mj_t1 2 (by decide +kernel) rfl, by decide, by decide, by decide⟩
theorem sX8_indexIn : Cond.static yX8_indexIn ∈ mj_GW := mj_t2 186 (by decide +kernel) rfl
def mX9_set : mj_m := (9, false, cX9_set, 6, none, yX9_set)
def pX9_set : List (Nat × Instr × Nat) := [(0, .aload_n 0, 1), (1, .iload_n 1, 1), (2, .iconst 5, 1), (3, .if_icmp .le 7, 3), (6, .iconst 5, 1), (7, .goto 4, 3), (10, .iload_n 1, 1), (11, .putfield 21, 3), (14, .aload_n 0, 1), (15, .iconst 1, 1), (16, .putfield 25, 3), (19, .iconst 0, 1), (20, .istore 4, 2), (22, .iload 4, 2), (24, .aload_n 0, 1), (25, .getfield 21, 3), (28, .if_icmp .ge 19, 3), (31, .aload_n 0, 1), (32, .dup, 1), (33, .getfield 25, 3), (36, .iconst 3, 1), (37, .imul, 1), (38, .putfield 25, 3), (41, .iinc 4 1, 3), (44, .goto (-22), 3), (47, .iconst 0, 1), (48, .istore 4, 2), (50, .iload 4, 2), (52, .iconst 3, 1), (53, .if_icmp .ge 39, 3), (56, .iload_n 2, 1), (57, .ifCond .ne 10, 3), (60, .iconst 2, 1), (61, .iload 4, 2), (63, .isub, 1), (64, .goto 5, 3), (67, .iload 4, 2), (69, .istore 5, 2), (71, .aload_n 0, 1), (72, .getfield 18, 3), (75, .iload 4, 2), (77, .iconst 5, 1), (78, .iload_n 3, 1), (79, .imul, 1), (80, .iload 5, 2), (82, .imul, 1), (83, .iconst 2, 1), (84, .idiv, 1), (85, .iastore, 1), (86, .iinc 4 1, 3), (89, .goto (-39), 3), (92, .return_, 1)]
set_option maxRecDepth 100000 in
theorem dX9_set : mj_pd cX9_set pX9_set := mj_pdB (by decide +kernel)
theorem fX9_set : mj_mf mX9_set := ⟨mj_t4 184 (by decide +kernel) rfl, mj_t1 11 (by decide +kernel) rfl, by decide, by decide, by decide⟩
theorem iX9_set : Cond.instanceMethod yX9_set ∈ mj_GW := mj_t4 182 (by decide +kernel) rfl
theorem vX9_set : Cond.selects (mj_own.getD 9 "") yX9_set yX9_set ∈ mj_GW := mj_t4 183 (by decide +kernel) rfl
def mX9_countRests : mj_m := (9, false, cX9_countRests, 3, some .int, yX9_countRests)
def pX9_countRests : List (Nat × Instr × Nat) := [(0, .iconst 0, 1), (1, .istore_n 1, 1), (2, .iconst 0, 1), (3, .istore_n 2, 1), (4, .iload_n 2, 1), (5, .aload_n 0, 1), (6, .getfield 25, 3), (9, .if_icmp .ge 20, 3), (12, .aload_n 0, 1), (13, .iload_n 2, 1), (14, .invokevirtual 28, 3), (17, .ifCond .eq 6, 3), (20, .iinc 1 1, 3), (23, .iinc 2 1, 3), (26, .goto (-22), 3), (29, .iload_n 1, 1), (30, .ireturn, 1)]
set_option maxRecDepth 100000 in
theorem dX9_countRests : mj_pd cX9_countRests pX9_countRests := mj_pdB (by decide +kernel)
theorem fX9_countRests : mj_mf mX9_countRests := ⟨mj_t4 188 (by decide +kernel) rfl, mj_t1 11 (by decide +kernel) rfl, by decide, by decide, by decide⟩
theorem iX9_countRests : Cond.instanceMethod yX9_countRests ∈ mj_GW := mj_t4 186 (by decide +kernel) rfl
theorem vX9_countRests : Cond.selects (mj_own.getD 9 "") yX9_countRests yX9_countRests ∈ mj_GW := mj_t4 187 (by decide +kernel) rfl
def mX9_findRest : mj_m := (9, false, cX9_findRest, 4, some .int, yX9_findRest)
def pX9_findRest : List (Nat × Instr × Nat) := [(0, .iconst 0, 1), (1, .istore_n 2, 1), (2, .iconst 0, 1), (3, .istore_n 3, 1), (4, .iload_n 3, 1), (5, .aload_n 0, 1), (6, .getfield 25, 3), (9, .if_icmp .ge 30, 3), (12, .aload_n 0, 1), (13, .iload_n 3, 1), (14, .invokevirtual 28, 3), (17, .ifCond .eq 16, 3), (20, .iload_n 2, 1), (21, .iload_n 1, 1), (22, .if_icmp .ne 8, 3), (25, .aload_n 0, 1), (26, .invokevirtual 32, 3), (29, .ireturn, 1), (30, .iinc 2 1, 3), (33, .iinc 3 1, 3), (36, .goto (-32), 3), (39, .iconst (-1), 1), (40, .ireturn, 1)]
set_option maxRecDepth 100000 in
theorem dX9_findRest : mj_pd cX9_findRest pX9_findRest := mj_pdB (by decide +kernel)
theorem fX9_findRest : mj_mf mX9_findRest := ⟨mj_t4 200 (by decide +kernel) rfl, mj_t1 11 (by decide +kernel) rfl, by decide, by decide, by decide⟩
theorem iX9_findRest : Cond.instanceMethod yX9_findRest ∈ mj_GW := mj_t4 198 (by decide +kernel) rfl
theorem vX9_findRest : Cond.selects (mj_own.getD 9 "") yX9_findRest yX9_findRest ∈ mj_GW := mj_t4 199 (by decide +kernel) rfl
def mX9_fullestOfFirstRest : mj_m := (9, false, cX9_fullestOfFirstRest, 2, some .int, yX9_fullestOfFirstRest)
def pX9_fullestOfFirstRest : List (Nat × Instr × Nat) := [(0, .aload_n 0, 1), (1, .iconst 0, 1), (2, .invokevirtual 36, 3), (5, .pop, 1), (6, .aload_n 0, 1), (7, .getfield 15, 3), (10, .iconst 0, 1), (11, .iaload, 1), (12, .aload_n 0, 1), (13, .getfield 15, 3), (16, .iconst 1, 1), (17, .iaload, 1), (18, .if_icmp .le 12, 3), (21, .aload_n 0, 1), (22, .getfield 15, 3), (25, .iconst 0, 1), (26, .iaload, 1), (27, .goto 9, 3), (30, .aload_n 0, 1), (31, .getfield 15, 3), (34, .iconst 1, 1), (35, .iaload, 1), (36, .istore_n 1, 1), (37, .aload_n 0, 1), (38, .getfield 15, 3), (41, .iconst 2, 1), (42, .iaload, 1), (43, .iload_n 1, 1), (44, .if_icmp .le 12, 3), (47, .aload_n 0, 1), (48, .getfield 15, 3), (51, .iconst 2, 1), (52, .iaload, 1), (53, .goto 4, 3), (56, .iload_n 1, 1), (57, .ireturn, 1)]
set_option maxRecDepth 100000 in
theorem dX9_fullestOfFirstRest : mj_pd cX9_fullestOfFirstRest pX9_fullestOfFirstRest := mj_pdB (by decide +kernel)
theorem fX9_fullestOfFirstRest : mj_mf mX9_fullestOfFirstRest := ⟨mj_t4 212 (by decide +kernel) rfl, mj_t1 11 (by decide +kernel) rfl, by decide, by decide, by decide⟩
theorem iX9_fullestOfFirstRest : Cond.instanceMethod yX9_fullestOfFirstRest ∈ mj_GW := mj_t4 210 (by decide +kernel) rfl
theorem vX9_fullestOfFirstRest : Cond.selects (mj_own.getD 9 "") yX9_fullestOfFirstRest yX9_fullestOfFirstRest ∈ mj_GW := mj_t4 211 (by decide +kernel) rfl
def mX9_isRest : mj_m := (9, false, cX9_isRest, 6, some .boolean, yX9_isRest)
def pX9_isRest : List (Nat × Instr × Nat) := [(0, .aload_n 0, 1), (1, .iload_n 1, 1), (2, .invokevirtual 40, 3), (5, .iconst 0, 1), (6, .istore_n 2, 1), (7, .iload_n 2, 1), (8, .aload_n 0, 1), (9, .getfield 21, 3), (12, .if_icmp .ge 80, 3), (15, .aload_n 0, 1), (16, .getfield 11, 3), (19, .iload_n 2, 1), (20, .iaload, 1), (21, .istore_n 3, 1), (22, .aload_n 0, 1), (23, .getfield 18, 3), (26, .iload_n 3, 1), (27, .iaload, 1), (28, .iconst 2, 1), (29, .aload_n 0, 1), (30, .getfield 15, 3), (33, .iload_n 3, 1), (34, .iaload, 1), (35, .iconst 1, 1), (36, .isub, 1), (37, .imul, 1), (38, .isub, 1), (39, .istore 4, 2), (41, .iconst 0, 1), (42, .istore 5, 2), (44, .iload 5, 2), (46, .iconst 3, 1), (47, .if_icmp .ge 39, 3), (50, .iload 5, 2), (52, .iload_n 3, 1), (53, .if_icmp .eq 27, 3), (56, .aload_n 0, 1), (57, .getfield 18, 3), (60, .iload 5, 2), (62, .iaload, 1), (63, .iconst 2, 1), (64, .aload_n 0, 1), (65, .getfield 15, 3), (68, .iload 5, 2), (70, .iaload, 1), (71, .imul, 1), (72, .isub, 1), (73, .iload 4, 2), (75, .if_icmp .le 5, 3), (78, .iconst 0, 1), (79, .ireturn, 1), (80, .iinc 5 1, 3), (83, .goto (-39), 3), (86, .iinc 2 1, 3), (89, .goto (-82), 3), (92, .iconst 1, 1), (93, .ireturn, 1)]
set_option maxRecDepth 100000 in
theorem dX9_isRest : mj_pd cX9_isRest pX9_isRest := mj_pdB (by decide +kernel)
theorem fX9_isRest : mj_mf mX9_isRest := ⟨mj_t4 192 (by decide +kernel) rfl, mj_t1 11 (by decide +kernel) rfl, by decide, by decide, by decide⟩
theorem iX9_isRest : Cond.instanceMethod yX9_isRest ∈ mj_GW := mj_t4 191 (by decide +kernel) rfl
theorem vX9_isRest : Cond.selects (mj_own.getD 9 "") yX9_isRest yX9_isRest ∈ mj_GW := mj_p2 14 (by decide +kernel) rfl
def mX9_spell : mj_m := (9, false, cX9_spell, 4, none, yX9_spell)
def pX9_spell : List (Nat × Instr × Nat) := [(0, .iconst 0, 1), (1, .istore_n 2, 1), (2, .iload_n 2, 1), (3, .iconst 3, 1), (4, .if_icmp .ge 16, 3), (7, .aload_n 0, 1), (8, .getfield 15, 3), (11, .iload_n 2, 1), (12, .iconst 0, 1), (13, .iastore, 1), (14, .iinc 2 1, 3), (17, .goto (-15), 3), (20, .iload_n 1, 1), (21, .istore_n 2, 1), (22, .aload_n 0, 1), (23, .getfield 21, 3), (26, .iconst 1, 1), (27, .isub, 1), (28, .istore_n 3, 1), (29, .iload_n 3, 1), (30, .ifCond .lt 37, 3), (33, .aload_n 0, 1), (34, .getfield 11, 3), (37, .iload_n 3, 1), (38, .iload_n 2, 1), (39, .iconst 3, 1), (40, .irem, 1), (41, .iastore, 1), (42, .aload_n 0, 1), (43, .getfield 15, 3), (46, .aload_n 0, 1), (47, .getfield 11, 3), (50, .iload_n 3, 1), (51, .iaload, 1), (52, .dup2, 1), (53, .iaload, 1), (54, .iconst 1, 1), (55, .iadd, 1), (56, .iastore, 1), (57, .iload_n 2, 1), (58, .iconst 3, 1), (59, .idiv, 1), (60, .istore_n 2, 1), (61, .iinc 3 (-1), 3), (64, .goto (-35), 3), (67, .return_, 1)]
set_option maxRecDepth 100000 in
theorem dX9_spell : mj_pd cX9_spell pX9_spell := mj_pdB (by decide +kernel)
theorem fX9_spell : mj_mf mX9_spell := ⟨mj_t4 196 (by decide +kernel) rfl, mj_t1 11 (by decide +kernel) rfl, by decide, by decide, by decide⟩
theorem iX9_spell : Cond.instanceMethod yX9_spell ∈ mj_GW := mj_t4 195 (by decide +kernel) rfl
theorem vX9_spell : Cond.selects (mj_own.getD 9 "") yX9_spell yX9_spell ∈ mj_GW := mj_p2 15 (by decide +kernel) rfl
def mX9_digits : mj_m := (9, false, cX9_digits, 3, some .int, yX9_digits)
def pX9_digits : List (Nat × Instr × Nat) := [(0, .iconst 0, 1), (1, .istore_n 1, 1), (2, .iconst 0, 1), (3, .istore_n 2, 1), (4, .iload_n 2, 1), (5, .aload_n 0, 1), (6, .getfield 21, 3), (9, .if_icmp .ge 21, 3), (12, .iload_n 1, 1), (13, .bipush 10, 2), (15, .imul, 1), (16, .aload_n 0, 1), (17, .getfield 11, 3), (20, .iload_n 2, 1), (21, .iaload, 1), (22, .iadd, 1), (23, .istore_n 1, 1), (24, .iinc 2 1, 3), (27, .goto (-23), 3), (30, .iload_n 1, 1), (31, .ireturn, 1)]
set_option maxRecDepth 100000 in
theorem dX9_digits : mj_pd cX9_digits pX9_digits := mj_pdB (by decide +kernel)
theorem fX9_digits : mj_mf mX9_digits := ⟨mj_t4 204 (by decide +kernel) rfl, mj_t1 11 (by decide +kernel) rfl, by decide, by decide, by decide⟩
theorem iX9_digits : Cond.instanceMethod yX9_digits ∈ mj_GW := mj_t4 203 (by decide +kernel) rfl
theorem vX9_digits : Cond.selects (mj_own.getD 9 "") yX9_digits yX9_digits ∈ mj_GW := mj_p3 0 (by decide +kernel) rfl
def mX10_findFault : mj_m := (10, false, cX10_findFault, 2, some .int, yX10_findFault)
def pX10_findFault : List (Nat × Instr × Nat) := [(0, .aload_n 0, 1), (1, .getfield 29, 3), (4, .invokevirtual 33, 3), (7, .aload_n 0, 1), (8, .iconst 0, 1), (9, .putfield 38, 3), (12, .aload_n 0, 1), (13, .getfield 25, 3), (16, .invokevirtual 42, 3), (19, .iconst 0, 1), (20, .istore_n 1, 1), (21, .iload_n 1, 1), (22, .sipush 240, 3), (25, .if_icmp .ge 39, 3), (28, .aload_n 0, 1), (29, .invokevirtual 45, 3), (32, .ifCond .ne 11, 3), (35, .aload_n 0, 1), (36, .getfield 29, 3), (39, .getfield 49, 3), (42, .ireturn, 1), (43, .aload_n 0, 1), (44, .getfield 29, 3), (47, .bipush 59, 2), (49, .invokevirtual 53, 3), (52, .ifCond .ne 6, 3), (55, .goto 9, 3), (58, .iinc 1 1, 3), (61, .goto (-40), 3), (64, .aload_n 0, 1), (65, .getfield 29, 3), (68, .invokevirtual 57, 3), (71, .iconst (-1), 1), (72, .if_icmp .eq 11, 3), (75, .aload_n 0, 1), (76, .getfield 29, 3), (79, .getfield 49, 3), (82, .ireturn, 1), (83, .aload_n 0, 1), (84, .getfield 38, 3), (87, .ifCond .eq 24, 3), (90, .aload_n 0, 1), (91, .getfield 25, 3), (94, .getfield 61, 3), (97, .ifCond .le 14, 3), (100, .aload_n 0, 1), (101, .invokevirtual 64, 3), (104, .ifCond .eq 7, 3), (107, .iconst (-1), 1), (108, .goto 10, 3), (111, .aload_n 0, 1), (112, .getfield 29, 3), (115, .getfield 67, 3), (118, .ireturn, 1)]
set_option maxRecDepth 100000 in
theorem dX10_findFault : mj_pd cX10_findFault pX10_findFault := mj_pdB (by decide +kernel)
theorem fX10_findFault : mj_mf mX10_findFault := ⟨mj_t2 135 (by decide +kernel) rfl, mj_t1 4 (by decide +kernel) rfl, by decide, by decide, by decide⟩
theorem iX10_findFault : Cond.instanceMethod yX10_findFault ∈ mj_GW := mj_t2 133 (by decide +kernel) rfl
theorem vX10_findFault : Cond.selects (mj_own.getD 10 "") yX10_findFault yX10_findFault ∈ mj_GW := mj_t2 134 (by decide +kernel) rfl
def mX10_readClause : mj_m := (10, false, cX10_readClause, 2, some .boolean, yX10_readClause)
def pX10_readClause : List (Nat × Instr × Nat) := [(0, .aload_n 0, 1), (1, .getfield 29, 3), (4, .invokevirtual 57, 3), (7, .istore_n 1, 1), (8, .iload_n 1, 1), (9, .bipush 108, 2), (11, .if_icmp .ne 39, 3), (14, .aload_n 0, 1), (15, .getfield 38, 3), (18, .ifCond .ne 32, 3), (21, .aload_n 0, 1), (22, .iconst 1, 1), (23, .putfield 38, 3), (26, .aload_n 0, 1), (27, .getfield 29, 3), (30, .iload_n 1, 1), (31, .invokevirtual 53, 3), (34, .ifCond .eq 14, 3), (37, .aload_n 0, 1), (38, .invokevirtual 70, 3), (41, .ifCond .eq 7, 3), (44, .iconst 1, 1), (45, .goto 4, 3), (48, .iconst 0, 1), (49, .ireturn, 1), (50, .iload_n 1, 1), (51, .bipush 98, 2), (53, .if_icmp .ne 37, 3), (56, .aload_n 0, 1), (57, .getfield 25, 3), (60, .getfield 61, 3), (63, .bipush 8, 2), (65, .if_icmp .ge 25, 3), (68, .aload_n 0, 1), (69, .getfield 29, 3), (72, .iload_n 1, 1), (73, .invokevirtual 53, 3), (76, .ifCond .eq 14, 3), (79, .aload_n 0, 1), (80, .invokevirtual 73, 3), (83, .ifCond .eq 7, 3), (86, .iconst 1, 1), (87, .goto 4, 3), (90, .iconst 0, 1), (91, .ireturn, 1)]
set_option maxRecDepth 100000 in
theorem dX10_readClause : mj_pd cX10_readClause pX10_readClause := mj_pdB (by decide +kernel)
theorem fX10_readClause : mj_mf mX10_readClause := ⟨mj_t2 147 (by decide +kernel) rfl, mj_t1 4 (by decide +kernel) rfl, by decide, by decide, by decide⟩
theorem iX10_readClause : Cond.instanceMethod yX10_readClause ∈ mj_GW := mj_t2 146 (by decide +kernel) rfl
theorem vX10_readClause : Cond.selects (mj_own.getD 10 "") yX10_readClause yX10_readClause ∈ mj_GW := mj_p1 0 (by decide +kernel) rfl
def mX10_readLine : mj_m := (10, false, cX10_readLine, 1, some .boolean, yX10_readLine)
def pX10_readLine : List (Nat × Instr × Nat) := [(0, .aload_n 0, 1), (1, .ldc 76, 2), (3, .getstatic 78, 3), (6, .getstatic 81, 3), (9, .getstatic 84, 3), (12, .invokevirtual 87, 3), (15, .ifCond .ne 5, 3), (18, .iconst 0, 1), (19, .ireturn, 1), (20, .aload_n 0, 1), (21, .getfield 11, 3), (24, .iconst 0, 1), (25, .aload_n 0, 1), (26, .getfield 18, 3), (29, .getfield 91, 3), (32, .iconst 0, 1), (33, .bipush 7, 2), (35, .invokestatic 94, 3), (38, .iconst 1, 1), (39, .ireturn, 1)]
set_option maxRecDepth 100000 in
theorem dX10_readLine : mj_pd cX10_readLine pX10_readLine := mj_pdB (by decide +kernel)
theorem fX10_readLine : mj_mf mX10_readLine := ⟨mj_t2 160 (by decide +kernel) rfl, mj_t1 4 (by decide +kernel) rfl, by decide, by decide, by decide⟩
theorem iX10_readLine : Cond.instanceMethod yX10_readLine ∈ mj_GW := mj_t2 159 (by decide +kernel) rfl
theorem vX10_readLine : Cond.selects (mj_own.getD 10 "") yX10_readLine yX10_readLine ∈ mj_GW := mj_p1 1 (by decide +kernel) rfl
def mX10_readBoat : mj_m := (10, false, cX10_readBoat, 1, some .boolean, yX10_readBoat)
def pX10_readBoat : List (Nat × Instr × Nat) := [(0, .aload_n 0, 1), (1, .ldc 100, 2), (3, .getstatic 102, 3), (6, .getstatic 105, 3), (9, .getstatic 108, 3), (12, .invokevirtual 87, 3), (15, .ifCond .ne 5, 3), (18, .iconst 0, 1), (19, .ireturn, 1), (20, .aload_n 0, 1), (21, .getfield 25, 3), (24, .aload_n 0, 1), (25, .getfield 11, 3), (28, .invokevirtual 111, 3), (31, .iconst 1, 1), (32, .ireturn, 1)]
set_option maxRecDepth 100000 in
theorem dX10_readBoat : mj_pd cX10_readBoat pX10_readBoat := mj_pdB (by decide +kernel)
theorem fX10_readBoat : mj_mf mX10_readBoat := ⟨mj_t3 39 (by decide +kernel) rfl, mj_t1 4 (by decide +kernel) rfl, by decide, by decide, by decide⟩
theorem iX10_readBoat : Cond.instanceMethod yX10_readBoat ∈ mj_GW := mj_t3 38 (by decide +kernel) rfl
theorem vX10_readBoat : Cond.selects (mj_own.getD 10 "") yX10_readBoat yX10_readBoat ∈ mj_GW := mj_p1 4 (by decide +kernel) rfl
def mX10_readItems : mj_m := (10, false, cX10_readItems, 9, some .boolean, yX10_readItems)
def pX10_readItems : List (Nat × Instr × Nat) := [(0, .aload 4, 2), (2, .iconst 0, 1), (3, .aload_n 0, 1), (4, .getfield 11, 3), (7, .iconst 0, 1), (8, .aload 4, 2), (10, .arraylength, 1), (11, .invokestatic 94, 3), (14, .iconst 0, 1), (15, .istore 5, 2), (17, .iconst 0, 1), (18, .istore 6, 2), (20, .iload 6, 2), (22, .aload_n 1, 1), (23, .invokevirtual 115, 3), (26, .if_icmp .ge 122, 3), (29, .aload_n 1, 1), (30, .aload_n 0, 1), (31, .getfield 29, 3), (34, .invokevirtual 57, 3), (37, .invokestatic 119, 3), (40, .istore 7, 2), (42, .iload 7, 2), (44, .ifCond .lt 14, 3), (47, .iload 5, 2), (49, .iload 7, 2), (51, .ishr, 1), (52, .iconst 1, 1), (53, .iand, 1), (54, .iconst 1, 1), (55, .if_icmp .ne 5, 3), (58, .iconst 1, 1), (59, .ireturn, 1), (60, .iload 5, 2), (62, .iconst 1, 1), (63, .iload 7, 2), (65, .ishl, 1), (66, .ior, 1), (67, .istore 5, 2), (69, .aload_n 0, 1), (70, .getfield 29, 3), (73, .dup, 1), (74, .getfield 49, 3), (77, .iconst 1, 1), (78, .iadd, 1), (79, .putfield 49, 3), (82, .aload_n 0, 1), (83, .getfield 29, 3), (86, .iconst 2, 1), (87, .invokevirtual 123, 3), (90, .istore 8, 2), (92, .iload 8, 2), (94, .iconst (-1), 1), (95, .if_icmp .ne 5, 3), (98, .iconst 0, 1), (99, .ireturn, 1), (100, .iload 8, 2), (102, .aload_n 2, 1), (103, .iload 7, 2), (105, .iaload, 1), (106, .if_icmp .lt 12, 3), (109, .iload 8, 2), (111, .aload_n 3, 1), (112, .iload 7, 2), (114, .iaload, 1), (115, .if_icmp .le 18, 3), (118, .aload_n 0, 1), (119, .getfield 29, 3), (122, .dup, 1), (123, .getfield 49, 3), (126, .iconst 1, 1), (127, .isub, 1), (128, .putfield 49, 3), (131, .iconst 0, 1), (132, .ireturn, 1), (133, .aload_n 0, 1), (134, .getfield 11, 3), (137, .iload 7, 2), (139, .iload 8, 2), (141, .iastore, 1), (142, .iinc 6 1, 3), (145, .goto (-125), 3), (148, .iconst 1, 1), (149, .ireturn, 1)]
set_option maxRecDepth 100000 in
theorem dX10_readItems : mj_pd cX10_readItems pX10_readItems := mj_pdB (by decide +kernel)
theorem fX10_readItems : mj_mf mX10_readItems := ⟨mj_t2 171 (by decide +kernel) rfl, mj_t1 4 (by decide +kernel) rfl, by decide, by decide, by decide⟩
theorem iX10_readItems : Cond.instanceMethod yX10_readItems ∈ mj_GW := mj_t2 170 (by decide +kernel) rfl
theorem vX10_readItems : Cond.selects (mj_own.getD 10 "") yX10_readItems yX10_readItems ∈ mj_GW := mj_p1 2 (by decide +kernel) rfl
def mX10_fits : mj_m := (10, false, cX10_fits, 3, some .boolean, yX10_fits)
def pX10_fits : List (Nat × Instr × Nat) := [(0, .iconst 0, 1), (1, .istore_n 1, 1), (2, .iload_n 1, 1), (3, .aload_n 0, 1), (4, .getfield 25, 3), (7, .getfield 61, 3), (10, .if_icmp .ge 108, 3), (13, .aload_n 0, 1), (14, .getfield 25, 3), (17, .getfield 127, 3), (20, .iload_n 1, 1), (21, .iaload, 1), (22, .aload_n 0, 1), (23, .getfield 25, 3), (26, .getfield 130, 3), (29, .iload_n 1, 1), (30, .iaload, 1), (31, .if_icmp .gt 22, 3), (34, .aload_n 0, 1), (35, .getfield 18, 3), (38, .aload_n 0, 1), (39, .getfield 25, 3), (42, .getfield 133, 3), (45, .iload_n 1, 1), (46, .iaload, 1), (47, .invokevirtual 136, 3), (50, .ifCond .ne 5, 3), (53, .iconst 0, 1), (54, .ireturn, 1), (55, .iconst 0, 1), (56, .istore_n 2, 1), (57, .iload_n 2, 1), (58, .iload_n 1, 1), (59, .if_icmp .ge 53, 3), (62, .aload_n 0, 1), (63, .getfield 25, 3), (66, .getfield 133, 3), (69, .iload_n 2, 1), (70, .iaload, 1), (71, .aload_n 0, 1), (72, .getfield 25, 3), (75, .getfield 133, 3), (78, .iload_n 1, 1), (79, .iaload, 1), (80, .if_icmp .ne 26, 3), (83, .aload_n 0, 1), (84, .getfield 25, 3), (87, .getfield 139, 3), (90, .iload_n 2, 1), (91, .iaload, 1), (92, .aload_n 0, 1), (93, .getfield 25, 3), (96, .getfield 139, 3), (99, .iload_n 1, 1), (100, .iaload, 1), (101, .if_icmp .ne 5, 3), (104, .iconst 0, 1), (105, .ireturn, 1), (106, .iinc 2 1, 3), (109, .goto (-52), 3), (112, .iinc 1 1, 3), (115, .goto (-113), 3), (118, .iconst 1, 1), (119, .ireturn, 1)]
set_option maxRecDepth 100000 in
theorem dX10_fits : mj_pd cX10_fits pX10_fits := mj_pdB (by decide +kernel)
theorem fX10_fits : mj_mf mX10_fits := ⟨mj_t3 54 (by decide +kernel) rfl, mj_t1 4 (by decide +kernel) rfl, by decide, by decide, by decide⟩
theorem iX10_fits : Cond.instanceMethod yX10_fits ∈ mj_GW := mj_t3 53 (by decide +kernel) rfl
theorem vX10_fits : Cond.selects (mj_own.getD 10 "") yX10_fits yX10_fits ∈ mj_GW := mj_p1 5 (by decide +kernel) rfl
def mX11_feed : mj_m := (11, false, cX11_feed, 7, some .int, yX11_feed)
def pX11_feed : List (Nat × Instr × Nat) := [(0, .iload_n 1, 1), (1, .invokestatic 105, 3), (4, .iload_n 2, 1), (5, .invokestatic 105, 3), (8, .iadd, 1), (9, .iload_n 3, 1), (10, .invokestatic 105, 3), (13, .iadd, 1), (14, .iload 4, 2), (16, .invokestatic 105, 3), (19, .iadd, 1), (20, .iload 5, 2), (22, .invokestatic 105, 3), (25, .iadd, 1), (26, .istore 6, 2), (28, .aload_n 0, 1), (29, .getfield 10, 3), (32, .getfield 109, 3), (35, .iload 6, 2), (37, .iadd, 1), (38, .sipush 240, 3), (41, .if_icmp .le 5, 3), (44, .iconst (-1), 1), (45, .ireturn, 1), (46, .aload_n 0, 1), (47, .getfield 10, 3), (50, .iload_n 1, 1), (51, .invokevirtual 113, 3), (54, .aload_n 0, 1), (55, .getfield 10, 3), (58, .iload_n 2, 1), (59, .invokevirtual 113, 3), (62, .aload_n 0, 1), (63, .getfield 10, 3), (66, .iload_n 3, 1), (67, .invokevirtual 113, 3), (70, .aload_n 0, 1), (71, .getfield 10, 3), (74, .iload 4, 2), (76, .invokevirtual 113, 3), (79, .aload_n 0, 1), (80, .getfield 10, 3), (83, .iload 5, 2), (85, .invokevirtual 113, 3), (88, .aload_n 0, 1), (89, .getfield 10, 3), (92, .getfield 109, 3), (95, .ireturn, 1)]
set_option maxRecDepth 100000 in
theorem dX11_feed : mj_pd cX11_feed pX11_feed := mj_pdB (by decide +kernel)
theorem fX11_feed : mj_mf mX11_feed := ⟨mj_t2 116 (by decide +kernel) rfl, mj_t1 1 (by decide +kernel) rfl, by decide, by decide, by decide⟩
theorem iX11_feed : Cond.instanceMethod yX11_feed ∈ mj_GW := mj_t2 114 (by decide +kernel) rfl
theorem vX11_feed : Cond.selects (mj_own.getD 11 "") yX11_feed yX11_feed ∈ mj_GW := mj_t2 115 (by decide +kernel) rfl
def mX11_end : mj_m := (11, false, cX11_end, 2, some .boolean, yX11_end)
def pX11_end : List (Nat × Instr × Nat) := [(0, .iload_n 1, 1), (1, .ifCond .lt 14, 3), (4, .iload_n 1, 1), (5, .aload_n 0, 1), (6, .getfield 10, 3), (9, .getfield 109, 3), (12, .if_icmp .le 5, 3), (15, .iconst 0, 1), (16, .ireturn, 1), (17, .aload_n 0, 1), (18, .getfield 10, 3), (21, .iload_n 1, 1), (22, .putfield 109, 3), (25, .iconst 1, 1), (26, .ireturn, 1)]
set_option maxRecDepth 100000 in
theorem dX11_end : mj_pd cX11_end pX11_end := mj_pdB (by decide +kernel)
theorem fX11_end : mj_mf mX11_end := ⟨mj_t2 127 (by decide +kernel) rfl, mj_t1 1 (by decide +kernel) rfl, by decide, by decide, by decide⟩
theorem iX11_end : Cond.instanceMethod yX11_end ∈ mj_GW := mj_t2 125 (by decide +kernel) rfl
theorem vX11_end : Cond.selects (mj_own.getD 11 "") yX11_end yX11_end ∈ mj_GW := mj_t2 126 (by decide +kernel) rfl
def mX11_fault : mj_m := (11, false, cX11_fault, 2, some .int, yX11_fault)
def pX11_fault : List (Nat × Instr × Nat) := [(0, .iload_n 1, 1), (1, .ifCond .ne 11, 3), (4, .aload_n 0, 1), (5, .getfield 28, 3), (8, .invokevirtual 117, 3), (11, .ireturn, 1), (12, .iload_n 1, 1), (13, .iconst 1, 1), (14, .if_icmp .ne 11, 3), (17, .aload_n 0, 1), (18, .getfield 35, 3), (21, .invokevirtual 121, 3), (24, .ireturn, 1), (25, .bipush (-2), 2), (27, .ireturn, 1)]
set_option maxRecDepth 100000 in
theorem dX11_fault : mj_pd cX11_fault pX11_fault := mj_pdB (by decide +kernel)
theorem fX11_fault : mj_mf mX11_fault := ⟨mj_t2 131 (by decide +kernel) rfl, mj_t1 1 (by decide +kernel) rfl, by decide, by decide, by decide⟩
theorem iX11_fault : Cond.instanceMethod yX11_fault ∈ mj_GW := mj_t2 129 (by decide +kernel) rfl
theorem vX11_fault : Cond.selects (mj_own.getD 11 "") yX11_fault yX11_fault ∈ mj_GW := mj_t2 130 (by decide +kernel) rfl
def mX11_text : mj_m := (11, false, cX11_text, 2, some .int, yX11_text)
def pX11_text : List (Nat × Instr × Nat) := [(0, .iload_n 1, 1), (1, .ifCond .ne 8, 3), (4, .aload_n 0, 1), (5, .invokevirtual 122, 3), (8, .ireturn, 1), (9, .iload_n 1, 1), (10, .iconst 1, 1), (11, .if_icmp .ne 8, 3), (14, .aload_n 0, 1), (15, .invokevirtual 125, 3), (18, .ireturn, 1), (19, .iconst (-1), 1), (20, .ireturn, 1)]
set_option maxRecDepth 100000 in
theorem dX11_text : mj_pd cX11_text pX11_text := mj_pdB (by decide +kernel)
theorem fX11_text : mj_mf mX11_text := ⟨mj_t3 112 (by decide +kernel) rfl, mj_t1 1 (by decide +kernel) rfl, by decide, by decide, by decide⟩
theorem iX11_text : Cond.instanceMethod yX11_text ∈ mj_GW := mj_t3 110 (by decide +kernel) rfl
theorem vX11_text : Cond.selects (mj_own.getD 11 "") yX11_text yX11_text ∈ mj_GW := mj_t3 111 (by decide +kernel) rfl
def mX11_takeWater : mj_m := (11, false, cX11_takeWater, 1, some .int, yX11_takeWater)
def pX11_takeWater : List (Nat × Instr × Nat) := [(0, .aload_n 0, 1), (1, .getfield 28, 3), (4, .invokevirtual 117, 3), (7, .iconst (-1), 1), (8, .if_icmp .eq 5, 3), (11, .iconst (-1), 1), (12, .ireturn, 1), (13, .aload_n 0, 1), (14, .getfield 42, 3), (17, .aload_n 0, 1), (18, .getfield 28, 3), (21, .getfield 128, 3), (24, .invokevirtual 129, 3), (27, .aload_n 0, 1), (28, .getfield 52, 3), (31, .aload_n 0, 1), (32, .getfield 28, 3), (35, .getfield 133, 3), (38, .invokevirtual 134, 3), (41, .aload_n 0, 1), (42, .getfield 56, 3), (45, .aload_n 0, 1), (46, .getfield 52, 3), (49, .invokevirtual 134, 3), (52, .aload_n 0, 1), (53, .getfield 87, 3), (56, .invokevirtual 137, 3), (59, .aload_n 0, 1), (60, .getfield 101, 3), (63, .invokevirtual 140, 3), (66, .aload_n 0, 1), (67, .iconst 0, 1), (68, .putfield 141, 3), (71, .aload_n 0, 1), (72, .getfield 10, 3), (75, .iconst 0, 1), (76, .putfield 109, 3), (79, .aload_n 0, 1), (80, .getfield 56, 3), (83, .getfield 145, 3), (86, .ireturn, 1)]
set_option maxRecDepth 100000 in
theorem dX11_takeWater : mj_pd cX11_takeWater pX11_takeWater := mj_pdB (by decide +kernel)
theorem fX11_takeWater : mj_mf mX11_takeWater := ⟨mj_t3 116 (by decide +kernel) rfl, mj_t1 1 (by decide +kernel) rfl, by decide, by decide, by decide⟩
theorem iX11_takeWater : Cond.instanceMethod yX11_takeWater ∈ mj_GW := mj_t3 115 (by decide +kernel) rfl
theorem vX11_takeWater : Cond.selects (mj_own.getD 11 "") yX11_takeWater yX11_takeWater ∈ mj_GW := mj_p1 15 (by decide +kernel) rfl
def mX11_takeRule : mj_m := (11, false, cX11_takeRule, 1, some .int, yX11_takeRule)
def pX11_takeRule : List (Nat × Instr × Nat) := [(0, .aload_n 0, 1), (1, .getfield 19, 3), (4, .getfield 148, 3), (7, .iconst 4, 1), (8, .if_icmp .ge 14, 3), (11, .aload_n 0, 1), (12, .getfield 35, 3), (15, .invokevirtual 121, 3), (18, .iconst (-1), 1), (19, .if_icmp .eq 5, 3), (22, .iconst (-1), 1), (23, .ireturn, 1), (24, .aload_n 0, 1), (25, .getfield 10, 3), (28, .iconst 0, 1), (29, .putfield 109, 3), (32, .aload_n 0, 1), (33, .getfield 19, 3), (36, .aload_n 0, 1), (37, .getfield 35, 3), (40, .getfield 149, 3), (43, .aload_n 0, 1), (44, .getfield 35, 3), (47, .getfield 153, 3), (50, .invokevirtual 156, 3), (53, .ireturn, 1)]
set_option maxRecDepth 100000 in
theorem dX11_takeRule : mj_pd cX11_takeRule pX11_takeRule := mj_pdB (by decide +kernel)
theorem fX11_takeRule : mj_mf mX11_takeRule := ⟨mj_t3 137 (by decide +kernel) rfl, mj_t1 1 (by decide +kernel) rfl, by decide, by decide, by decide⟩
theorem iX11_takeRule : Cond.instanceMethod yX11_takeRule ∈ mj_GW := mj_t3 136 (by decide +kernel) rfl
theorem vX11_takeRule : Cond.selects (mj_own.getD 11 "") yX11_takeRule yX11_takeRule ∈ mj_GW := mj_p2 0 (by decide +kernel) rfl
def mX11_boat : mj_m := (11, false, cX11_boat, 3, some .int, yX11_boat)
def pX11_boat : List (Nat × Instr × Nat) := [(0, .aload_n 0, 1), (1, .iload_n 1, 1), (2, .invokevirtual 160, 3), (5, .ifCond .eq 13, 3), (8, .iload_n 2, 1), (9, .ifCond .lt 9, 3), (12, .iload_n 2, 1), (13, .bipush 11, 2), (15, .if_icmp .le 11, 3), (18, .new 164, 3), (21, .dup, 1), (22, .invokespecial 166, 3), (25, .athrow, 1), (26, .iload_n 2, 1), (27, .tableswitch 176 0 10 #[57, 67, 77, 87, 97, 107, 117, 127, 137, 150, 163], 57), (84, .aload_n 0, 1), (85, .getfield 56, 3), (88, .getfield 167, 3), (91, .iload_n 1, 1), (92, .iaload, 1), (93, .ireturn, 1), (94, .aload_n 0, 1), (95, .getfield 56, 3), (98, .getfield 170, 3), (101, .iload_n 1, 1), (102, .iaload, 1), (103, .ireturn, 1), (104, .aload_n 0, 1), (105, .getfield 56, 3), (108, .getfield 173, 3), (111, .iload_n 1, 1), (112, .iaload, 1), (113, .ireturn, 1), (114, .aload_n 0, 1), (115, .getfield 56, 3), (118, .getfield 176, 3), (121, .iload_n 1, 1), (122, .iaload, 1), (123, .ireturn, 1), (124, .aload_n 0, 1), (125, .getfield 56, 3), (128, .getfield 179, 3), (131, .iload_n 1, 1), (132, .iaload, 1), (133, .ireturn, 1), (134, .aload_n 0, 1), (135, .getfield 56, 3), (138, .getfield 182, 3), (141, .iload_n 1, 1), (142, .iaload, 1), (143, .ireturn, 1), (144, .aload_n 0, 1), (145, .getfield 56, 3), (148, .getfield 185, 3), (151, .iload_n 1, 1), (152, .iaload, 1), (153, .ireturn, 1), (154, .aload_n 0, 1), (155, .getfield 56, 3), (158, .getfield 188, 3), (161, .iload_n 1, 1), (162, .iaload, 1), (163, .ireturn, 1), (164, .aload_n 0, 1), (165, .getfield 42, 3), (168, .aload_n 0, 1), (169, .getfield 56, 3), (172, .iload_n 1, 1), (173, .invokevirtual 191, 3), (176, .ireturn, 1), (177, .aload_n 0, 1), (178, .getfield 42, 3), (181, .aload_n 0, 1), (182, .getfield 56, 3), (185, .iload_n 1, 1), (186, .invokevirtual 195, 3), (189, .ireturn, 1), (190, .aload_n 0, 1), (191, .getfield 42, 3), (194, .aload_n 0, 1), (195, .getfield 56, 3), (198, .iload_n 1, 1), (199, .invokevirtual 198, 3), (202, .ireturn, 1), (203, .aload_n 0, 1), (204, .getfield 56, 3), (207, .iload_n 1, 1), (208, .invokevirtual 201, 3), (211, .ireturn, 1)]
set_option maxRecDepth 100000 in
theorem dX11_boat : mj_pd cX11_boat pX11_boat := mj_pdB (by decide +kernel)
theorem fX11_boat : mj_mf mX11_boat := ⟨mj_t5 77 (by decide +kernel) rfl, mj_t1 1 (by decide +kernel) rfl, by decide, by decide, by decide⟩
theorem iX11_boat : Cond.instanceMethod yX11_boat ∈ mj_GW := mj_t5 75 (by decide +kernel) rfl
theorem vX11_boat : Cond.selects (mj_own.getD 11 "") yX11_boat yX11_boat ∈ mj_GW := mj_t5 76 (by decide +kernel) rfl
def mX11_line : mj_m := (11, false, cX11_line, 2, some .int, yX11_line)
def pX11_line : List (Nat × Instr × Nat) := [(0, .aload_n 0, 1), (1, .invokevirtual 204, 3), (4, .ifCond .eq 13, 3), (7, .iload_n 1, 1), (8, .ifCond .lt 9, 3), (11, .iload_n 1, 1), (12, .bipush 7, 2), (14, .if_icmp .lt 5, 3), (17, .iconst (-1), 1), (18, .ireturn, 1), (19, .aload_n 0, 1), (20, .getfield 42, 3), (23, .getfield 208, 3), (26, .iload_n 1, 1), (27, .iaload, 1), (28, .ireturn, 1)]
set_option maxRecDepth 100000 in
theorem dX11_line : mj_pd cX11_line pX11_line := mj_pdB (by decide +kernel)
theorem fX11_line : mj_mf mX11_line := ⟨mj_t3 146 (by decide +kernel) rfl, mj_t1 1 (by decide +kernel) rfl, by decide, by decide, by decide⟩
theorem iX11_line : Cond.instanceMethod yX11_line ∈ mj_GW := mj_t3 144 (by decide +kernel) rfl
theorem vX11_line : Cond.selects (mj_own.getD 11 "") yX11_line yX11_line ∈ mj_GW := mj_t3 145 (by decide +kernel) rfl
def mX11_rule : mj_m := (11, false, cX11_rule, 3, some .int, yX11_rule)
def pX11_rule : List (Nat × Instr × Nat) := [(0, .aload_n 0, 1), (1, .iload_n 1, 1), (2, .invokevirtual 160, 3), (5, .ifCond .eq 26, 3), (8, .iload_n 2, 1), (9, .iconst (-1), 1), (10, .if_icmp .lt 21, 3), (13, .iload_n 2, 1), (14, .iconst 4, 1), (15, .if_icmp .ge 16, 3), (18, .aload_n 0, 1), (19, .getfield 56, 3), (22, .getfield 182, 3), (25, .iload_n 1, 1), (26, .iaload, 1), (27, .iload_n 2, 1), (28, .if_icmp .ne 5, 3), (31, .iconst (-1), 1), (32, .ireturn, 1), (33, .aload_n 0, 1), (34, .getfield 87, 3), (37, .aload_n 0, 1), (38, .getfield 56, 3), (41, .invokevirtual 211, 3), (44, .aload_n 0, 1), (45, .getfield 56, 3), (48, .getfield 182, 3), (51, .iload_n 1, 1), (52, .iload_n 2, 1), (53, .iastore, 1), (54, .aload_n 0, 1), (55, .getfield 87, 3), (58, .getfield 214, 3), (61, .ireturn, 1)]
set_option maxRecDepth 100000 in
theorem dX11_rule : mj_pd cX11_rule pX11_rule := mj_pdB (by decide +kernel)
theorem fX11_rule : mj_mf mX11_rule := ⟨mj_t3 154 (by decide +kernel) rfl, mj_t1 1 (by decide +kernel) rfl, by decide, by decide, by decide⟩
theorem iX11_rule : Cond.instanceMethod yX11_rule ∈ mj_GW := mj_t3 152 (by decide +kernel) rfl
theorem vX11_rule : Cond.selects (mj_own.getD 11 "") yX11_rule yX11_rule ∈ mj_GW := mj_t3 153 (by decide +kernel) rfl
def mX11_mark : mj_m := (11, false, cX11_mark, 2, some .int, yX11_mark)
def pX11_mark : List (Nat × Instr × Nat) := [(0, .aload_n 0, 1), (1, .iload_n 1, 1), (2, .invokevirtual 160, 3), (5, .ifCond .eq 16, 3), (8, .aload_n 0, 1), (9, .getfield 56, 3), (12, .getfield 185, 3), (15, .iload_n 1, 1), (16, .iaload, 1), (17, .iconst 1, 1), (18, .if_icmp .ne 5, 3), (21, .iconst (-1), 1), (22, .ireturn, 1), (23, .aload_n 0, 1), (24, .getfield 87, 3), (27, .aload_n 0, 1), (28, .getfield 56, 3), (31, .invokevirtual 211, 3), (34, .aload_n 0, 1), (35, .getfield 56, 3), (38, .getfield 185, 3), (41, .iload_n 1, 1), (42, .iconst 1, 1), (43, .iastore, 1), (44, .aload_n 0, 1), (45, .getfield 87, 3), (48, .getfield 214, 3), (51, .ireturn, 1)]
set_option maxRecDepth 100000 in
theorem dX11_mark : mj_pd cX11_mark pX11_mark := mj_pdB (by decide +kernel)
theorem fX11_mark : mj_mf mX11_mark := ⟨mj_t3 170 (by decide +kernel) rfl, mj_t1 1 (by decide +kernel) rfl, by decide, by decide, by decide⟩
theorem iX11_mark : Cond.instanceMethod yX11_mark ∈ mj_GW := mj_t3 168 (by decide +kernel) rfl
theorem vX11_mark : Cond.selects (mj_own.getD 11 "") yX11_mark yX11_mark ∈ mj_GW := mj_t3 169 (by decide +kernel) rfl
def mX11_speed : mj_m := (11, false, cX11_speed, 3, some .int, yX11_speed)
def pX11_speed : List (Nat × Instr × Nat) := [(0, .aload_n 0, 1), (1, .iload_n 1, 1), (2, .invokevirtual 160, 3), (5, .ifCond .eq 33, 3), (8, .iload_n 2, 1), (9, .ifCond .lt 29, 3), (12, .iload_n 2, 1), (13, .aload_n 0, 1), (14, .getfield 56, 3), (17, .getfield 176, 3), (20, .iload_n 1, 1), (21, .iaload, 1), (22, .if_icmp .gt 16, 3), (25, .aload_n 0, 1), (26, .getfield 56, 3), (29, .getfield 173, 3), (32, .iload_n 1, 1), (33, .iaload, 1), (34, .iload_n 2, 1), (35, .if_icmp .ne 5, 3), (38, .iconst (-1), 1), (39, .ireturn, 1), (40, .aload_n 0, 1), (41, .getfield 87, 3), (44, .aload_n 0, 1), (45, .getfield 56, 3), (48, .invokevirtual 211, 3), (51, .aload_n 0, 1), (52, .getfield 56, 3), (55, .getfield 173, 3), (58, .iload_n 1, 1), (59, .iload_n 2, 1), (60, .iastore, 1), (61, .aload_n 0, 1), (62, .getfield 87, 3), (65, .getfield 214, 3), (68, .ireturn, 1)]
set_option maxRecDepth 100000 in
theorem dX11_speed : mj_pd cX11_speed pX11_speed := mj_pdB (by decide +kernel)
theorem fX11_speed : mj_mf mX11_speed := ⟨mj_t3 174 (by decide +kernel) rfl, mj_t1 1 (by decide +kernel) rfl, by decide, by decide, by decide⟩
theorem iX11_speed : Cond.instanceMethod yX11_speed ∈ mj_GW := mj_t3 172 (by decide +kernel) rfl
theorem vX11_speed : Cond.selects (mj_own.getD 11 "") yX11_speed yX11_speed ∈ mj_GW := mj_t3 173 (by decide +kernel) rfl
def mX11_steer : mj_m := (11, false, cX11_steer, 4, some .int, yX11_steer)
def pX11_steer : List (Nat × Instr × Nat) := [(0, .aload_n 0, 1), (1, .iload_n 1, 1), (2, .invokevirtual 160, 3), (5, .ifCond .eq 13, 3), (8, .iload_n 2, 1), (9, .iconst (-1), 1), (10, .if_icmp .eq 10, 3), (13, .iload_n 2, 1), (14, .iconst 1, 1), (15, .if_icmp .eq 5, 3), (18, .iconst (-1), 1), (19, .ireturn, 1), (20, .aload_n 0, 1), (21, .getfield 56, 3), (24, .getfield 167, 3), (27, .iload_n 1, 1), (28, .iaload, 1), (29, .iload_n 2, 1), (30, .iadd, 1), (31, .istore_n 3, 1), (32, .aload_n 0, 1), (33, .getfield 42, 3), (36, .iload_n 3, 1), (37, .invokevirtual 215, 3), (40, .ifCond .eq 23, 3), (43, .aload_n 0, 1), (44, .getfield 56, 3), (47, .iload_n 3, 1), (48, .aload_n 0, 1), (49, .getfield 56, 3), (52, .getfield 170, 3), (55, .iload_n 1, 1), (56, .iaload, 1), (57, .invokevirtual 218, 3), (60, .ifCond .eq 5, 3), (63, .iconst (-1), 1), (64, .ireturn, 1), (65, .aload_n 0, 1), (66, .getfield 87, 3), (69, .aload_n 0, 1), (70, .getfield 56, 3), (73, .invokevirtual 211, 3), (76, .aload_n 0, 1), (77, .getfield 56, 3), (80, .getfield 167, 3), (83, .iload_n 1, 1), (84, .iload_n 3, 1), (85, .iastore, 1), (86, .iload_n 3, 1), (87, .ireturn, 1)]
set_option maxRecDepth 100000 in
theorem dX11_steer : mj_pd cX11_steer pX11_steer := mj_pdB (by decide +kernel)
theorem fX11_steer : mj_mf mX11_steer := ⟨mj_t3 178 (by decide +kernel) rfl, mj_t1 1 (by decide +kernel) rfl, by decide, by decide, by decide⟩
theorem iX11_steer : Cond.instanceMethod yX11_steer ∈ mj_GW := mj_t3 176 (by decide +kernel) rfl
theorem vX11_steer : Cond.selects (mj_own.getD 11 "") yX11_steer yX11_steer ∈ mj_GW := mj_t3 177 (by decide +kernel) rfl
def mX11_gust : mj_m := (11, false, cX11_gust, 2, some .boolean, yX11_gust)
def pX11_gust : List (Nat × Instr × Nat) := [(0, .iload_n 1, 1), (1, .ifCond .lt 17, 3), (4, .iload_n 1, 1), (5, .bipush 99, 2), (7, .if_icmp .gt 11, 3), (10, .iload_n 1, 1), (11, .aload_n 0, 1), (12, .getfield 222, 3), (15, .if_icmp .ne 5, 3), (18, .iconst 0, 1), (19, .ireturn, 1), (20, .aload_n 0, 1), (21, .iload_n 1, 1), (22, .putfield 222, 3), (25, .iconst 1, 1), (26, .ireturn, 1)]
set_option maxRecDepth 100000 in
theorem dX11_gust : mj_pd cX11_gust pX11_gust := mj_pdB (by decide +kernel)
theorem fX11_gust : mj_mf mX11_gust := ⟨mj_t3 187 (by decide +kernel) rfl, mj_t1 1 (by decide +kernel) rfl, by decide, by decide, by decide⟩
theorem iX11_gust : Cond.instanceMethod yX11_gust ∈ mj_GW := mj_t3 185 (by decide +kernel) rfl
theorem vX11_gust : Cond.selects (mj_own.getD 11 "") yX11_gust yX11_gust ∈ mj_GW := mj_t3 186 (by decide +kernel) rfl
def mX11_go : mj_m := (11, false, cX11_go, 3, some .int, yX11_go)
def pX11_go : List (Nat × Instr × Nat) := [(0, .aload_n 0, 1), (1, .iload_n 1, 1), (2, .invokevirtual 225, 3), (5, .ifCond .ne 5, 3), (8, .iconst (-1), 1), (9, .ireturn, 1), (10, .iconst 0, 1), (11, .istore_n 2, 1), (12, .iload_n 2, 1), (13, .iload_n 1, 1), (14, .if_icmp .ge 35, 3), (17, .aload_n 0, 1), (18, .getfield 87, 3), (21, .aload_n 0, 1), (22, .getfield 56, 3), (25, .invokevirtual 211, 3), (28, .aload_n 0, 1), (29, .getfield 73, 3), (32, .aload_n 0, 1), (33, .getfield 42, 3), (36, .aload_n 0, 1), (37, .getfield 56, 3), (40, .invokevirtual 228, 3), (43, .iinc 2 1, 3), (46, .goto (-34), 3), (49, .aload_n 0, 1), (50, .getfield 56, 3), (53, .getfield 232, 3), (56, .ireturn, 1)]
set_option maxRecDepth 100000 in
theorem dX11_go : mj_pd cX11_go pX11_go := mj_pdB (by decide +kernel)
theorem fX11_go : mj_mf mX11_go := ⟨mj_t3 191 (by decide +kernel) rfl, mj_t1 1 (by decide +kernel) rfl, by decide, by decide, by decide⟩
theorem iX11_go : Cond.instanceMethod yX11_go ∈ mj_GW := mj_t3 189 (by decide +kernel) rfl
theorem vX11_go : Cond.selects (mj_own.getD 11 "") yX11_go yX11_go ∈ mj_GW := mj_t3 190 (by decide +kernel) rfl
def mX11_blow : mj_m := (11, false, cX11_blow, 5, some .int, yX11_blow)
def pX11_blow : List (Nat × Instr × Nat) := [(0, .aload_n 0, 1), (1, .iload_n 1, 1), (2, .invokevirtual 225, 3), (5, .ifCond .ne 5, 3), (8, .iconst (-1), 1), (9, .ireturn, 1), (10, .aload_n 0, 1), (11, .getfield 80, 3), (14, .lload_n 2, 1), (15, .invokevirtual 235, 3), (18, .iconst 0, 1), (19, .istore 4, 2), (21, .iload 4, 2), (23, .iload_n 1, 1), (24, .if_icmp .ge 43, 3), (27, .aload_n 0, 1), (28, .getfield 87, 3), (31, .aload_n 0, 1), (32, .getfield 56, 3), (35, .invokevirtual 211, 3), (38, .aload_n 0, 1), (39, .getfield 73, 3), (42, .aload_n 0, 1), (43, .getfield 42, 3), (46, .aload_n 0, 1), (47, .getfield 56, 3), (50, .aload_n 0, 1), (51, .getfield 80, 3), (54, .aload_n 0, 1), (55, .getfield 222, 3), (58, .invokevirtual 239, 3), (61, .iinc 4 1, 3), (64, .goto (-43), 3), (67, .aload_n 0, 1), (68, .getfield 56, 3), (71, .getfield 232, 3), (74, .ireturn, 1)]
set_option maxRecDepth 100000 in
theorem dX11_blow : mj_pd cX11_blow pX11_blow := mj_pdB (by decide +kernel)
theorem fX11_blow : mj_mf mX11_blow := ⟨mj_t4 45 (by decide +kernel) rfl, mj_t1 1 (by decide +kernel) rfl, by decide, by decide, by decide⟩
theorem iX11_blow : Cond.instanceMethod yX11_blow ∈ mj_GW := mj_t4 43 (by decide +kernel) rfl
theorem vX11_blow : Cond.selects (mj_own.getD 11 "") yX11_blow yX11_blow ∈ mj_GW := mj_t4 44 (by decide +kernel) rfl
def mX11_canPass : mj_m := (11, false, cX11_canPass, 2, some .boolean, yX11_canPass)
def pX11_canPass : List (Nat × Instr × Nat) := [(0, .aload_n 0, 1), (1, .invokevirtual 204, 3), (4, .ifCond .eq 27, 3), (7, .iload_n 1, 1), (8, .iconst 1, 1), (9, .if_icmp .lt 22, 3), (12, .iload_n 1, 1), (13, .aload_n 0, 1), (14, .getfield 42, 3), (17, .aload_n 0, 1), (18, .getfield 56, 3), (21, .invokevirtual 243, 3), (24, .if_icmp .gt 7, 3), (27, .iconst 1, 1), (28, .goto 4, 3), (31, .iconst 0, 1), (32, .ireturn, 1)]
set_option maxRecDepth 100000 in
theorem dX11_canPass : mj_pd cX11_canPass pX11_canPass := mj_pdB (by decide +kernel)
theorem fX11_canPass : mj_mf mX11_canPass := ⟨mj_t3 195 (by decide +kernel) rfl, mj_t1 1 (by decide +kernel) rfl, by decide, by decide, by decide⟩
theorem iX11_canPass : Cond.instanceMethod yX11_canPass ∈ mj_GW := mj_t3 194 (by decide +kernel) rfl
theorem vX11_canPass : Cond.selects (mj_own.getD 11 "") yX11_canPass yX11_canPass ∈ mj_GW := mj_p2 3 (by decide +kernel) rfl
def mX11_undo : mj_m := (11, false, cX11_undo, 1, some .int, yX11_undo)
def pX11_undo : List (Nat × Instr × Nat) := [(0, .aload_n 0, 1), (1, .getfield 87, 3), (4, .getfield 214, 3), (7, .ifCond .ne 5, 3), (10, .iconst (-1), 1), (11, .ireturn, 1), (12, .aload_n 0, 1), (13, .getfield 87, 3), (16, .aload_n 0, 1), (17, .getfield 56, 3), (20, .invokevirtual 247, 3), (23, .aload_n 0, 1), (24, .getfield 87, 3), (27, .getfield 214, 3), (30, .ireturn, 1)]
set_option maxRecDepth 100000 in
theorem dX11_undo : mj_pd cX11_undo pX11_undo := mj_pdB (by decide +kernel)
theorem fX11_undo : mj_mf mX11_undo := ⟨mj_t4 67 (by decide +kernel) rfl, mj_t1 1 (by decide +kernel) rfl, by decide, by decide, by decide⟩
theorem iX11_undo : Cond.instanceMethod yX11_undo ∈ mj_GW := mj_t4 65 (by decide +kernel) rfl
theorem vX11_undo : Cond.selects (mj_own.getD 11 "") yX11_undo yX11_undo ∈ mj_GW := mj_t4 66 (by decide +kernel) rfl
def mX11_ahead : mj_m := (11, false, cX11_ahead, 3, some .int, yX11_ahead)
def pX11_ahead : List (Nat × Instr × Nat) := [(0, .aload_n 0, 1), (1, .iload_n 1, 1), (2, .invokevirtual 160, 3), (5, .ifCond .eq 12, 3), (8, .iload_n 2, 1), (9, .ifCond .lt 8, 3), (12, .iload_n 2, 1), (13, .iconst 5, 1), (14, .if_icmp .le 6, 3), (17, .ldc 250, 2), (19, .ireturn, 1), (20, .aload_n 0, 1), (21, .getfield 59, 3), (24, .aload_n 0, 1), (25, .getfield 56, 3), (28, .invokevirtual 134, 3), (31, .aload_n 0, 1), (32, .getfield 73, 3), (35, .aload_n 0, 1), (36, .getfield 42, 3), (39, .aload_n 0, 1), (40, .getfield 59, 3), (43, .invokevirtual 251, 3), (46, .iload_n 2, 1), (47, .tableswitch 89 0 4 #[33, 43, 53, 63, 76], 33), (80, .aload_n 0, 1), (81, .getfield 59, 3), (84, .getfield 167, 3), (87, .iload_n 1, 1), (88, .iaload, 1), (89, .ireturn, 1), (90, .aload_n 0, 1), (91, .getfield 59, 3), (94, .getfield 170, 3), (97, .iload_n 1, 1), (98, .iaload, 1), (99, .ireturn, 1), (100, .aload_n 0, 1), (101, .getfield 59, 3), (104, .getfield 173, 3), (107, .iload_n 1, 1), (108, .iaload, 1), (109, .ireturn, 1), (110, .aload_n 0, 1), (111, .getfield 42, 3), (114, .aload_n 0, 1), (115, .getfield 59, 3), (118, .iload_n 1, 1), (119, .invokevirtual 191, 3), (122, .ireturn, 1), (123, .aload_n 0, 1), (124, .getfield 42, 3), (127, .aload_n 0, 1), (128, .getfield 59, 3), (131, .iload_n 1, 1), (132, .invokevirtual 195, 3), (135, .ireturn, 1), (136, .aload_n 0, 1), (137, .getfield 42, 3), (140, .aload_n 0, 1), (141, .getfield 59, 3), (144, .iload_n 1, 1), (145, .invokevirtual 198, 3), (148, .ireturn, 1)]
set_option maxRecDepth 100000 in
theorem dX11_ahead : mj_pd cX11_ahead pX11_ahead := mj_pdB (by decide +kernel)
theorem fX11_ahead : mj_mf mX11_ahead := ⟨mj_t4 79 (by decide +kernel) rfl, mj_t1 1 (by decide +kernel) rfl, by decide, by decide, by decide⟩
theorem iX11_ahead : Cond.instanceMethod yX11_ahead ∈ mj_GW := mj_t4 77 (by decide +kernel) rfl
theorem vX11_ahead : Cond.selects (mj_own.getD 11 "") yX11_ahead yX11_ahead ∈ mj_GW := mj_t4 78 (by decide +kernel) rfl
def mX11_where : mj_m := (11, false, cX11_where, 7, some .int, yX11_where)
def pX11_where : List (Nat × Instr × Nat) := [(0, .aload_n 0, 1), (1, .iload_n 1, 1), (2, .invokevirtual 160, 3), (5, .ifCond .eq 10, 3), (8, .iload_n 2, 1), (9, .invokestatic 254, 3), (12, .ifCond .ne 6, 3), (15, .ldc 250, 2), (17, .ireturn, 1), (18, .ldc 250, 2), (20, .istore_n 3, 1), (21, .ldc 250, 2), (23, .istore 4, 2), (25, .iconst 0, 1), (26, .istore 5, 2), (28, .iload 5, 2), (30, .aload_n 0, 1), (31, .getfield 42, 3), (34, .getfield 208, 3), (37, .iconst 0, 1), (38, .iaload, 1), (39, .if_icmp .ge 78, 3), (42, .iload 5, 2), (44, .aload_n 0, 1), (45, .getfield 56, 3), (48, .getfield 167, 3), (51, .iload_n 1, 1), (52, .iaload, 1), (53, .if_icmp .eq 27, 3), (56, .aload_n 0, 1), (57, .getfield 56, 3), (60, .iload 5, 2), (62, .aload_n 0, 1), (63, .getfield 56, 3), (66, .getfield 170, 3), (69, .iload_n 1, 1), (70, .iaload, 1), (71, .invokevirtual 218, 3), (74, .ifCond .eq 6, 3), (77, .goto 34, 3), (80, .aload_n 0, 1), (81, .iload_n 1, 1), (82, .iload 5, 2), (84, .aload_n 0, 1), (85, .getfield 56, 3), (88, .getfield 170, 3), (91, .iload_n 1, 1), (92, .iaload, 1), (93, .invokevirtual 257, 3), (96, .istore 6, 2), (98, .iload 6, 2), (100, .iload_n 3, 1), (101, .if_icmp .le 10, 3), (104, .iload 6, 2), (106, .istore_n 3, 1), (107, .iload 5, 2), (109, .istore 4, 2), (111, .iinc 5 1, 3), (114, .goto (-86), 3), (117, .iload_n 2, 1), (118, .ifCond .ne 8, 3), (121, .iload 4, 2), (123, .goto 4, 3), (126, .iload_n 3, 1), (127, .ireturn, 1)]
set_option maxRecDepth 100000 in
theorem dX11_where : mj_pd cX11_where pX11_where := mj_pdB (by decide +kernel)
theorem fX11_where : mj_mf mX11_where := ⟨mj_t4 108 (by decide +kernel) rfl, mj_t1 1 (by decide +kernel) rfl, by decide, by decide, by decide⟩
theorem iX11_where : Cond.instanceMethod yX11_where ∈ mj_GW := mj_t4 106 (by decide +kernel) rfl
theorem vX11_where : Cond.selects (mj_own.getD 11 "") yX11_where yX11_where ∈ mj_GW := mj_t4 107 (by decide +kernel) rfl
def mX11_near : mj_m := (11, false, cX11_near, 7, some .int, yX11_near)
def pX11_near : List (Nat × Instr × Nat) := [(0, .aload_n 0, 1), (1, .iload_n 1, 1), (2, .invokevirtual 160, 3), (5, .ifCond .eq 10, 3), (8, .iload_n 2, 1), (9, .invokestatic 254, 3), (12, .ifCond .ne 6, 3), (15, .ldc 250, 2), (17, .ireturn, 1), (18, .ldc 250, 2), (20, .istore_n 3, 1), (21, .ldc 250, 2), (23, .istore 4, 2), (25, .iconst 0, 1), (26, .istore 5, 2), (28, .iload 5, 2), (30, .bipush 19, 2), (32, .if_icmp .gt 78, 3), (35, .iload 5, 2), (37, .aload_n 0, 1), (38, .getfield 56, 3), (41, .getfield 170, 3), (44, .iload_n 1, 1), (45, .iaload, 1), (46, .if_icmp .eq 27, 3), (49, .aload_n 0, 1), (50, .getfield 56, 3), (53, .aload_n 0, 1), (54, .getfield 56, 3), (57, .getfield 167, 3), (60, .iload_n 1, 1), (61, .iaload, 1), (62, .iload 5, 2), (64, .invokevirtual 218, 3), (67, .ifCond .eq 6, 3), (70, .goto 34, 3), (73, .aload_n 0, 1), (74, .iload_n 1, 1), (75, .aload_n 0, 1), (76, .getfield 56, 3), (79, .getfield 167, 3), (82, .iload_n 1, 1), (83, .iaload, 1), (84, .iload 5, 2), (86, .invokevirtual 257, 3), (89, .istore 6, 2), (91, .iload 6, 2), (93, .iload_n 3, 1), (94, .if_icmp .le 10, 3), (97, .iload 6, 2), (99, .istore_n 3, 1), (100, .iload 5, 2), (102, .istore 4, 2), (104, .iinc 5 1, 3), (107, .goto (-79), 3), (110, .iload_n 2, 1), (111, .ifCond .ne 8, 3), (114, .iload 4, 2), (116, .goto 4, 3), (119, .iload_n 3, 1), (120, .ireturn, 1)]
set_option maxRecDepth 100000 in
theorem dX11_near : mj_pd cX11_near pX11_near := mj_pdB (by decide +kernel)
theorem fX11_near : mj_mf mX11_near := ⟨mj_t4 119 (by decide +kernel) rfl, mj_t1 1 (by decide +kernel) rfl, by decide, by decide, by decide⟩
theorem iX11_near : Cond.instanceMethod yX11_near ∈ mj_GW := mj_t4 117 (by decide +kernel) rfl
theorem vX11_near : Cond.selects (mj_own.getD 11 "") yX11_near yX11_near ∈ mj_GW := mj_t4 118 (by decide +kernel) rfl
def mX11_hold : mj_m := (11, false, cX11_hold, 8, some .int, yX11_hold)
def pX11_hold : List (Nat × Instr × Nat) := [(0, .aload_n 0, 1), (1, .iload_n 1, 1), (2, .invokevirtual 160, 3), (5, .ifCond .eq 10, 3), (8, .iload_n 2, 1), (9, .invokestatic 254, 3), (12, .ifCond .ne 6, 3), (15, .ldc 250, 2), (17, .ireturn, 1), (18, .ldc 250, 2), (20, .istore_n 3, 1), (21, .ldc 250, 2), (23, .istore 4, 2), (25, .aload_n 0, 1), (26, .getfield 42, 3), (29, .aload_n 0, 1), (30, .getfield 56, 3), (33, .invokevirtual 243, 3), (36, .istore 5, 2), (38, .aload_n 0, 1), (39, .getfield 62, 3), (42, .aload_n 0, 1), (43, .getfield 56, 3), (46, .invokevirtual 134, 3), (49, .iconst 0, 1), (50, .istore 6, 2), (52, .iload 6, 2), (54, .iload 5, 2), (56, .if_icmp .gt 79, 3), (59, .aload_n 0, 1), (60, .getfield 59, 3), (63, .aload_n 0, 1), (64, .getfield 62, 3), (67, .invokevirtual 134, 3), (70, .aload_n 0, 1), (71, .getfield 73, 3), (74, .aload_n 0, 1), (75, .getfield 42, 3), (78, .aload_n 0, 1), (79, .getfield 59, 3), (82, .iload_n 1, 1), (83, .invokevirtual 261, 3), (86, .aload_n 0, 1), (87, .getfield 42, 3), (90, .aload_n 0, 1), (91, .getfield 59, 3), (94, .iload_n 1, 1), (95, .invokevirtual 195, 3), (98, .istore 7, 2), (100, .iload 7, 2), (102, .iload_n 3, 1), (103, .if_icmp .le 10, 3), (106, .iload 7, 2), (108, .istore_n 3, 1), (109, .iload 6, 2), (111, .istore 4, 2), (113, .aload_n 0, 1), (114, .getfield 73, 3), (117, .aload_n 0, 1), (118, .getfield 42, 3), (121, .aload_n 0, 1), (122, .getfield 62, 3), (125, .iload_n 1, 1), (126, .invokevirtual 265, 3), (129, .iinc 6 1, 3), (132, .goto (-80), 3), (135, .iload_n 2, 1), (136, .ifCond .ne 8, 3), (139, .iload 4, 2), (141, .goto 4, 3), (144, .iload_n 3, 1), (145, .ireturn, 1)]
set_option maxRecDepth 100000 in
theorem dX11_hold : mj_pd cX11_hold pX11_hold := mj_pdB (by decide +kernel)
theorem fX11_hold : mj_mf mX11_hold := ⟨mj_t4 123 (by decide +kernel) rfl, mj_t1 1 (by decide +kernel) rfl, by decide, by decide, by decide⟩
theorem iX11_hold : Cond.instanceMethod yX11_hold ∈ mj_GW := mj_t4 121 (by decide +kernel) rfl
theorem vX11_hold : Cond.selects (mj_own.getD 11 "") yX11_hold yX11_hold ∈ mj_GW := mj_t4 122 (by decide +kernel) rfl
def mX11_row : mj_m := (11, false, cX11_row, 4, some .int, yX11_row)
def pX11_row : List (Nat × Instr × Nat) := [(0, .aload_n 0, 1), (1, .iload_n 1, 1), (2, .invokevirtual 160, 3), (5, .ifCond .eq 14, 3), (8, .iload_n 2, 1), (9, .iconst 1, 1), (10, .if_icmp .lt 9, 3), (13, .iload_n 2, 1), (14, .bipush 9, 2), (16, .if_icmp .le 6, 3), (19, .ldc 250, 2), (21, .ireturn, 1), (22, .aload_n 0, 1), (23, .getfield 56, 3), (26, .getfield 170, 3), (29, .iload_n 1, 1), (30, .iaload, 1), (31, .iload_n 2, 1), (32, .iadd, 1), (33, .istore_n 3, 1), (34, .aload_n 0, 1), (35, .getfield 56, 3), (38, .aload_n 0, 1), (39, .getfield 56, 3), (42, .getfield 167, 3), (45, .iload_n 1, 1), (46, .iaload, 1), (47, .iload_n 3, 1), (48, .invokevirtual 218, 3), (51, .ifCond .eq 6, 3), (54, .ldc 250, 2), (56, .ireturn, 1), (57, .aload_n 0, 1), (58, .iload_n 1, 1), (59, .aload_n 0, 1), (60, .getfield 56, 3), (63, .getfield 167, 3), (66, .iload_n 1, 1), (67, .iaload, 1), (68, .iload_n 3, 1), (69, .invokevirtual 257, 3), (72, .ireturn, 1)]
set_option maxRecDepth 100000 in
theorem dX11_row : mj_pd cX11_row pX11_row := mj_pdB (by decide +kernel)
theorem fX11_row : mj_mf mX11_row := ⟨mj_t4 135 (by decide +kernel) rfl, mj_t1 1 (by decide +kernel) rfl, by decide, by decide, by decide⟩
theorem iX11_row : Cond.instanceMethod yX11_row ∈ mj_GW := mj_t4 133 (by decide +kernel) rfl
theorem vX11_row : Cond.selects (mj_own.getD 11 "") yX11_row yX11_row ∈ mj_GW := mj_t4 134 (by decide +kernel) rfl
def mX11_scoreFrom : mj_m := (11, false, cX11_scoreFrom, 4, some .int, yX11_scoreFrom)
def pX11_scoreFrom : List (Nat × Instr × Nat) := [(0, .aload_n 0, 1), (1, .getfield 59, 3), (4, .aload_n 0, 1), (5, .getfield 56, 3), (8, .invokevirtual 134, 3), (11, .aload_n 0, 1), (12, .getfield 59, 3), (15, .getfield 167, 3), (18, .iload_n 1, 1), (19, .iload_n 2, 1), (20, .iastore, 1), (21, .aload_n 0, 1), (22, .getfield 59, 3), (25, .getfield 170, 3), (28, .iload_n 1, 1), (29, .iload_n 3, 1), (30, .iastore, 1), (31, .aload_n 0, 1), (32, .getfield 73, 3), (35, .aload_n 0, 1), (36, .getfield 42, 3), (39, .aload_n 0, 1), (40, .getfield 59, 3), (43, .invokevirtual 251, 3), (46, .aload_n 0, 1), (47, .getfield 42, 3), (50, .aload_n 0, 1), (51, .getfield 59, 3), (54, .iload_n 1, 1), (55, .invokevirtual 195, 3), (58, .ireturn, 1)]
set_option maxRecDepth 100000 in
theorem dX11_scoreFrom : mj_pd cX11_scoreFrom pX11_scoreFrom := mj_pdB (by decide +kernel)
theorem fX11_scoreFrom : mj_mf mX11_scoreFrom := ⟨mj_t4 115 (by decide +kernel) rfl, mj_t1 1 (by decide +kernel) rfl, by decide, by decide, by decide⟩
theorem iX11_scoreFrom : Cond.instanceMethod yX11_scoreFrom ∈ mj_GW := mj_t4 114 (by decide +kernel) rfl
theorem vX11_scoreFrom : Cond.selects (mj_own.getD 11 "") yX11_scoreFrom yX11_scoreFrom ∈ mj_GW := mj_p2 11 (by decide +kernel) rfl
def mX11_tides : mj_m := (11, false, cX11_tides, 2, some .int, yX11_tides)
def pX11_tides : List (Nat × Instr × Nat) := [(0, .aload_n 0, 1), (1, .invokevirtual 204, 3), (4, .ifCond .ne 5, 3), (7, .iconst (-1), 1), (8, .ireturn, 1), (9, .aload_n 0, 1), (10, .getfield 42, 3), (13, .getfield 208, 3), (16, .iconst 3, 1), (17, .iaload, 1), (18, .istore_n 1, 1), (19, .iload_n 1, 1), (20, .ifCond .ne 5, 3), (23, .iconst 0, 1), (24, .ireturn, 1), (25, .aload_n 0, 1), (26, .getfield 42, 3), (29, .getfield 208, 3), (32, .iconst 5, 1), (33, .iaload, 1), (34, .iload_n 1, 1), (35, .idiv, 1), (36, .aload_n 0, 1), (37, .getfield 56, 3), (40, .getfield 232, 3), (43, .iload_n 1, 1), (44, .idiv, 1), (45, .isub, 1), (46, .ireturn, 1)]
set_option maxRecDepth 100000 in
theorem dX11_tides : mj_pd cX11_tides pX11_tides := mj_pdB (by decide +kernel)
theorem fX11_tides : mj_mf mX11_tides := ⟨mj_t4 139 (by decide +kernel) rfl, mj_t1 1 (by decide +kernel) rfl, by decide, by decide, by decide⟩
theorem iX11_tides : Cond.instanceMethod yX11_tides ∈ mj_GW := mj_t4 137 (by decide +kernel) rfl
theorem vX11_tides : Cond.selects (mj_own.getD 11 "") yX11_tides yX11_tides ∈ mj_GW := mj_t4 138 (by decide +kernel) rfl
def mX11_sag : mj_m := (11, false, cX11_sag, 7, some .int, yX11_sag)
def pX11_sag : List (Nat × Instr × Nat) := [(0, .aload_n 0, 1), (1, .invokevirtual 204, 3), (4, .ifCond .eq 10, 3), (7, .iload_n 1, 1), (8, .invokestatic 254, 3), (11, .ifCond .ne 6, 3), (14, .ldc 250, 2), (16, .ireturn, 1), (17, .aload_n 0, 1), (18, .iconst 1, 1), (19, .invokevirtual 268, 3), (22, .istore_n 2, 1), (23, .aload_n 0, 1), (24, .getfield 56, 3), (27, .getfield 145, 3), (30, .iload_n 2, 1), (31, .isub, 1), (32, .istore_n 3, 1), (33, .iload_n 2, 1), (34, .ifCond .eq 7, 3), (37, .iload_n 3, 1), (38, .ifCond .ne 6, 3), (41, .ldc 250, 2), (43, .ireturn, 1), (44, .iconst 0, 1), (45, .istore 4, 2), (47, .iconst 0, 1), (48, .istore 5, 2), (50, .iload 5, 2), (52, .aload_n 0, 1), (53, .getfield 56, 3), (56, .getfield 145, 3), (59, .if_icmp .ge 63, 3), (62, .iload 4, 2), (64, .aload_n 0, 1), (65, .getfield 42, 3), (68, .aload_n 0, 1), (69, .getfield 56, 3), (72, .getfield 167, 3), (75, .iload 5, 2), (77, .iaload, 1), (78, .invokevirtual 271, 3), (81, .iconst 1, 1), (82, .if_icmp .ne 18, 3), (85, .aload_n 0, 1), (86, .getfield 56, 3), (89, .getfield 170, 3), (92, .iload 5, 2), (94, .iaload, 1), (95, .iload_n 3, 1), (96, .imul, 1), (97, .goto 16, 3), (100, .aload_n 0, 1), (101, .getfield 56, 3), (104, .getfield 170, 3), (107, .iload 5, 2), (109, .iaload, 1), (110, .ineg, 1), (111, .iload_n 2, 1), (112, .imul, 1), (113, .iadd, 1), (114, .istore 4, 2), (116, .iinc 5 1, 3), (119, .goto (-69), 3), (122, .iload_n 2, 1), (123, .iload_n 3, 1), (124, .imul, 1), (125, .istore 5, 2), (127, .iload 4, 2), (129, .ifCond .ge 9, 3), (132, .iload 4, 2), (134, .ineg, 1), (135, .goto 5, 3), (138, .iload 4, 2), (140, .iload 5, 2), (142, .invokestatic 274, 3), (145, .istore 6, 2), (147, .iload_n 1, 1), (148, .ifCond .ne 8, 3), (151, .iload 4, 2), (153, .goto 5, 3), (156, .iload 5, 2), (158, .iload 6, 2), (160, .idiv, 1), (161, .ireturn, 1)]
set_option maxRecDepth 100000 in
theorem dX11_sag : mj_pd cX11_sag pX11_sag := mj_pdB (by decide +kernel)
theorem fX11_sag : mj_mf mX11_sag := ⟨mj_t4 143 (by decide +kernel) rfl, mj_t1 1 (by decide +kernel) rfl, by decide, by decide, by decide⟩
theorem iX11_sag : Cond.instanceMethod yX11_sag ∈ mj_GW := mj_t4 141 (by decide +kernel) rfl
theorem vX11_sag : Cond.selects (mj_own.getD 11 "") yX11_sag yX11_sag ∈ mj_GW := mj_t4 142 (by decide +kernel) rfl
def mX11_greatestCommon : mj_m := (11, false, cX11_greatestCommon, 6, some .int, yX11_greatestCommon)
def pX11_greatestCommon : List (Nat × Instr × Nat) := [(0, .iload_n 0, 1), (1, .istore_n 2, 1), (2, .iload_n 1, 1), (3, .istore_n 3, 1), (4, .iconst 0, 1), (5, .istore 4, 2), (7, .iload 4, 2), (9, .bipush 64, 2), (11, .if_icmp .ge 23, 3), (14, .iload_n 3, 1), (15, .ifCond .eq 19, 3), (18, .iload_n 2, 1), (19, .iload_n 3, 1), (20, .irem, 1), (21, .istore 5, 2), (23, .iload_n 3, 1), (24, .istore_n 2, 1), (25, .iload 5, 2), (27, .istore_n 3, 1), (28, .iinc 4 1, 3), (31, .goto (-24), 3), (34, .iload_n 2, 1), (35, .iconst 1, 1), (36, .if_icmp .ge 7, 3), (39, .iconst 1, 1), (40, .goto 4, 3), (43, .iload_n 2, 1), (44, .ireturn, 1)]
set_option maxRecDepth 100000 in
theorem dX11_greatestCommon : mj_pd cX11_greatestCommon pX11_greatestCommon := mj_pdB (by decide +kernel)
theorem fX11_greatestCommon : mj_mf mX11_greatestCommon := ⟨mj_t4 154 (by decide +kernel) rfl, mj_t1 1 (by decide +kernel) rfl, by decide, by decide, by decide⟩
theorem sX11_greatestCommon : Cond.static yX11_greatestCommon ∈ mj_GW := mj_t4 153 (by decide +kernel) rfl
def mX11_heap : mj_m := (11, false, cX11_heap, 2, some .int, yX11_heap)
def pX11_heap : List (Nat × Instr × Nat) := [(0, .aload_n 0, 1), (1, .invokevirtual 204, 3), (4, .ifCond .eq 12, 3), (7, .iload_n 1, 1), (8, .ifCond .lt 8, 3), (11, .iload_n 1, 1), (12, .iconst 2, 1), (13, .if_icmp .le 5, 3), (16, .iconst (-1), 1), (17, .ireturn, 1), (18, .aload_n 0, 1), (19, .iload_n 1, 1), (20, .invokevirtual 268, 3), (23, .ireturn, 1)]
set_option maxRecDepth 100000 in
theorem dX11_heap : mj_pd cX11_heap pX11_heap := mj_pdB (by decide +kernel)
theorem fX11_heap : mj_mf mX11_heap := ⟨mj_t4 158 (by decide +kernel) rfl, mj_t1 1 (by decide +kernel) rfl, by decide, by decide, by decide⟩
theorem iX11_heap : Cond.instanceMethod yX11_heap ∈ mj_GW := mj_t4 156 (by decide +kernel) rfl
theorem vX11_heap : Cond.selects (mj_own.getD 11 "") yX11_heap yX11_heap ∈ mj_GW := mj_t4 157 (by decide +kernel) rfl
def mX11_boatsIn : mj_m := (11, false, cX11_boatsIn, 4, some .int, yX11_boatsIn)
def pX11_boatsIn : List (Nat × Instr × Nat) := [(0, .iconst 0, 1), (1, .istore_n 2, 1), (2, .iconst 0, 1), (3, .istore_n 3, 1), (4, .iload_n 3, 1), (5, .aload_n 0, 1), (6, .getfield 56, 3), (9, .getfield 145, 3), (12, .if_icmp .ge 32, 3), (15, .aload_n 0, 1), (16, .getfield 42, 3), (19, .aload_n 0, 1), (20, .getfield 56, 3), (23, .getfield 167, 3), (26, .iload_n 3, 1), (27, .iaload, 1), (28, .invokevirtual 271, 3), (31, .iload_n 1, 1), (32, .if_icmp .ne 6, 3), (35, .iinc 2 1, 3), (38, .iinc 3 1, 3), (41, .goto (-37), 3), (44, .iload_n 2, 1), (45, .ireturn, 1)]
set_option maxRecDepth 100000 in
theorem dX11_boatsIn : mj_pd cX11_boatsIn pX11_boatsIn := mj_pdB (by decide +kernel)
theorem fX11_boatsIn : mj_mf mX11_boatsIn := ⟨mj_t4 147 (by decide +kernel) rfl, mj_t1 1 (by decide +kernel) rfl, by decide, by decide, by decide⟩
theorem iX11_boatsIn : Cond.instanceMethod yX11_boatsIn ∈ mj_GW := mj_t4 146 (by decide +kernel) rfl
theorem vX11_boatsIn : Cond.selects (mj_own.getD 11 "") yX11_boatsIn yX11_boatsIn ∈ mj_GW := mj_p2 12 (by decide +kernel) rfl
def mX11_hole : mj_m := (11, false, cX11_hole, 4, some .int, yX11_hole)
def pX11_hole : List (Nat × Instr × Nat) := [(0, .aload_n 0, 1), (1, .iload_n 1, 1), (2, .invokevirtual 160, 3), (5, .ifCond .ne 5, 3), (8, .iconst (-1), 1), (9, .ireturn, 1), (10, .iconst 0, 1), (11, .istore_n 2, 1), (12, .aload_n 0, 1), (13, .getfield 56, 3), (16, .getfield 167, 3), (19, .iload_n 1, 1), (20, .iaload, 1), (21, .iconst 1, 1), (22, .isub, 1), (23, .istore_n 3, 1), (24, .iload_n 3, 1), (25, .ifCond .lt 35, 3), (28, .aload_n 0, 1), (29, .getfield 56, 3), (32, .iload_n 3, 1), (33, .aload_n 0, 1), (34, .getfield 56, 3), (37, .getfield 170, 3), (40, .iload_n 1, 1), (41, .iaload, 1), (42, .invokevirtual 218, 3), (45, .ifCond .eq 6, 3), (48, .goto 12, 3), (51, .iinc 2 1, 3), (54, .iinc 3 (-1), 3), (57, .goto (-33), 3), (60, .iload_n 2, 1), (61, .ireturn, 1)]
set_option maxRecDepth 100000 in
theorem dX11_hole : mj_pd cX11_hole pX11_hole := mj_pdB (by decide +kernel)
theorem fX11_hole : mj_mf mX11_hole := ⟨mj_t4 162 (by decide +kernel) rfl, mj_t1 1 (by decide +kernel) rfl, by decide, by decide, by decide⟩
theorem iX11_hole : Cond.instanceMethod yX11_hole ∈ mj_GW := mj_t4 160 (by decide +kernel) rfl
theorem vX11_hole : Cond.selects (mj_own.getD 11 "") yX11_hole yX11_hole ∈ mj_GW := mj_t4 161 (by decide +kernel) rfl
def mX11_keeps : mj_m := (11, false, cX11_keeps, 4, some .int, yX11_keeps)
def pX11_keeps : List (Nat × Instr × Nat) := [(0, .aload_n 0, 1), (1, .iload_n 1, 1), (2, .invokevirtual 160, 3), (5, .ifCond .ne 5, 3), (8, .iconst (-1), 1), (9, .ireturn, 1), (10, .aload_n 0, 1), (11, .getfield 59, 3), (14, .aload_n 0, 1), (15, .getfield 56, 3), (18, .invokevirtual 134, 3), (21, .aload_n 0, 1), (22, .getfield 42, 3), (25, .aload_n 0, 1), (26, .getfield 56, 3), (29, .invokevirtual 243, 3), (32, .istore_n 2, 1), (33, .iconst 0, 1), (34, .istore_n 3, 1), (35, .iload_n 3, 1), (36, .iload_n 2, 1), (37, .if_icmp .gt 37, 3), (40, .aload_n 0, 1), (41, .getfield 59, 3), (44, .iload_n 1, 1), (45, .invokevirtual 278, 3), (48, .ifCond .eq 5, 3), (51, .iload_n 3, 1), (52, .ireturn, 1), (53, .aload_n 0, 1), (54, .getfield 73, 3), (57, .aload_n 0, 1), (58, .getfield 42, 3), (61, .aload_n 0, 1), (62, .getfield 59, 3), (65, .invokevirtual 228, 3), (68, .iinc 3 1, 3), (71, .goto (-36), 3), (74, .iconst (-1), 1), (75, .ireturn, 1)]
set_option maxRecDepth 100000 in
theorem dX11_keeps : mj_pd cX11_keeps pX11_keeps := mj_pdB (by decide +kernel)
theorem fX11_keeps : mj_mf mX11_keeps := ⟨mj_t4 166 (by decide +kernel) rfl, mj_t1 1 (by decide +kernel) rfl, by decide, by decide, by decide⟩
theorem iX11_keeps : Cond.instanceMethod yX11_keeps ∈ mj_GW := mj_t4 164 (by decide +kernel) rfl
theorem vX11_keeps : Cond.selects (mj_own.getD 11 "") yX11_keeps yX11_keeps ∈ mj_GW := mj_t4 165 (by decide +kernel) rfl
def mX11_which : mj_m := (11, false, cX11_which, 4, some .int, yX11_which)
def pX11_which : List (Nat × Instr × Nat) := [(0, .aload_n 0, 1), (1, .invokevirtual 204, 3), (4, .ifCond .eq 12, 3), (7, .iload_n 1, 1), (8, .ifCond .lt 8, 3), (11, .iload_n 1, 1), (12, .iconst 2, 1), (13, .if_icmp .le 5, 3), (16, .iconst (-1), 1), (17, .ireturn, 1), (18, .iconst 0, 1), (19, .istore_n 2, 1), (20, .iconst 0, 1), (21, .istore_n 3, 1), (22, .iload_n 3, 1), (23, .aload_n 0, 1), (24, .getfield 56, 3), (27, .getfield 145, 3), (30, .if_icmp .ge 24, 3), (33, .aload_n 0, 1), (34, .iload_n 3, 1), (35, .iload_n 1, 1), (36, .invokevirtual 281, 3), (39, .ifCond .eq 9, 3), (42, .iload_n 2, 1), (43, .iconst 1, 1), (44, .iload_n 3, 1), (45, .ishl, 1), (46, .ior, 1), (47, .istore_n 2, 1), (48, .iinc 3 1, 3), (51, .goto (-29), 3), (54, .iload_n 2, 1), (55, .ireturn, 1)]
set_option maxRecDepth 100000 in
theorem dX11_which : mj_pd cX11_which pX11_which := mj_pdB (by decide +kernel)
theorem fX11_which : mj_mf mX11_which := ⟨mj_t4 171 (by decide +kernel) rfl, mj_t1 1 (by decide +kernel) rfl, by decide, by decide, by decide⟩
theorem iX11_which : Cond.instanceMethod yX11_which ∈ mj_GW := mj_t4 169 (by decide +kernel) rfl
theorem vX11_which : Cond.selects (mj_own.getD 11 "") yX11_which yX11_which ∈ mj_GW := mj_t4 170 (by decide +kernel) rfl
def mX11_isAmong : mj_m := (11, false, cX11_isAmong, 3, some .boolean, yX11_isAmong)
def pX11_isAmong : List (Nat × Instr × Nat) := [(0, .iload_n 2, 1), (1, .lookupswitch 62 #[(0, 27), (1, 44)], 27), (28, .aload_n 0, 1), (29, .getfield 56, 3), (32, .iload_n 1, 1), (33, .invokevirtual 284, 3), (36, .ifCond .ne 7, 3), (39, .iconst 1, 1), (40, .goto 4, 3), (43, .iconst 0, 1), (44, .ireturn, 1), (45, .aload_n 0, 1), (46, .getfield 56, 3), (49, .getfield 170, 3), (52, .iload_n 1, 1), (53, .iaload, 1), (54, .ifCond .ge 7, 3), (57, .iconst 1, 1), (58, .goto 4, 3), (61, .iconst 0, 1), (62, .ireturn, 1), (63, .aload_n 0, 1), (64, .getfield 42, 3), (67, .aload_n 0, 1), (68, .getfield 56, 3), (71, .iload_n 1, 1), (72, .invokevirtual 191, 3), (75, .iconst 2, 1), (76, .if_icmp .ne 7, 3), (79, .iconst 1, 1), (80, .goto 4, 3), (83, .iconst 0, 1), (84, .ireturn, 1)]
set_option maxRecDepth 100000 in
theorem dX11_isAmong : mj_pd cX11_isAmong pX11_isAmong := mj_pdB (by decide +kernel)
theorem fX11_isAmong : mj_mf mX11_isAmong := ⟨mj_t4 175 (by decide +kernel) rfl, mj_t1 1 (by decide +kernel) rfl, by decide, by decide, by decide⟩
theorem iX11_isAmong : Cond.instanceMethod yX11_isAmong ∈ mj_GW := mj_t4 174 (by decide +kernel) rfl
theorem vX11_isAmong : Cond.selects (mj_own.getD 11 "") yX11_isAmong yX11_isAmong ∈ mj_GW := mj_p2 13 (by decide +kernel) rfl
def mX11_rests : mj_m := (11, false, cX11_rests, 2, some .int, yX11_rests)
def pX11_rests : List (Nat × Instr × Nat) := [(0, .aload_n 0, 1), (1, .invokevirtual 204, 3), (4, .ifCond .ne 5, 3), (7, .iconst (-1), 1), (8, .ireturn, 1), (9, .aload_n 0, 1), (10, .getfield 56, 3), (13, .getfield 145, 3), (16, .iconst 5, 1), (17, .if_icmp .le 6, 3), (20, .ldc 250, 2), (22, .ireturn, 1), (23, .aload_n 0, 1), (24, .getfield 94, 3), (27, .aload_n 0, 1), (28, .getfield 56, 3), (31, .getfield 145, 3), (34, .aload_n 0, 1), (35, .getfield 42, 3), (38, .getfield 208, 3), (41, .iconst 2, 1), (42, .iaload, 1), (43, .aload_n 0, 1), (44, .getfield 42, 3), (47, .getfield 208, 3), (50, .iconst 1, 1), (51, .iaload, 1), (52, .invokevirtual 287, 3), (55, .iload_n 1, 1), (56, .iconst (-1), 1), (57, .if_icmp .ne 13, 3), (60, .aload_n 0, 1), (61, .getfield 94, 3), (64, .invokevirtual 291, 3), (67, .goto 11, 3), (70, .aload_n 0, 1), (71, .getfield 94, 3), (74, .iload_n 1, 1), (75, .invokevirtual 294, 3), (78, .ireturn, 1)]
set_option maxRecDepth 100000 in
theorem dX11_rests : mj_pd cX11_rests pX11_rests := mj_pdB (by decide +kernel)
theorem fX11_rests : mj_mf mX11_rests := ⟨mj_t4 180 (by decide +kernel) rfl, mj_t1 1 (by decide +kernel) rfl, by decide, by decide, by decide⟩
theorem iX11_rests : Cond.instanceMethod yX11_rests ∈ mj_GW := mj_t4 178 (by decide +kernel) rfl
theorem vX11_rests : Cond.selects (mj_own.getD 11 "") yX11_rests yX11_rests ∈ mj_GW := mj_t4 179 (by decide +kernel) rfl
def mX11_spread : mj_m := (11, false, cX11_spread, 6, some .int, yX11_spread)
def pX11_spread : List (Nat × Instr × Nat) := [(0, .aload_n 0, 1), (1, .invokevirtual 204, 3), (4, .ifCond .eq 10, 3), (7, .iload_n 1, 1), (8, .invokestatic 254, 3), (11, .ifCond .ne 5, 3), (14, .iconst (-1), 1), (15, .ireturn, 1), (16, .aload_n 0, 1), (17, .getfield 56, 3), (20, .getfield 145, 3), (23, .iconst 5, 1), (24, .if_icmp .le 6, 3), (27, .ldc 250, 2), (29, .ireturn, 1), (30, .bipush 9, 2), (32, .istore_n 2, 1), (33, .iconst 0, 1), (34, .istore_n 3, 1), (35, .iconst 0, 1), (36, .istore 4, 2), (38, .iload 4, 2), (40, .bipush 9, 2), (42, .if_icmp .gt 55, 3), (45, .aload_n 0, 1), (46, .getfield 94, 3), (49, .aload_n 0, 1), (50, .getfield 56, 3), (53, .getfield 145, 3), (56, .aload_n 0, 1), (57, .getfield 42, 3), (60, .getfield 208, 3), (63, .iconst 2, 1), (64, .iaload, 1), (65, .iload 4, 2), (67, .invokevirtual 287, 3), (70, .aload_n 0, 1), (71, .getfield 94, 3), (74, .invokevirtual 297, 3), (77, .istore 5, 2), (79, .iload 5, 2), (81, .iload_n 2, 1), (82, .if_icmp .ge 9, 3), (85, .iload 5, 2), (87, .istore_n 2, 1), (88, .iload 4, 2), (90, .istore_n 3, 1), (91, .iinc 4 1, 3), (94, .goto (-56), 3), (97, .iload_n 1, 1), (98, .ifCond .ne 7, 3), (101, .iload_n 3, 1), (102, .goto 4, 3), (105, .iload_n 2, 1), (106, .ireturn, 1)]
set_option maxRecDepth 100000 in
theorem dX11_spread : mj_pd cX11_spread pX11_spread := mj_pdB (by decide +kernel)
theorem fX11_spread : mj_mf mX11_spread := ⟨mj_t4 208 (by decide +kernel) rfl, mj_t1 1 (by decide +kernel) rfl, by decide, by decide, by decide⟩
theorem iX11_spread : Cond.instanceMethod yX11_spread ∈ mj_GW := mj_t4 206 (by decide +kernel) rfl
theorem vX11_spread : Cond.selects (mj_own.getD 11 "") yX11_spread yX11_spread ∈ mj_GW := mj_t4 207 (by decide +kernel) rfl
def mX11_duel : mj_m := (11, false, cX11_duel, 3, some .int, yX11_duel)
def pX11_duel : List (Nat × Instr × Nat) := [(0, .aload_n 0, 1), (1, .invokevirtual 204, 3), (4, .ifCond .eq 25, 3), (7, .aload_n 0, 1), (8, .getfield 19, 3), (11, .iload_n 1, 1), (12, .invokevirtual 300, 3), (15, .ifCond .eq 14, 3), (18, .aload_n 0, 1), (19, .getfield 19, 3), (22, .iload_n 2, 1), (23, .invokevirtual 300, 3), (26, .ifCond .ne 6, 3), (29, .ldc 250, 2), (31, .ireturn, 1), (32, .aload_n 0, 1), (33, .iload_n 1, 1), (34, .iload_n 2, 1), (35, .invokevirtual 303, 3), (38, .ireturn, 1)]
set_option maxRecDepth 100000 in
theorem dX11_duel : mj_pd cX11_duel pX11_duel := mj_pdB (by decide +kernel)
theorem fX11_duel : mj_mf mX11_duel := ⟨mj_t4 217 (by decide +kernel) rfl, mj_t1 1 (by decide +kernel) rfl, by decide, by decide, by decide⟩
theorem iX11_duel : Cond.instanceMethod yX11_duel ∈ mj_GW := mj_t4 215 (by decide +kernel) rfl
theorem vX11_duel : Cond.selects (mj_own.getD 11 "") yX11_duel yX11_duel ∈ mj_GW := mj_t4 216 (by decide +kernel) rfl
def mX11_duelOf : mj_m := (11, false, cX11_duelOf, 3, some .int, yX11_duelOf)
def pX11_duelOf : List (Nat × Instr × Nat) := [(0, .aload_n 0, 1), (1, .getfield 46, 3), (4, .aload_n 0, 1), (5, .getfield 42, 3), (8, .getfield 208, 3), (11, .iconst 5, 1), (12, .iaload, 1), (13, .invokevirtual 306, 3), (16, .aload_n 0, 1), (17, .getfield 59, 3), (20, .iload_n 1, 1), (21, .iload_n 2, 1), (22, .invokevirtual 309, 3), (25, .aload_n 0, 1), (26, .getfield 73, 3), (29, .aload_n 0, 1), (30, .getfield 46, 3), (33, .aload_n 0, 1), (34, .getfield 59, 3), (37, .invokevirtual 251, 3), (40, .aload_n 0, 1), (41, .getfield 46, 3), (44, .aload_n 0, 1), (45, .getfield 59, 3), (48, .iconst 0, 1), (49, .invokevirtual 195, 3), (52, .aload_n 0, 1), (53, .getfield 46, 3), (56, .aload_n 0, 1), (57, .getfield 59, 3), (60, .iconst 1, 1), (61, .invokevirtual 195, 3), (64, .isub, 1), (65, .ireturn, 1)]
set_option maxRecDepth 100000 in
theorem dX11_duelOf : mj_pd cX11_duelOf pX11_duelOf := mj_pdB (by decide +kernel)
theorem fX11_duelOf : mj_mf mX11_duelOf := ⟨mj_t4 222 (by decide +kernel) rfl, mj_t1 1 (by decide +kernel) rfl, by decide, by decide, by decide⟩
theorem iX11_duelOf : Cond.instanceMethod yX11_duelOf ∈ mj_GW := mj_t4 221 (by decide +kernel) rfl
theorem vX11_duelOf : Cond.selects (mj_own.getD 11 "") yX11_duelOf yX11_duelOf ∈ mj_GW := mj_p3 1 (by decide +kernel) rfl
def mX11_reply : mj_m := (11, false, cX11_reply, 6, some .int, yX11_reply)
def pX11_reply : List (Nat × Instr × Nat) := [(0, .aload_n 0, 1), (1, .invokevirtual 204, 3), (4, .ifCond .eq 14, 3), (7, .aload_n 0, 1), (8, .getfield 19, 3), (11, .iload_n 1, 1), (12, .invokevirtual 300, 3), (15, .ifCond .ne 5, 3), (18, .iconst (-1), 1), (19, .ireturn, 1), (20, .ldc 250, 2), (22, .istore_n 2, 1), (23, .iconst (-1), 1), (24, .istore_n 3, 1), (25, .iconst 0, 1), (26, .istore 4, 2), (28, .iload 4, 2), (30, .aload_n 0, 1), (31, .getfield 19, 3), (34, .getfield 148, 3), (37, .if_icmp .ge 30, 3), (40, .aload_n 0, 1), (41, .iload 4, 2), (43, .iload_n 1, 1), (44, .invokevirtual 303, 3), (47, .istore 5, 2), (49, .iload 5, 2), (51, .iload_n 2, 1), (52, .if_icmp .le 9, 3), (55, .iload 5, 2), (57, .istore_n 2, 1), (58, .iload 4, 2), (60, .istore_n 3, 1), (61, .iinc 4 1, 3), (64, .goto (-36), 3), (67, .iload_n 3, 1), (68, .ireturn, 1)]
set_option maxRecDepth 100000 in
theorem dX11_reply : mj_pd cX11_reply pX11_reply := mj_pdB (by decide +kernel)
theorem fX11_reply : mj_mf mX11_reply := ⟨mj_t4 239 (by decide +kernel) rfl, mj_t1 1 (by decide +kernel) rfl, by decide, by decide, by decide⟩
theorem iX11_reply : Cond.instanceMethod yX11_reply ∈ mj_GW := mj_t4 237 (by decide +kernel) rfl
theorem vX11_reply : Cond.selects (mj_own.getD 11 "") yX11_reply yX11_reply ∈ mj_GW := mj_t4 238 (by decide +kernel) rfl
def mX11_strong : mj_m := (11, false, cX11_strong, 6, some .int, yX11_strong)
def pX11_strong : List (Nat × Instr × Nat) := [(0, .aload_n 0, 1), (1, .invokevirtual 204, 3), (4, .ifCond .ne 5, 3), (7, .iconst (-1), 1), (8, .ireturn, 1), (9, .ldc 250, 2), (11, .istore_n 1, 1), (12, .iconst (-1), 1), (13, .istore_n 2, 1), (14, .iconst 0, 1), (15, .istore_n 3, 1), (16, .iload_n 3, 1), (17, .aload_n 0, 1), (18, .getfield 19, 3), (21, .getfield 148, 3), (24, .if_icmp .ge 56, 3), (27, .iconst 0, 1), (28, .istore 4, 2), (30, .iconst 0, 1), (31, .istore 5, 2), (33, .iload 5, 2), (35, .aload_n 0, 1), (36, .getfield 19, 3), (39, .getfield 148, 3), (42, .if_icmp .ge 21, 3), (45, .iload 4, 2), (47, .aload_n 0, 1), (48, .iload_n 3, 1), (49, .iload 5, 2), (51, .invokevirtual 303, 3), (54, .iadd, 1), (55, .istore 4, 2), (57, .iinc 5 1, 3), (60, .goto (-27), 3), (63, .iload 4, 2), (65, .iload_n 1, 1), (66, .if_icmp .le 8, 3), (69, .iload 4, 2), (71, .istore_n 1, 1), (72, .iload_n 3, 1), (73, .istore_n 2, 1), (74, .iinc 3 1, 3), (77, .goto (-61), 3), (80, .iload_n 2, 1), (81, .ireturn, 1)]
set_option maxRecDepth 100000 in
theorem dX11_strong : mj_pd cX11_strong pX11_strong := mj_pdB (by decide +kernel)
theorem fX11_strong : mj_mf mX11_strong := ⟨mj_t5 3 (by decide +kernel) rfl, mj_t1 1 (by decide +kernel) rfl, by decide, by decide, by decide⟩
theorem iX11_strong : Cond.instanceMethod yX11_strong ∈ mj_GW := mj_t5 1 (by decide +kernel) rfl
theorem vX11_strong : Cond.selects (mj_own.getD 11 "") yX11_strong yX11_strong ∈ mj_GW := mj_t5 2 (by decide +kernel) rfl
def mX11_picture : mj_m := (11, false, cX11_picture, 4, some .int, yX11_picture)
def pX11_picture : List (Nat × Instr × Nat) := [(0, .aload_n 0, 1), (1, .iload_n 1, 1), (2, .invokevirtual 160, 3), (5, .ifCond .eq 15, 3), (8, .aload_n 0, 1), (9, .getfield 101, 3), (12, .iload_n 2, 1), (13, .iload_n 3, 1), (14, .invokevirtual 312, 3), (17, .ifCond .ne 5, 3), (20, .iconst (-1), 1), (21, .ireturn, 1), (22, .aload_n 0, 1), (23, .getfield 101, 3), (26, .iload_n 1, 1), (27, .iload_n 2, 1), (28, .iload_n 3, 1), (29, .invokevirtual 315, 3), (32, .ireturn, 1)]
set_option maxRecDepth 100000 in
theorem dX11_picture : mj_pd cX11_picture pX11_picture := mj_pdB (by decide +kernel)
theorem fX11_picture : mj_mf mX11_picture := ⟨mj_t5 7 (by decide +kernel) rfl, mj_t1 1 (by decide +kernel) rfl, by decide, by decide, by decide⟩
theorem iX11_picture : Cond.instanceMethod yX11_picture ∈ mj_GW := mj_t5 5 (by decide +kernel) rfl
theorem vX11_picture : Cond.selects (mj_own.getD 11 "") yX11_picture yX11_picture ∈ mj_GW := mj_t5 6 (by decide +kernel) rfl
def mX11_was : mj_m := (11, false, cX11_was, 4, some .int, yX11_was)
def pX11_was : List (Nat × Instr × Nat) := [(0, .aload_n 0, 1), (1, .invokevirtual 204, 3), (4, .ifCond .eq 12, 3), (7, .iload_n 1, 1), (8, .ifCond .lt 8, 3), (11, .iload_n 1, 1), (12, .iconst 2, 1), (13, .if_icmp .le 5, 3), (16, .iconst (-1), 1), (17, .ireturn, 1), (18, .iconst 0, 1), (19, .istore_n 2, 1), (20, .iconst 0, 1), (21, .istore_n 3, 1), (22, .iload_n 3, 1), (23, .aload_n 0, 1), (24, .getfield 56, 3), (27, .getfield 145, 3), (30, .if_icmp .ge 27, 3), (33, .aload_n 0, 1), (34, .getfield 101, 3), (37, .iload_n 3, 1), (38, .iload_n 1, 1), (39, .invokevirtual 318, 3), (42, .ifCond .eq 9, 3), (45, .iload_n 2, 1), (46, .iconst 1, 1), (47, .iload_n 3, 1), (48, .ishl, 1), (49, .ior, 1), (50, .istore_n 2, 1), (51, .iinc 3 1, 3), (54, .goto (-32), 3), (57, .iload_n 2, 1), (58, .ireturn, 1)]
set_option maxRecDepth 100000 in
theorem dX11_was : mj_pd cX11_was pX11_was := mj_pdB (by decide +kernel)
theorem fX11_was : mj_mf mX11_was := ⟨mj_t5 19 (by decide +kernel) rfl, mj_t1 1 (by decide +kernel) rfl, by decide, by decide, by decide⟩
theorem iX11_was : Cond.instanceMethod yX11_was ∈ mj_GW := mj_t5 17 (by decide +kernel) rfl
theorem vX11_was : Cond.selects (mj_own.getD 11 "") yX11_was yX11_was ∈ mj_GW := mj_t5 18 (by decide +kernel) rfl
def mX11_race : mj_m := (11, false, cX11_race, 1, some .int, yX11_race)
def pX11_race : List (Nat × Instr × Nat) := [(0, .aload_n 0, 1), (1, .invokevirtual 204, 3), (4, .ifCond .eq 29, 3), (7, .aload_n 0, 1), (8, .getfield 42, 3), (11, .aload_n 0, 1), (12, .getfield 56, 3), (15, .invokevirtual 243, 3), (18, .ifCond .gt 15, 3), (21, .aload_n 0, 1), (22, .getfield 101, 3), (25, .getfield 321, 3), (28, .bipush 40, 2), (30, .if_icmp .lt 5, 3), (33, .iconst (-1), 1), (34, .ireturn, 1), (35, .aload_n 0, 1), (36, .getfield 101, 3), (39, .aload_n 0, 1), (40, .getfield 42, 3), (43, .aload_n 0, 1), (44, .getfield 56, 3), (47, .invokevirtual 324, 3), (50, .ireturn, 1)]
set_option maxRecDepth 100000 in
theorem dX11_race : mj_pd cX11_race pX11_race := mj_pdB (by decide +kernel)
theorem fX11_race : mj_mf mX11_race := ⟨mj_t5 27 (by decide +kernel) rfl, mj_t1 1 (by decide +kernel) rfl, by decide, by decide, by decide⟩
theorem iX11_race : Cond.instanceMethod yX11_race ∈ mj_GW := mj_t5 25 (by decide +kernel) rfl
theorem vX11_race : Cond.selects (mj_own.getD 11 "") yX11_race yX11_race ∈ mj_GW := mj_t5 26 (by decide +kernel) rfl
def mX11_points : mj_m := (11, false, cX11_points, 2, some .int, yX11_points)
def pX11_points : List (Nat × Instr × Nat) := [(0, .aload_n 0, 1), (1, .iload_n 1, 1), (2, .invokevirtual 160, 3), (5, .ifCond .eq 15, 3), (8, .aload_n 0, 1), (9, .getfield 101, 3), (12, .getfield 328, 3), (15, .iload_n 1, 1), (16, .iaload, 1), (17, .goto 4, 3), (20, .iconst (-1), 1), (21, .ireturn, 1)]
set_option maxRecDepth 100000 in
theorem dX11_points : mj_pd cX11_points pX11_points := mj_pdB (by decide +kernel)
theorem fX11_points : mj_mf mX11_points := ⟨mj_t5 36 (by decide +kernel) rfl, mj_t1 1 (by decide +kernel) rfl, by decide, by decide, by decide⟩
theorem iX11_points : Cond.instanceMethod yX11_points ∈ mj_GW := mj_t5 34 (by decide +kernel) rfl
theorem vX11_points : Cond.selects (mj_own.getD 11 "") yX11_points yX11_points ∈ mj_GW := mj_t5 35 (by decide +kernel) rfl
def mX11_champion : mj_m := (11, false, cX11_champion, 3, some .int, yX11_champion)
def pX11_champion : List (Nat × Instr × Nat) := [(0, .aload_n 0, 1), (1, .invokevirtual 204, 3), (4, .ifCond .eq 13, 3), (7, .aload_n 0, 1), (8, .getfield 101, 3), (11, .getfield 321, 3), (14, .ifCond .ne 5, 3), (17, .iconst (-1), 1), (18, .ireturn, 1), (19, .iconst 0, 1), (20, .istore_n 1, 1), (21, .iconst 1, 1), (22, .istore_n 2, 1), (23, .iload_n 2, 1), (24, .aload_n 0, 1), (25, .getfield 56, 3), (28, .getfield 145, 3), (31, .if_icmp .ge 32, 3), (34, .aload_n 0, 1), (35, .getfield 101, 3), (38, .getfield 328, 3), (41, .iload_n 2, 1), (42, .iaload, 1), (43, .aload_n 0, 1), (44, .getfield 101, 3), (47, .getfield 328, 3), (50, .iload_n 1, 1), (51, .iaload, 1), (52, .if_icmp .ge 5, 3), (55, .iload_n 2, 1), (56, .istore_n 1, 1), (57, .iinc 2 1, 3), (60, .goto (-37), 3), (63, .iload_n 1, 1), (64, .ireturn, 1)]
set_option maxRecDepth 100000 in
theorem dX11_champion : mj_pd cX11_champion pX11_champion := mj_pdB (by decide +kernel)
theorem fX11_champion : mj_mf mX11_champion := ⟨mj_t5 40 (by decide +kernel) rfl, mj_t1 1 (by decide +kernel) rfl, by decide, by decide, by decide⟩
theorem iX11_champion : Cond.instanceMethod yX11_champion ∈ mj_GW := mj_t5 38 (by decide +kernel) rfl
theorem vX11_champion : Cond.selects (mj_own.getD 11 "") yX11_champion yX11_champion ∈ mj_GW := mj_t5 39 (by decide +kernel) rfl
def mX11_season : mj_m := (11, false, cX11_season, 5, some .int, yX11_season)
def pX11_season : List (Nat × Instr × Nat) := [(0, .aload_n 0, 1), (1, .invokevirtual 204, 3), (4, .ifCond .eq 28, 3), (7, .iload_n 1, 1), (8, .iconst 1, 1), (9, .if_icmp .lt 23, 3), (12, .iload_n 1, 1), (13, .bipush 20, 2), (15, .if_icmp .gt 17, 3), (18, .aload_n 0, 1), (19, .getfield 101, 3), (22, .getfield 321, 3), (25, .iload_n 1, 1), (26, .iadd, 1), (27, .bipush 40, 2), (29, .if_icmp .le 5, 3), (32, .iconst (-1), 1), (33, .ireturn, 1), (34, .aload_n 0, 1), (35, .getfield 80, 3), (38, .lload_n 2, 1), (39, .invokevirtual 235, 3), (42, .iconst 0, 1), (43, .istore 4, 2), (45, .iload 4, 2), (47, .iload_n 1, 1), (48, .if_icmp .ge 71, 3), (51, .aload_n 0, 1), (52, .getfield 59, 3), (55, .aload_n 0, 1), (56, .getfield 52, 3), (59, .invokevirtual 134, 3), (62, .aload_n 0, 1), (63, .getfield 59, 3), (66, .aload_n 0, 1), (67, .getfield 80, 3), (70, .aload_n 0, 1), (71, .getfield 42, 3), (74, .getfield 208, 3), (77, .iconst 0, 1), (78, .iaload, 1), (79, .invokevirtual 331, 3), (82, .aload_n 0, 1), (83, .getfield 73, 3), (86, .aload_n 0, 1), (87, .getfield 42, 3), (90, .aload_n 0, 1), (91, .getfield 59, 3), (94, .invokevirtual 251, 3), (97, .aload_n 0, 1), (98, .getfield 101, 3), (101, .aload_n 0, 1), (102, .getfield 42, 3), (105, .aload_n 0, 1), (106, .getfield 59, 3), (109, .invokevirtual 324, 3), (112, .pop, 1), (113, .iinc 4 1, 3), (116, .goto (-71), 3), (119, .aload_n 0, 1), (120, .getfield 101, 3), (123, .getfield 321, 3), (126, .ireturn, 1)]
set_option maxRecDepth 100000 in
theorem dX11_season : mj_pd cX11_season pX11_season := mj_pdB (by decide +kernel)
theorem fX11_season : mj_mf mX11_season := ⟨mj_t5 44 (by decide +kernel) rfl, mj_t1 1 (by decide +kernel) rfl, by decide, by decide, by decide⟩
theorem iX11_season : Cond.instanceMethod yX11_season ∈ mj_GW := mj_t5 42 (by decide +kernel) rfl
theorem vX11_season : Cond.selects (mj_own.getD 11 "") yX11_season yX11_season ∈ mj_GW := mj_t5 43 (by decide +kernel) rfl
def mX11_flag : mj_m := (11, false, cX11_flag, 4, some .int, yX11_flag)
def pX11_flag : List (Nat × Instr × Nat) := [(0, .aload_n 0, 1), (1, .iload_n 1, 1), (2, .invokevirtual 160, 3), (5, .ifCond .ne 5, 3), (8, .iconst (-1), 1), (9, .ireturn, 1), (10, .aload_n 0, 1), (11, .getfield 59, 3), (14, .aload_n 0, 1), (15, .getfield 56, 3), (18, .invokevirtual 134, 3), (21, .aload_n 0, 1), (22, .getfield 73, 3), (25, .aload_n 0, 1), (26, .getfield 42, 3), (29, .aload_n 0, 1), (30, .getfield 59, 3), (33, .invokevirtual 251, 3), (36, .aload_n 0, 1), (37, .getfield 46, 3), (40, .aload_n 0, 1), (41, .getfield 42, 3), (44, .invokevirtual 129, 3), (47, .aload_n 0, 1), (48, .getfield 46, 3), (51, .getfield 208, 3), (54, .bipush 6, 2), (56, .iconst 0, 1), (57, .iastore, 1), (58, .aload_n 0, 1), (59, .getfield 46, 3), (62, .aload_n 0, 1), (63, .getfield 59, 3), (66, .iload_n 1, 1), (67, .invokevirtual 198, 3), (70, .istore_n 2, 1), (71, .aload_n 0, 1), (72, .getfield 46, 3), (75, .getfield 208, 3), (78, .bipush 6, 2), (80, .iconst 1, 1), (81, .iastore, 1), (82, .aload_n 0, 1), (83, .getfield 46, 3), (86, .aload_n 0, 1), (87, .getfield 59, 3), (90, .iload_n 1, 1), (91, .invokevirtual 198, 3), (94, .istore_n 3, 1), (95, .iload_n 3, 1), (96, .iload_n 2, 1), (97, .if_icmp .ge 7, 3), (100, .iconst 1, 1), (101, .goto 4, 3), (104, .iconst 0, 1), (105, .ireturn, 1)]
set_option maxRecDepth 100000 in
theorem dX11_flag : mj_pd cX11_flag pX11_flag := mj_pdB (by decide +kernel)
theorem fX11_flag : mj_mf mX11_flag := ⟨mj_t5 57 (by decide +kernel) rfl, mj_t1 1 (by decide +kernel) rfl, by decide, by decide, by decide⟩
theorem iX11_flag : Cond.instanceMethod yX11_flag ∈ mj_GW := mj_t5 55 (by decide +kernel) rfl
theorem vX11_flag : Cond.selects (mj_own.getD 11 "") yX11_flag yX11_flag ∈ mj_GW := mj_t5 56 (by decide +kernel) rfl
def mX11_image : mj_m := (11, false, cX11_image, 1, some .int, yX11_image)
def pX11_image : List (Nat × Instr × Nat) := [(0, .aload_n 0, 1), (1, .invokevirtual 204, 3), (4, .ifCond .ne 5, 3), (7, .iconst (-1), 1), (8, .ireturn, 1), (9, .aload_n 0, 1), (10, .getfield 65, 3), (13, .aload_n 0, 1), (14, .getfield 56, 3), (17, .invokevirtual 134, 3), (20, .aload_n 0, 1), (21, .iconst 1, 1), (22, .putfield 141, 3), (25, .aload_n 0, 1), (26, .getfield 56, 3), (29, .getfield 232, 3), (32, .ireturn, 1)]
set_option maxRecDepth 100000 in
theorem dX11_image : mj_pd cX11_image pX11_image := mj_pdB (by decide +kernel)
theorem fX11_image : mj_mf mX11_image := ⟨mj_t5 61 (by decide +kernel) rfl, mj_t1 1 (by decide +kernel) rfl, by decide, by decide, by decide⟩
theorem iX11_image : Cond.instanceMethod yX11_image ∈ mj_GW := mj_t5 59 (by decide +kernel) rfl
theorem vX11_image : Cond.selects (mj_own.getD 11 "") yX11_image yX11_image ∈ mj_GW := mj_t5 60 (by decide +kernel) rfl
def mX11_back : mj_m := (11, false, cX11_back, 1, some .int, yX11_back)
def pX11_back : List (Nat × Instr × Nat) := [(0, .aload_n 0, 1), (1, .getfield 141, 3), (4, .ifCond .ne 5, 3), (7, .iconst (-1), 1), (8, .ireturn, 1), (9, .aload_n 0, 1), (10, .getfield 56, 3), (13, .aload_n 0, 1), (14, .getfield 65, 3), (17, .invokevirtual 134, 3), (20, .aload_n 0, 1), (21, .getfield 87, 3), (24, .invokevirtual 137, 3), (27, .aload_n 0, 1), (28, .getfield 56, 3), (31, .getfield 232, 3), (34, .ireturn, 1)]
set_option maxRecDepth 100000 in
theorem dX11_back : mj_pd cX11_back pX11_back := mj_pdB (by decide +kernel)
theorem fX11_back : mj_mf mX11_back := ⟨mj_t5 65 (by decide +kernel) rfl, mj_t1 1 (by decide +kernel) rfl, by decide, by decide, by decide⟩
theorem iX11_back : Cond.instanceMethod yX11_back ∈ mj_GW := mj_t5 63 (by decide +kernel) rfl
theorem vX11_back : Cond.selects (mj_own.getD 11 "") yX11_back yX11_back ∈ mj_GW := mj_t5 64 (by decide +kernel) rfl
def mX11_count : mj_m := (11, false, cX11_count, 2, some .int, yX11_count)
def pX11_count : List (Nat × Instr × Nat) := [(0, .iload_n 1, 1), (1, .tableswitch 108 0 7 #[47, 55, 63, 71, 79, 84, 92, 100], 47), (48, .aload_n 0, 1), (49, .getfield 56, 3), (52, .getfield 145, 3), (55, .ireturn, 1), (56, .aload_n 0, 1), (57, .getfield 19, 3), (60, .getfield 148, 3), (63, .ireturn, 1), (64, .aload_n 0, 1), (65, .getfield 10, 3), (68, .getfield 109, 3), (71, .ireturn, 1), (72, .aload_n 0, 1), (73, .getfield 56, 3), (76, .getfield 232, 3), (79, .ireturn, 1), (80, .aload_n 0, 1), (81, .getfield 222, 3), (84, .ireturn, 1), (85, .aload_n 0, 1), (86, .getfield 101, 3), (89, .getfield 335, 3), (92, .ireturn, 1), (93, .aload_n 0, 1), (94, .getfield 101, 3), (97, .getfield 321, 3), (100, .ireturn, 1), (101, .aload_n 0, 1), (102, .getfield 87, 3), (105, .getfield 214, 3), (108, .ireturn, 1), (109, .ldc 250, 2), (111, .ireturn, 1)]
set_option maxRecDepth 100000 in
theorem dX11_count : mj_pd cX11_count pX11_count := mj_pdB (by decide +kernel)
theorem fX11_count : mj_mf mX11_count := ⟨mj_t5 69 (by decide +kernel) rfl, mj_t1 1 (by decide +kernel) rfl, by decide, by decide, by decide⟩
theorem iX11_count : Cond.instanceMethod yX11_count ∈ mj_GW := mj_t5 67 (by decide +kernel) rfl
theorem vX11_count : Cond.selects (mj_own.getD 11 "") yX11_count yX11_count ∈ mj_GW := mj_t5 68 (by decide +kernel) rfl
def mX11_hasWater : mj_m := (11, false, cX11_hasWater, 1, some .boolean, yX11_hasWater)
def pX11_hasWater : List (Nat × Instr × Nat) := [(0, .aload_n 0, 1), (1, .getfield 56, 3), (4, .getfield 145, 3), (7, .ifCond .le 7, 3), (10, .iconst 1, 1), (11, .goto 4, 3), (14, .iconst 0, 1), (15, .ireturn, 1)]
set_option maxRecDepth 100000 in
theorem dX11_hasWater : mj_pd cX11_hasWater pX11_hasWater := mj_pdB (by decide +kernel)
theorem fX11_hasWater : mj_mf mX11_hasWater := ⟨mj_t3 150 (by decide +kernel) rfl, mj_t1 1 (by decide +kernel) rfl, by decide, by decide, by decide⟩
theorem iX11_hasWater : Cond.instanceMethod yX11_hasWater ∈ mj_GW := mj_t3 149 (by decide +kernel) rfl
theorem vX11_hasWater : Cond.selects (mj_own.getD 11 "") yX11_hasWater yX11_hasWater ∈ mj_GW := mj_p2 1 (by decide +kernel) rfl
def mX11_isBoat : mj_m := (11, false, cX11_isBoat, 2, some .boolean, yX11_isBoat)
def pX11_isBoat : List (Nat × Instr × Nat) := [(0, .iload_n 1, 1), (1, .ifCond .lt 18, 3), (4, .iload_n 1, 1), (5, .aload_n 0, 1), (6, .getfield 56, 3), (9, .getfield 145, 3), (12, .if_icmp .ge 7, 3), (15, .iconst 1, 1), (16, .goto 4, 3), (19, .iconst 0, 1), (20, .ireturn, 1)]
set_option maxRecDepth 100000 in
theorem dX11_isBoat : mj_pd cX11_isBoat pX11_isBoat := mj_pdB (by decide +kernel)
theorem fX11_isBoat : mj_mf mX11_isBoat := ⟨mj_t3 158 (by decide +kernel) rfl, mj_t1 1 (by decide +kernel) rfl, by decide, by decide, by decide⟩
theorem iX11_isBoat : Cond.instanceMethod yX11_isBoat ∈ mj_GW := mj_t3 157 (by decide +kernel) rfl
theorem vX11_isBoat : Cond.selects (mj_own.getD 11 "") yX11_isBoat yX11_isBoat ∈ mj_GW := mj_p2 2 (by decide +kernel) rfl
def mX11_isChoice : mj_m := (11, false, cX11_isChoice, 1, some .boolean, yX11_isChoice)
def pX11_isChoice : List (Nat × Instr × Nat) := [(0, .iload_n 0, 1), (1, .ifCond .eq 8, 3), (4, .iload_n 0, 1), (5, .iconst 1, 1), (6, .if_icmp .ne 7, 3), (9, .iconst 1, 1), (10, .goto 4, 3), (13, .iconst 0, 1), (14, .ireturn, 1)]
set_option maxRecDepth 100000 in
theorem dX11_isChoice : mj_pd cX11_isChoice pX11_isChoice := mj_pdB (by decide +kernel)
theorem fX11_isChoice : mj_mf mX11_isChoice := ⟨mj_t4 111 (by decide +kernel) rfl, mj_t1 1 (by decide +kernel) rfl, by decide, by decide, by decide⟩
theorem sX11_isChoice : Cond.static yX11_isChoice ∈ mj_GW := mj_t4 110 (by decide +kernel) rfl
def mX12_in : mj_m := (12, false, cX12_in, 3, some .boolean, yX12_in)
def pX12_in : List (Nat × Instr × Nat) := [(0, .iload_n 0, 1), (1, .iload_n 1, 1), (2, .if_icmp .lt 12, 3), (5, .iload_n 0, 1), (6, .iload_n 2, 1), (7, .if_icmp .gt 7, 3), (10, .iconst 1, 1), (11, .goto 4, 3), (14, .iconst 0, 1), (15, .ireturn, 1)]
set_option maxRecDepth 100000 in
theorem dX12_in : mj_pd cX12_in pX12_in := mj_pdB (by decide +kernel)
theorem fX12_in : mj_mf mX12_in := ⟨mj_t6 106 (by decide +kernel) rfl, mj_t1 13 (by decide +kernel) rfl, by decide, by decide, by decide⟩
theorem sX12_in : Cond.static yX12_in ∈ mj_GW := mj_t6 105 (by decide +kernel) rfl
def mX12_has : mj_m := (12, false, cX12_has, 2, some .boolean, yX12_has)
def pX12_has : List (Nat × Instr × Nat) := [(0, .iload_n 0, 1), (1, .iload_n 1, 1), (2, .ishr, 1), (3, .iconst 1, 1), (4, .iand, 1), (5, .iconst 1, 1), (6, .if_icmp .ne 7, 3), (9, .iconst 1, 1), (10, .goto 4, 3), (13, .iconst 0, 1), (14, .ireturn, 1)]
set_option maxRecDepth 100000 in
theorem dX12_has : mj_pd cX12_has pX12_has := mj_pdB (by decide +kernel)
theorem fX12_has : mj_mf mX12_has := ⟨mj_t6 86 (by decide +kernel) rfl, mj_t1 13 (by decide +kernel) rfl, by decide, by decide, by decide⟩
theorem sX12_has : Cond.static yX12_has ∈ mj_GW := mj_t6 85 (by decide +kernel) rfl
def mX12_thrown : mj_m := (12, false, cX12_thrown, 1, some .int, yX12_thrown)
def pX12_thrown : List (Nat × Instr × Nat) := [(0, .aload_n 0, 1), (1, .getfield 99, 3), (4, .ireturn, 1)]
set_option maxRecDepth 100000 in
theorem dX12_thrown : mj_pd cX12_thrown pX12_thrown := mj_pdB (by decide +kernel)
theorem fX12_thrown : mj_mf mX12_thrown := ⟨mj_t6 46 (by decide +kernel) rfl, mj_t1 13 (by decide +kernel) rfl, by decide, by decide, by decide⟩
theorem iX12_thrown : Cond.instanceMethod yX12_thrown ∈ mj_GW := mj_t6 44 (by decide +kernel) rfl
theorem vX12_thrown : Cond.selects (mj_own.getD 12 "") yX12_thrown yX12_thrown ∈ mj_GW := mj_t6 45 (by decide +kernel) rfl
def mX12_byteOf : mj_m := (12, false, cX12_byteOf, 7, some .int, yX12_byteOf)
def pX12_byteOf : List (Nat × Instr × Nat) := [(0, .iload 5, 2), (2, .iconst 4, 1), (3, .if_icmp .ge 7, 3), (6, .iload_n 0, 1), (7, .goto 38, 3), (10, .iload 5, 2), (12, .bipush 8, 2), (14, .if_icmp .ge 7, 3), (17, .iload_n 1, 1), (18, .goto 27, 3), (21, .iload 5, 2), (23, .bipush 12, 2), (25, .if_icmp .ge 7, 3), (28, .iload_n 2, 1), (29, .goto 16, 3), (32, .iload 5, 2), (34, .bipush 16, 2), (36, .if_icmp .ge 7, 3), (39, .iload_n 3, 1), (40, .goto 5, 3), (43, .iload 4, 2), (45, .istore 6, 2), (47, .iload 6, 2), (49, .bipush 24, 2), (51, .bipush 8, 2), (53, .iload 5, 2), (55, .iconst 4, 1), (56, .irem, 1), (57, .imul, 1), (58, .isub, 1), (59, .ishr, 1), (60, .sipush 255, 3), (63, .iand, 1), (64, .ireturn, 1)]
set_option maxRecDepth 100000 in
theorem dX12_byteOf : mj_pd cX12_byteOf pX12_byteOf := mj_pdB (by decide +kernel)
theorem fX12_byteOf : mj_mf mX12_byteOf := ⟨mj_t6 53 (by decide +kernel) rfl, mj_t1 13 (by decide +kernel) rfl, by decide, by decide, by decide⟩
theorem sX12_byteOf : Cond.static yX12_byteOf ∈ mj_GW := mj_t6 52 (by decide +kernel) rfl
def mX12_feed : mj_m := (12, false, cX12_feed, 9, some .int, yX12_feed)
def pX12_feed : List (Nat × Instr × Nat) := [(0, .iconst 0, 1), (1, .istore 6, 2), (3, .iconst 0, 1), (4, .istore 7, 2), (6, .iload 7, 2), (8, .bipush 20, 2), (10, .if_icmp .ge 34, 3), (13, .iload 6, 2), (15, .iload_n 1, 1), (16, .iload_n 2, 1), (17, .iload_n 3, 1), (18, .iload 4, 2), (20, .iload 5, 2), (22, .iload 7, 2), (24, .invokestatic 102, 3), (27, .ifCond .eq 7, 3), (30, .iconst 1, 1), (31, .goto 4, 3), (34, .iconst 0, 1), (35, .iadd, 1), (36, .istore 6, 2), (38, .iinc 7 1, 3), (41, .goto (-35), 3), (44, .aload_n 0, 1), (45, .getfield 106, 3), (48, .iload 6, 2), (50, .iadd, 1), (51, .sipush 240, 3), (54, .if_icmp .le 5, 3), (57, .iconst (-1), 1), (58, .ireturn, 1), (59, .iconst 0, 1), (60, .istore 7, 2), (62, .iload 7, 2), (64, .bipush 20, 2), (66, .if_icmp .ge 49, 3), (69, .iload_n 1, 1), (70, .iload_n 2, 1), (71, .iload_n 3, 1), (72, .iload 4, 2), (74, .iload 5, 2), (76, .iload 7, 2), (78, .invokestatic 102, 3), (81, .istore 8, 2), (83, .iload 8, 2), (85, .ifCond .eq 24, 3), (88, .aload_n 0, 1), (89, .getfield 9, 3), (92, .aload_n 0, 1), (93, .getfield 106, 3), (96, .iload 8, 2), (98, .iastore, 1), (99, .aload_n 0, 1), (100, .dup, 1), (101, .getfield 106, 3), (104, .iconst 1, 1), (105, .iadd, 1), (106, .putfield 106, 3), (109, .iinc 7 1, 3), (112, .goto (-50), 3), (115, .aload_n 0, 1), (116, .getfield 106, 3), (119, .ireturn, 1)]
set_option maxRecDepth 100000 in
theorem dX12_feed : mj_pd cX12_feed pX12_feed := mj_pdB (by decide +kernel)
theorem fX12_feed : mj_mf mX12_feed := ⟨mj_t6 50 (by decide +kernel) rfl, mj_t1 13 (by decide +kernel) rfl, by decide, by decide, by decide⟩
theorem iX12_feed : Cond.instanceMethod yX12_feed ∈ mj_GW := mj_t6 48 (by decide +kernel) rfl
theorem vX12_feed : Cond.selects (mj_own.getD 12 "") yX12_feed yX12_feed ∈ mj_GW := mj_t6 49 (by decide +kernel) rfl
def mX12_end : mj_m := (12, false, cX12_end, 2, some .boolean, yX12_end)
def pX12_end : List (Nat × Instr × Nat) := [(0, .iload_n 1, 1), (1, .ifCond .lt 11, 3), (4, .iload_n 1, 1), (5, .aload_n 0, 1), (6, .getfield 106, 3), (9, .if_icmp .le 5, 3), (12, .iconst 0, 1), (13, .ireturn, 1), (14, .aload_n 0, 1), (15, .iload_n 1, 1), (16, .putfield 106, 3), (19, .iconst 1, 1), (20, .ireturn, 1)]
set_option maxRecDepth 100000 in
theorem dX12_end : mj_pd cX12_end pX12_end := mj_pdB (by decide +kernel)
theorem fX12_end : mj_mf mX12_end := ⟨mj_t6 57 (by decide +kernel) rfl, mj_t1 13 (by decide +kernel) rfl, by decide, by decide, by decide⟩
theorem iX12_end : Cond.instanceMethod yX12_end ∈ mj_GW := mj_t6 55 (by decide +kernel) rfl
theorem vX12_end : Cond.selects (mj_own.getD 12 "") yX12_end yX12_end ∈ mj_GW := mj_t6 56 (by decide +kernel) rfl
def mX12_here : mj_m := (12, false, cX12_here, 1, some .int, yX12_here)
def pX12_here : List (Nat × Instr × Nat) := [(0, .aload_n 0, 1), (1, .getfield 109, 3), (4, .aload_n 0, 1), (5, .getfield 106, 3), (8, .if_icmp .ge 15, 3), (11, .aload_n 0, 1), (12, .getfield 9, 3), (15, .aload_n 0, 1), (16, .getfield 109, 3), (19, .iaload, 1), (20, .goto 4, 3), (23, .iconst (-1), 1), (24, .ireturn, 1)]
set_option maxRecDepth 100000 in
theorem dX12_here : mj_pd cX12_here pX12_here := mj_pdB (by decide +kernel)
theorem fX12_here : mj_mf mX12_here := ⟨mj_t6 73 (by decide +kernel) rfl, mj_t1 13 (by decide +kernel) rfl, by decide, by decide, by decide⟩
theorem iX12_here : Cond.instanceMethod yX12_here ∈ mj_GW := mj_t6 72 (by decide +kernel) rfl
theorem vX12_here : Cond.selects (mj_own.getD 12 "") yX12_here yX12_here ∈ mj_GW := mj_p3 7 (by decide +kernel) rfl
def mX12_look : mj_m := (12, false, cX12_look, 1, some .int, yX12_look)
def pX12_look : List (Nat × Instr × Nat) := [(0, .aload_n 0, 1), (1, .invokevirtual 112, 3), (4, .bipush 32, 2), (6, .if_icmp .ne 16, 3), (9, .aload_n 0, 1), (10, .dup, 1), (11, .getfield 109, 3), (14, .iconst 1, 1), (15, .iadd, 1), (16, .putfield 109, 3), (19, .goto (-19), 3), (22, .aload_n 0, 1), (23, .invokevirtual 112, 3), (26, .ireturn, 1)]
set_option maxRecDepth 100000 in
theorem dX12_look : mj_pd cX12_look pX12_look := mj_pdB (by decide +kernel)
theorem fX12_look : mj_mf mX12_look := ⟨mj_t6 69 (by decide +kernel) rfl, mj_t1 13 (by decide +kernel) rfl, by decide, by decide, by decide⟩
theorem iX12_look : Cond.instanceMethod yX12_look ∈ mj_GW := mj_t6 68 (by decide +kernel) rfl
theorem vX12_look : Cond.selects (mj_own.getD 12 "") yX12_look yX12_look ∈ mj_GW := mj_p3 6 (by decide +kernel) rfl
def mX12_bad : mj_m := (12, false, cX12_bad, 1, none, yX12_bad)
def pX12_bad : List (Nat × Instr × Nat) := [(0, .aload_n 0, 1), (1, .aload_n 0, 1), (2, .getfield 116, 3), (5, .iconst (-1), 1), (6, .if_icmp .ne 10, 3), (9, .aload_n 0, 1), (10, .getfield 109, 3), (13, .goto 7, 3), (16, .aload_n 0, 1), (17, .getfield 116, 3), (20, .putfield 116, 3), (23, .return_, 1)]
set_option maxRecDepth 100000 in
theorem dX12_bad : mj_pd cX12_bad pX12_bad := mj_pdB (by decide +kernel)
theorem fX12_bad : mj_mf mX12_bad := ⟨mj_t6 103 (by decide +kernel) rfl, mj_t1 13 (by decide +kernel) rfl, by decide, by decide, by decide⟩
theorem iX12_bad : Cond.instanceMethod yX12_bad ∈ mj_GW := mj_t6 102 (by decide +kernel) rfl
theorem vX12_bad : Cond.selects (mj_own.getD 12 "") yX12_bad yX12_bad ∈ mj_GW := mj_p3 10 (by decide +kernel) rfl
def mX12_isDigit : mj_m := (12, false, cX12_isDigit, 1, some .boolean, yX12_isDigit)
def pX12_isDigit : List (Nat × Instr × Nat) := [(0, .iload_n 0, 1), (1, .bipush 48, 2), (3, .if_icmp .lt 13, 3), (6, .iload_n 0, 1), (7, .bipush 57, 2), (9, .if_icmp .gt 7, 3), (12, .iconst 1, 1), (13, .goto 4, 3), (16, .iconst 0, 1), (17, .ireturn, 1)]
set_option maxRecDepth 100000 in
theorem dX12_isDigit : mj_pd cX12_isDigit pX12_isDigit := mj_pdB (by decide +kernel)
theorem fX12_isDigit : mj_mf mX12_isDigit := ⟨mj_t6 99 (by decide +kernel) rfl, mj_t1 13 (by decide +kernel) rfl, by decide, by decide, by decide⟩
theorem sX12_isDigit : Cond.static yX12_isDigit ∈ mj_GW := mj_t6 98 (by decide +kernel) rfl
def mX12_put : mj_m := (12, false, cX12_put, 3, none, yX12_put)
def pX12_put : List (Nat × Instr × Nat) := [(0, .aload_n 0, 1), (1, .getfield 13, 3), (4, .sipush 520, 3), (7, .aload_n 0, 1), (8, .getfield 119, 3), (11, .imul, 1), (12, .aload_n 0, 1), (13, .getfield 19, 3), (16, .aload_n 0, 1), (17, .getfield 119, 3), (20, .iaload, 1), (21, .iadd, 1), (22, .iload_n 1, 1), (23, .iastore, 1), (24, .aload_n 0, 1), (25, .getfield 16, 3), (28, .sipush 520, 3), (31, .aload_n 0, 1), (32, .getfield 119, 3), (35, .imul, 1), (36, .aload_n 0, 1), (37, .getfield 19, 3), (40, .aload_n 0, 1), (41, .getfield 119, 3), (44, .iaload, 1), (45, .iadd, 1), (46, .iload_n 2, 1), (47, .iastore, 1), (48, .aload_n 0, 1), (49, .getfield 19, 3), (52, .aload_n 0, 1), (53, .getfield 119, 3), (56, .dup2, 1), (57, .iaload, 1), (58, .iconst 1, 1), (59, .iadd, 1), (60, .iastore, 1), (61, .return_, 1)]
set_option maxRecDepth 100000 in
theorem dX12_put : mj_pd cX12_put pX12_put := mj_pdB (by decide +kernel)
theorem fX12_put : mj_mf mX12_put := ⟨mj_t6 138 (by decide +kernel) rfl, mj_t1 13 (by decide +kernel) rfl, by decide, by decide, by decide⟩
theorem iX12_put : Cond.instanceMethod yX12_put ∈ mj_GW := mj_t6 137 (by decide +kernel) rfl
theorem vX12_put : Cond.selects (mj_own.getD 12 "") yX12_put yX12_put ∈ mj_GW := mj_p4 2 (by decide +kernel) rfl
def mX12_letterOf : mj_m := (12, false, cX12_letterOf, 1, some .int, yX12_letterOf)
def pX12_letterOf : List (Nat × Instr × Nat) := [(0, .iload_n 0, 1), (1, .bipush 98, 2), (3, .if_icmp .ne 7, 3), (6, .iconst 0, 1), (7, .goto 65, 3), (10, .iload_n 0, 1), (11, .bipush 116, 2), (13, .if_icmp .ne 7, 3), (16, .iconst 1, 1), (17, .goto 55, 3), (20, .iload_n 0, 1), (21, .bipush 118, 2), (23, .if_icmp .ne 7, 3), (26, .iconst 2, 1), (27, .goto 45, 3), (30, .iload_n 0, 1), (31, .bipush 120, 2), (33, .if_icmp .ne 7, 3), (36, .iconst 3, 1), (37, .goto 35, 3), (40, .iload_n 0, 1), (41, .bipush 99, 2), (43, .if_icmp .ne 7, 3), (46, .iconst 4, 1), (47, .goto 25, 3), (50, .iload_n 0, 1), (51, .bipush 119, 2), (53, .if_icmp .ne 7, 3), (56, .iconst 5, 1), (57, .goto 15, 3), (60, .iload_n 0, 1), (61, .bipush 108, 2), (63, .if_icmp .ne 8, 3), (66, .bipush 6, 2), (68, .goto 4, 3), (71, .iconst (-1), 1), (72, .ireturn, 1)]
set_option maxRecDepth 100000 in
theorem dX12_letterOf : mj_pd cX12_letterOf pX12_letterOf := mj_pdB (by decide +kernel)
theorem fX12_letterOf : mj_mf mX12_letterOf := ⟨mj_t6 161 (by decide +kernel) rfl, mj_t1 13 (by decide +kernel) rfl, by decide, by decide, by decide⟩
theorem sX12_letterOf : Cond.static yX12_letterOf ∈ mj_GW := mj_t6 160 (by decide +kernel) rfl
def mX12_opens : mj_m := (12, false, cX12_opens, 1, none, yX12_opens)
def pX12_opens : List (Nat × Instr × Nat) := [(0, .aload_n 0, 1), (1, .getfield 122, 3), (4, .bipush 6, 2), (6, .if_icmp .ne 7, 3), (9, .aload_n 0, 1), (10, .invokevirtual 125, 3), (13, .aload_n 0, 1), (14, .dup, 1), (15, .getfield 122, 3), (18, .iconst 1, 1), (19, .iadd, 1), (20, .putfield 122, 3), (23, .aload_n 0, 1), (24, .dup, 1), (25, .getfield 109, 3), (28, .iconst 1, 1), (29, .iadd, 1), (30, .putfield 109, 3), (33, .return_, 1)]
set_option maxRecDepth 100000 in
theorem dX12_opens : mj_pd cX12_opens pX12_opens := mj_pdB (by decide +kernel)
theorem fX12_opens : mj_mf mX12_opens := ⟨mj_t6 134 (by decide +kernel) rfl, mj_t1 13 (by decide +kernel) rfl, by decide, by decide, by decide⟩
theorem iX12_opens : Cond.instanceMethod yX12_opens ∈ mj_GW := mj_t6 133 (by decide +kernel) rfl
theorem vX12_opens : Cond.selects (mj_own.getD 12 "") yX12_opens yX12_opens ∈ mj_GW := mj_p4 1 (by decide +kernel) rfl
def mX12_closes : mj_m := (12, false, cX12_closes, 2, none, yX12_closes)
def pX12_closes : List (Nat × Instr × Nat) := [(0, .aload_n 0, 1), (1, .getfield 116, 3), (4, .iconst (-1), 1), (5, .if_icmp .ne 15, 3), (8, .aload_n 0, 1), (9, .invokevirtual 128, 3), (12, .iload_n 1, 1), (13, .if_icmp .eq 7, 3), (16, .aload_n 0, 1), (17, .invokevirtual 125, 3), (20, .aload_n 0, 1), (21, .dup, 1), (22, .getfield 109, 3), (25, .iconst 1, 1), (26, .iadd, 1), (27, .putfield 109, 3), (30, .aload_n 0, 1), (31, .dup, 1), (32, .getfield 122, 3), (35, .iconst 1, 1), (36, .isub, 1), (37, .putfield 122, 3), (40, .return_, 1)]
set_option maxRecDepth 100000 in
theorem dX12_closes : mj_pd cX12_closes pX12_closes := mj_pdB (by decide +kernel)
theorem fX12_closes : mj_mf mX12_closes := ⟨mj_t6 142 (by decide +kernel) rfl, mj_t1 13 (by decide +kernel) rfl, by decide, by decide, by decide⟩
theorem iX12_closes : Cond.instanceMethod yX12_closes ∈ mj_GW := mj_t6 141 (by decide +kernel) rfl
theorem vX12_closes : Cond.selects (mj_own.getD 12 "") yX12_closes yX12_closes ∈ mj_GW := mj_p4 3 (by decide +kernel) rfl
def mX12_plainNumber : mj_m := (12, false, cX12_plainNumber, 3, some .int, yX12_plainNumber)
def pX12_plainNumber : List (Nat × Instr × Nat) := [(0, .iconst 0, 1), (1, .istore_n 1, 1), (2, .iconst 0, 1), (3, .istore_n 2, 1), (4, .iload_n 2, 1), (5, .iconst 4, 1), (6, .if_icmp .ge 42, 3), (9, .aload_n 0, 1), (10, .invokevirtual 112, 3), (13, .invokestatic 131, 3), (16, .ifCond .eq 32, 3), (19, .bipush 10, 2), (21, .iload_n 1, 1), (22, .imul, 1), (23, .aload_n 0, 1), (24, .invokevirtual 112, 3), (27, .iadd, 1), (28, .bipush 48, 2), (30, .isub, 1), (31, .istore_n 1, 1), (32, .aload_n 0, 1), (33, .dup, 1), (34, .getfield 109, 3), (37, .iconst 1, 1), (38, .iadd, 1), (39, .putfield 109, 3), (42, .iinc 2 1, 3), (45, .goto (-41), 3), (48, .aload_n 0, 1), (49, .invokevirtual 112, 3), (52, .invokestatic 131, 3), (55, .ifCond .eq 7, 3), (58, .aload_n 0, 1), (59, .invokevirtual 125, 3), (62, .iload_n 1, 1), (63, .ireturn, 1)]
set_option maxRecDepth 100000 in
theorem dX12_plainNumber : mj_pd cX12_plainNumber pX12_plainNumber := mj_pdB (by decide +kernel)
theorem fX12_plainNumber : mj_mf mX12_plainNumber := ⟨mj_t6 158 (by decide +kernel) rfl, mj_t1 13 (by decide +kernel) rfl, by decide, by decide, by decide⟩
theorem iX12_plainNumber : Cond.instanceMethod yX12_plainNumber ∈ mj_GW := mj_t6 157 (by decide +kernel) rfl
theorem vX12_plainNumber : Cond.selects (mj_own.getD 12 "") yX12_plainNumber yX12_plainNumber ∈ mj_GW := mj_p4 7 (by decide +kernel) rfl
def mX12_atom : mj_m := (12, false, cX12_atom, 2, none, yX12_atom)
def pX12_atom : List (Nat × Instr × Nat) := [(0, .aload_n 0, 1), (1, .invokevirtual 128, 3), (4, .istore_n 1, 1), (5, .iload_n 1, 1), (6, .invokestatic 131, 3), (9, .ifCond .eq 15, 3), (12, .aload_n 0, 1), (13, .iconst 0, 1), (14, .aload_n 0, 1), (15, .invokevirtual 135, 3), (18, .invokevirtual 138, 3), (21, .goto 68, 3), (24, .iload_n 1, 1), (25, .invokestatic 142, 3), (28, .iconst (-1), 1), (29, .if_icmp .eq 25, 3), (32, .aload_n 0, 1), (33, .dup, 1), (34, .getfield 109, 3), (37, .iconst 1, 1), (38, .iadd, 1), (39, .putfield 109, 3), (42, .aload_n 0, 1), (43, .iconst 1, 1), (44, .iload_n 1, 1), (45, .invokestatic 142, 3), (48, .invokevirtual 138, 3), (51, .goto 38, 3), (54, .iload_n 1, 1), (55, .bipush 91, 2), (57, .if_icmp .ne 28, 3), (60, .aload_n 0, 1), (61, .invokevirtual 146, 3), (64, .aload_n 0, 1), (65, .getfield 116, 3), (68, .iconst (-1), 1), (69, .if_icmp .ne 20, 3), (72, .aload_n 0, 1), (73, .invokevirtual 149, 3), (76, .aload_n 0, 1), (77, .bipush 93, 2), (79, .invokevirtual 152, 3), (82, .goto 7, 3), (85, .aload_n 0, 1), (86, .invokevirtual 125, 3), (89, .return_, 1)]
set_option maxRecDepth 100000 in
theorem dX12_atom : mj_pd cX12_atom pX12_atom := mj_pdB (by decide +kernel)
theorem fX12_atom : mj_mf mX12_atom := ⟨mj_t6 154 (by decide +kernel) rfl, mj_t1 13 (by decide +kernel) rfl, by decide, by decide, by decide⟩
theorem iX12_atom : Cond.instanceMethod yX12_atom ∈ mj_GW := mj_t6 153 (by decide +kernel) rfl
theorem vX12_atom : Cond.selects (mj_own.getD 12 "") yX12_atom yX12_atom ∈ mj_GW := mj_p4 6 (by decide +kernel) rfl
def mX12_term : mj_m := (12, false, cX12_term, 2, none, yX12_term)
def pX12_term : List (Nat × Instr × Nat) := [(0, .aload_n 0, 1), (1, .invokevirtual 156, 3), (4, .aload_n 0, 1), (5, .getfield 116, 3), (8, .iconst (-1), 1), (9, .if_icmp .ne 10, 3), (12, .aload_n 0, 1), (13, .invokevirtual 128, 3), (16, .goto 4, 3), (19, .iconst (-1), 1), (20, .istore_n 1, 1), (21, .iload_n 1, 1), (22, .bipush 42, 2), (24, .if_icmp .eq 9, 3), (27, .iload_n 1, 1), (28, .bipush 47, 2), (30, .if_icmp .ne 53, 3), (33, .aload_n 0, 1), (34, .dup, 1), (35, .getfield 109, 3), (38, .iconst 1, 1), (39, .iadd, 1), (40, .putfield 109, 3), (43, .aload_n 0, 1), (44, .invokevirtual 156, 3), (47, .aload_n 0, 1), (48, .iload_n 1, 1), (49, .bipush 42, 2), (51, .if_icmp .ne 7, 3), (54, .iconst 4, 1), (55, .goto 4, 3), (58, .iconst 5, 1), (59, .iconst 0, 1), (60, .invokevirtual 138, 3), (63, .aload_n 0, 1), (64, .getfield 116, 3), (67, .iconst (-1), 1), (68, .if_icmp .ne 10, 3), (71, .aload_n 0, 1), (72, .invokevirtual 128, 3), (75, .goto 4, 3), (78, .iconst (-1), 1), (79, .istore_n 1, 1), (80, .goto (-59), 3), (83, .return_, 1)]
set_option maxRecDepth 100000 in
theorem dX12_term : mj_pd cX12_term pX12_term := mj_pdB (by decide +kernel)
theorem fX12_term : mj_mf mX12_term := ⟨mj_t6 150 (by decide +kernel) rfl, mj_t1 13 (by decide +kernel) rfl, by decide, by decide, by decide⟩
theorem iX12_term : Cond.instanceMethod yX12_term ∈ mj_GW := mj_t6 149 (by decide +kernel) rfl
theorem vX12_term : Cond.selects (mj_own.getD 12 "") yX12_term yX12_term ∈ mj_GW := mj_p4 5 (by decide +kernel) rfl
def mX12_sum : mj_m := (12, false, cX12_sum, 2, none, yX12_sum)
def pX12_sum : List (Nat × Instr × Nat) := [(0, .aload_n 0, 1), (1, .invokevirtual 159, 3), (4, .aload_n 0, 1), (5, .getfield 116, 3), (8, .iconst (-1), 1), (9, .if_icmp .ne 10, 3), (12, .aload_n 0, 1), (13, .invokevirtual 128, 3), (16, .goto 4, 3), (19, .iconst (-1), 1), (20, .istore_n 1, 1), (21, .iload_n 1, 1), (22, .bipush 43, 2), (24, .if_icmp .eq 9, 3), (27, .iload_n 1, 1), (28, .bipush 45, 2), (30, .if_icmp .ne 53, 3), (33, .aload_n 0, 1), (34, .dup, 1), (35, .getfield 109, 3), (38, .iconst 1, 1), (39, .iadd, 1), (40, .putfield 109, 3), (43, .aload_n 0, 1), (44, .invokevirtual 159, 3), (47, .aload_n 0, 1), (48, .iload_n 1, 1), (49, .bipush 43, 2), (51, .if_icmp .ne 7, 3), (54, .iconst 2, 1), (55, .goto 4, 3), (58, .iconst 3, 1), (59, .iconst 0, 1), (60, .invokevirtual 138, 3), (63, .aload_n 0, 1), (64, .getfield 116, 3), (67, .iconst (-1), 1), (68, .if_icmp .ne 10, 3), (71, .aload_n 0, 1), (72, .invokevirtual 128, 3), (75, .goto 4, 3), (78, .iconst (-1), 1), (79, .istore_n 1, 1), (80, .goto (-59), 3), (83, .return_, 1)]
set_option maxRecDepth 100000 in
theorem dX12_sum : mj_pd cX12_sum pX12_sum := mj_pdB (by decide +kernel)
theorem fX12_sum : mj_mf mX12_sum := ⟨mj_t6 146 (by decide +kernel) rfl, mj_t1 13 (by decide +kernel) rfl, by decide, by decide, by decide⟩
theorem iX12_sum : Cond.instanceMethod yX12_sum ∈ mj_GW := mj_t6 145 (by decide +kernel) rfl
theorem vX12_sum : Cond.selects (mj_own.getD 12 "") yX12_sum yX12_sum ∈ mj_GW := mj_p4 4 (by decide +kernel) rfl
def mX12_isSign : mj_m := (12, false, cX12_isSign, 1, some .boolean, yX12_isSign)
def pX12_isSign : List (Nat × Instr × Nat) := [(0, .iload_n 0, 1), (1, .bipush 61, 2), (3, .if_icmp .eq 15, 3), (6, .iload_n 0, 1), (7, .bipush 60, 2), (9, .if_icmp .eq 9, 3), (12, .iload_n 0, 1), (13, .bipush 62, 2), (15, .if_icmp .ne 7, 3), (18, .iconst 1, 1), (19, .goto 4, 3), (22, .iconst 0, 1), (23, .ireturn, 1)]
set_option maxRecDepth 100000 in
theorem dX12_isSign : mj_pd cX12_isSign pX12_isSign := mj_pdB (by decide +kernel)
theorem fX12_isSign : mj_mf mX12_isSign := ⟨mj_t6 168 (by decide +kernel) rfl, mj_t1 13 (by decide +kernel) rfl, by decide, by decide, by decide⟩
theorem sX12_isSign : Cond.static yX12_isSign ∈ mj_GW := mj_t6 167 (by decide +kernel) rfl
def mX12_compare : mj_m := (12, false, cX12_compare, 2, none, yX12_compare)
def pX12_compare : List (Nat × Instr × Nat) := [(0, .aload_n 0, 1), (1, .getfield 116, 3), (4, .iconst (-1), 1), (5, .if_icmp .ne 10, 3), (8, .aload_n 0, 1), (9, .invokevirtual 128, 3), (12, .goto 4, 3), (15, .iconst (-1), 1), (16, .istore_n 1, 1), (17, .iload_n 1, 1), (18, .invokestatic 162, 3), (21, .ifCond .ne 8, 3), (24, .aload_n 0, 1), (25, .invokevirtual 125, 3), (28, .return_, 1), (29, .aload_n 0, 1), (30, .dup, 1), (31, .getfield 109, 3), (34, .iconst 1, 1), (35, .iadd, 1), (36, .putfield 109, 3), (39, .aload_n 0, 1), (40, .invokevirtual 149, 3), (43, .aload_n 0, 1), (44, .iload_n 1, 1), (45, .bipush 61, 2), (47, .if_icmp .ne 8, 3), (50, .bipush 6, 2), (52, .goto 16, 3), (55, .iload_n 1, 1), (56, .bipush 60, 2), (58, .if_icmp .ne 8, 3), (61, .bipush 7, 2), (63, .goto 5, 3), (66, .bipush 8, 2), (68, .iconst 0, 1), (69, .invokevirtual 138, 3), (72, .return_, 1)]
set_option maxRecDepth 100000 in
theorem dX12_compare : mj_pd cX12_compare pX12_compare := mj_pdB (by decide +kernel)
theorem fX12_compare : mj_mf mX12_compare := ⟨mj_t6 165 (by decide +kernel) rfl, mj_t1 13 (by decide +kernel) rfl, by decide, by decide, by decide⟩
theorem iX12_compare : Cond.instanceMethod yX12_compare ∈ mj_GW := mj_t6 164 (by decide +kernel) rfl
theorem vX12_compare : Cond.selects (mj_own.getD 12 "") yX12_compare yX12_compare ∈ mj_GW := mj_p4 8 (by decide +kernel) rfl
def mX12_unit : mj_m := (12, false, cX12_unit, 2, none, yX12_unit)
def pX12_unit : List (Nat × Instr × Nat) := [(0, .aload_n 0, 1), (1, .invokevirtual 128, 3), (4, .istore_n 1, 1), (5, .iload_n 1, 1), (6, .bipush 33, 2), (8, .if_icmp .ne 39, 3), (11, .aload_n 0, 1), (12, .invokevirtual 146, 3), (15, .aload_n 0, 1), (16, .getfield 116, 3), (19, .iconst (-1), 1), (20, .if_icmp .ne 74, 3), (23, .aload_n 0, 1), (24, .invokevirtual 165, 3), (27, .aload_n 0, 1), (28, .bipush 9, 2), (30, .iconst 0, 1), (31, .invokevirtual 138, 3), (34, .aload_n 0, 1), (35, .dup, 1), (36, .getfield 122, 3), (39, .iconst 1, 1), (40, .isub, 1), (41, .putfield 122, 3), (44, .goto 50, 3), (47, .iload_n 1, 1), (48, .bipush 40, 2), (50, .if_icmp .ne 28, 3), (53, .aload_n 0, 1), (54, .invokevirtual 146, 3), (57, .aload_n 0, 1), (58, .getfield 116, 3), (61, .iconst (-1), 1), (62, .if_icmp .ne 32, 3), (65, .aload_n 0, 1), (66, .invokevirtual 168, 3), (69, .aload_n 0, 1), (70, .bipush 41, 2), (72, .invokevirtual 152, 3), (75, .goto 19, 3), (78, .aload_n 0, 1), (79, .invokevirtual 149, 3), (82, .aload_n 0, 1), (83, .getfield 116, 3), (86, .iconst (-1), 1), (87, .if_icmp .ne 7, 3), (90, .aload_n 0, 1), (91, .invokevirtual 171, 3), (94, .return_, 1)]
set_option maxRecDepth 100000 in
theorem dX12_unit : mj_pd cX12_unit pX12_unit := mj_pdB (by decide +kernel)
theorem fX12_unit : mj_mf mX12_unit := ⟨mj_t6 130 (by decide +kernel) rfl, mj_t1 13 (by decide +kernel) rfl, by decide, by decide, by decide⟩
theorem iX12_unit : Cond.instanceMethod yX12_unit ∈ mj_GW := mj_t6 129 (by decide +kernel) rfl
theorem vX12_unit : Cond.selects (mj_own.getD 12 "") yX12_unit yX12_unit ∈ mj_GW := mj_p4 0 (by decide +kernel) rfl
def mX12_goOnAnd : mj_m := (12, false, cX12_goOnAnd, 1, none, yX12_goOnAnd)
def pX12_goOnAnd : List (Nat × Instr × Nat) := [(0, .aload_n 0, 1), (1, .getfield 116, 3), (4, .iconst (-1), 1), (5, .if_icmp .ne 36, 3), (8, .aload_n 0, 1), (9, .invokevirtual 128, 3), (12, .bipush 38, 2), (14, .if_icmp .ne 27, 3), (17, .aload_n 0, 1), (18, .dup, 1), (19, .getfield 109, 3), (22, .iconst 1, 1), (23, .iadd, 1), (24, .putfield 109, 3), (27, .aload_n 0, 1), (28, .invokevirtual 165, 3), (31, .aload_n 0, 1), (32, .bipush 10, 2), (34, .iconst 0, 1), (35, .invokevirtual 138, 3), (38, .goto (-38), 3), (41, .return_, 1)]
set_option maxRecDepth 100000 in
theorem dX12_goOnAnd : mj_pd cX12_goOnAnd pX12_goOnAnd := mj_pdB (by decide +kernel)
theorem fX12_goOnAnd : mj_mf mX12_goOnAnd := ⟨mj_t6 172 (by decide +kernel) rfl, mj_t1 13 (by decide +kernel) rfl, by decide, by decide, by decide⟩
theorem iX12_goOnAnd : Cond.instanceMethod yX12_goOnAnd ∈ mj_GW := mj_t6 171 (by decide +kernel) rfl
theorem vX12_goOnAnd : Cond.selects (mj_own.getD 12 "") yX12_goOnAnd yX12_goOnAnd ∈ mj_GW := mj_p4 9 (by decide +kernel) rfl
def mX12_goOnOr : mj_m := (12, false, cX12_goOnOr, 1, none, yX12_goOnOr)
def pX12_goOnOr : List (Nat × Instr × Nat) := [(0, .aload_n 0, 1), (1, .getfield 116, 3), (4, .iconst (-1), 1), (5, .if_icmp .ne 40, 3), (8, .aload_n 0, 1), (9, .invokevirtual 128, 3), (12, .bipush 124, 2), (14, .if_icmp .ne 31, 3), (17, .aload_n 0, 1), (18, .dup, 1), (19, .getfield 109, 3), (22, .iconst 1, 1), (23, .iadd, 1), (24, .putfield 109, 3), (27, .aload_n 0, 1), (28, .invokevirtual 165, 3), (31, .aload_n 0, 1), (32, .invokevirtual 174, 3), (35, .aload_n 0, 1), (36, .bipush 11, 2), (38, .iconst 0, 1), (39, .invokevirtual 138, 3), (42, .goto (-42), 3), (45, .return_, 1)]
set_option maxRecDepth 100000 in
theorem dX12_goOnOr : mj_pd cX12_goOnOr pX12_goOnOr := mj_pdB (by decide +kernel)
theorem fX12_goOnOr : mj_mf mX12_goOnOr := ⟨mj_t6 176 (by decide +kernel) rfl, mj_t1 13 (by decide +kernel) rfl, by decide, by decide, by decide⟩
theorem iX12_goOnOr : Cond.instanceMethod yX12_goOnOr ∈ mj_GW := mj_t6 175 (by decide +kernel) rfl
theorem vX12_goOnOr : Cond.selects (mj_own.getD 12 "") yX12_goOnOr yX12_goOnOr ∈ mj_GW := mj_p4 10 (by decide +kernel) rfl
def mX12_condition : mj_m := (12, false, cX12_condition, 1, none, yX12_condition)
def pX12_condition : List (Nat × Instr × Nat) := [(0, .aload_n 0, 1), (1, .invokevirtual 165, 3), (4, .aload_n 0, 1), (5, .invokevirtual 174, 3), (8, .aload_n 0, 1), (9, .invokevirtual 177, 3), (12, .return_, 1)]
set_option maxRecDepth 100000 in
theorem dX12_condition : mj_pd cX12_condition pX12_condition := mj_pdB (by decide +kernel)
theorem fX12_condition : mj_mf mX12_condition := ⟨mj_t6 126 (by decide +kernel) rfl, mj_t1 13 (by decide +kernel) rfl, by decide, by decide, by decide⟩
theorem iX12_condition : Cond.instanceMethod yX12_condition ∈ mj_GW := mj_t6 125 (by decide +kernel) rfl
theorem vX12_condition : Cond.selects (mj_own.getD 12 "") yX12_condition yX12_condition ∈ mj_GW := mj_p3 15 (by decide +kernel) rfl
def mX12_clause : mj_m := (12, false, cX12_clause, 3, none, yX12_clause)
def pX12_clause : List (Nat × Instr × Nat) := [(0, .sipush 140, 3), (3, .aload_n 0, 1), (4, .getfield 119, 3), (7, .imul, 1), (8, .aload_n 0, 1), (9, .getfield 22, 3), (12, .aload_n 0, 1), (13, .getfield 119, 3), (16, .iaload, 1), (17, .iadd, 1), (18, .istore_n 1, 1), (19, .aload_n 0, 1), (20, .getfield 116, 3), (23, .iconst (-1), 1), (24, .if_icmp .ne 16, 3), (27, .aload_n 0, 1), (28, .invokevirtual 128, 3), (31, .bipush 121, 2), (33, .if_icmp .eq 7, 3), (36, .aload_n 0, 1), (37, .invokevirtual 125, 3), (40, .aload_n 0, 1), (41, .dup, 1), (42, .getfield 109, 3), (45, .iconst 1, 1), (46, .iadd, 1), (47, .putfield 109, 3), (50, .aload_n 0, 1), (51, .getfield 116, 3), (54, .iconst (-1), 1), (55, .if_icmp .ne 16, 3), (58, .aload_n 0, 1), (59, .invokevirtual 128, 3), (62, .bipush 58, 2), (64, .if_icmp .eq 7, 3), (67, .aload_n 0, 1), (68, .invokevirtual 125, 3), (71, .aload_n 0, 1), (72, .dup, 1), (73, .getfield 109, 3), (76, .iconst 1, 1), (77, .iadd, 1), (78, .putfield 109, 3), (81, .aload_n 0, 1), (82, .getfield 116, 3), (85, .iconst (-1), 1), (86, .if_icmp .eq 4, 3), (89, .return_, 1), (90, .aload_n 0, 1), (91, .getfield 25, 3), (94, .iload_n 1, 1), (95, .aload_n 0, 1), (96, .getfield 19, 3), (99, .aload_n 0, 1), (100, .getfield 119, 3), (103, .iaload, 1), (104, .iastore, 1), (105, .aload_n 0, 1), (106, .invokevirtual 128, 3), (109, .bipush 33, 2), (111, .if_icmp .eq 12, 3), (114, .aload_n 0, 1), (115, .invokevirtual 128, 3), (118, .bipush 40, 2), (120, .if_icmp .ne 7, 3), (123, .iconst 1, 1), (124, .goto 4, 3), (127, .iconst 0, 1), (128, .istore_n 2, 1), (129, .iload_n 2, 1), (130, .ifCond .eq 10, 3), (133, .aload_n 0, 1), (134, .invokevirtual 168, 3), (137, .goto 47, 3), (140, .aload_n 0, 1), (141, .invokevirtual 149, 3), (144, .aload_n 0, 1), (145, .getfield 116, 3), (148, .iconst (-1), 1), (149, .if_icmp .ne 17, 3), (152, .aload_n 0, 1), (153, .invokevirtual 128, 3), (156, .invokestatic 162, 3), (159, .ifCond .eq 7, 3), (162, .iconst 1, 1), (163, .goto 4, 3), (166, .iconst 0, 1), (167, .istore_n 2, 1), (168, .iload_n 2, 1), (169, .ifCond .eq 15, 3), (172, .aload_n 0, 1), (173, .invokevirtual 171, 3), (176, .aload_n 0, 1), (177, .invokevirtual 174, 3), (180, .aload_n 0, 1), (181, .invokevirtual 177, 3), (184, .aload_n 0, 1), (185, .getfield 28, 3), (188, .iload_n 1, 1), (189, .aload_n 0, 1), (190, .getfield 25, 3), (193, .iload_n 1, 1), (194, .iaload, 1), (195, .iastore, 1), (196, .iload_n 2, 1), (197, .ifCond .eq 54, 3), (200, .aload_n 0, 1), (201, .getfield 116, 3), (204, .iconst (-1), 1), (205, .if_icmp .ne 46, 3), (208, .aload_n 0, 1), (209, .invokevirtual 128, 3), (212, .bipush 63, 2), (214, .if_icmp .eq 8, 3), (217, .aload_n 0, 1), (218, .invokevirtual 125, 3), (221, .return_, 1), (222, .aload_n 0, 1), (223, .dup, 1), (224, .getfield 109, 3), (227, .iconst 1, 1), (228, .iadd, 1), (229, .putfield 109, 3), (232, .aload_n 0, 1), (233, .getfield 28, 3), (236, .iload_n 1, 1), (237, .aload_n 0, 1), (238, .getfield 19, 3), (241, .aload_n 0, 1), (242, .getfield 119, 3), (245, .iaload, 1), (246, .iastore, 1), (247, .aload_n 0, 1), (248, .invokevirtual 149, 3), (251, .aload_n 0, 1), (252, .getfield 31, 3), (255, .iload_n 1, 1), (256, .aload_n 0, 1), (257, .getfield 19, 3), (260, .aload_n 0, 1), (261, .getfield 119, 3), (264, .iaload, 1), (265, .iastore, 1), (266, .aload_n 0, 1), (267, .getfield 22, 3), (270, .aload_n 0, 1), (271, .getfield 119, 3), (274, .dup2, 1), (275, .iaload, 1), (276, .iconst 1, 1), (277, .iadd, 1), (278, .iastore, 1), (279, .return_, 1)]
set_option maxRecDepth 100000 in
theorem dX12_clause : mj_pd cX12_clause pX12_clause := mj_pdB (by decide +kernel)
theorem fX12_clause : mj_mf mX12_clause := ⟨mj_t6 122 (by decide +kernel) rfl, mj_t1 13 (by decide +kernel) rfl, by decide, by decide, by decide⟩
theorem iX12_clause : Cond.instanceMethod yX12_clause ∈ mj_GW := mj_t6 121 (by decide +kernel) rfl
theorem vX12_clause : Cond.selects (mj_own.getD 12 "") yX12_clause yX12_clause ∈ mj_GW := mj_p3 14 (by decide +kernel) rfl
def mX12_open : mj_m := (12, false, cX12_open, 2, none, yX12_open)
def pX12_open : List (Nat × Instr × Nat) := [(0, .aload_n 0, 1), (1, .iload_n 1, 1), (2, .putfield 119, 3), (5, .aload_n 0, 1), (6, .iconst 0, 1), (7, .putfield 109, 3), (10, .aload_n 0, 1), (11, .iconst (-1), 1), (12, .putfield 116, 3), (15, .aload_n 0, 1), (16, .iconst 0, 1), (17, .putfield 122, 3), (20, .aload_n 0, 1), (21, .getfield 19, 3), (24, .iload_n 1, 1), (25, .iconst 0, 1), (26, .iastore, 1), (27, .aload_n 0, 1), (28, .getfield 22, 3), (31, .iload_n 1, 1), (32, .iconst 0, 1), (33, .iastore, 1), (34, .return_, 1)]
set_option maxRecDepth 100000 in
theorem dX12_open : mj_pd cX12_open pX12_open := mj_pdB (by decide +kernel)
theorem fX12_open : mj_mf mX12_open := ⟨mj_t6 118 (by decide +kernel) rfl, mj_t1 13 (by decide +kernel) rfl, by decide, by decide, by decide⟩
theorem iX12_open : Cond.instanceMethod yX12_open ∈ mj_GW := mj_t6 117 (by decide +kernel) rfl
theorem vX12_open : Cond.selects (mj_own.getD 12 "") yX12_open yX12_open ∈ mj_GW := mj_p3 13 (by decide +kernel) rfl
def mX12_atEnd : mj_m := (12, false, cX12_atEnd, 1, some .int, yX12_atEnd)
def pX12_atEnd : List (Nat × Instr × Nat) := [(0, .aload_n 0, 1), (1, .getfield 116, 3), (4, .iconst (-1), 1), (5, .if_icmp .ne 15, 3), (8, .aload_n 0, 1), (9, .invokevirtual 128, 3), (12, .iconst (-1), 1), (13, .if_icmp .eq 7, 3), (16, .aload_n 0, 1), (17, .invokevirtual 125, 3), (20, .aload_n 0, 1), (21, .getfield 116, 3), (24, .ireturn, 1)]
set_option maxRecDepth 100000 in
theorem dX12_atEnd : mj_pd cX12_atEnd pX12_atEnd := mj_pdB (by decide +kernel)
theorem fX12_atEnd : mj_mf mX12_atEnd := ⟨mj_t6 180 (by decide +kernel) rfl, mj_t1 13 (by decide +kernel) rfl, by decide, by decide, by decide⟩
theorem iX12_atEnd : Cond.instanceMethod yX12_atEnd ∈ mj_GW := mj_t6 179 (by decide +kernel) rfl
theorem vX12_atEnd : Cond.selects (mj_own.getD 12 "") yX12_atEnd yX12_atEnd ∈ mj_GW := mj_p4 11 (by decide +kernel) rfl
def mX12_readLaw : mj_m := (12, false, cX12_readLaw, 2, some .int, yX12_readLaw)
def pX12_readLaw : List (Nat × Instr × Nat) := [(0, .aload_n 0, 1), (1, .iload_n 1, 1), (2, .invokevirtual 180, 3), (5, .aload_n 0, 1), (6, .invokevirtual 183, 3), (9, .aload_n 0, 1), (10, .getfield 116, 3), (13, .iconst (-1), 1), (14, .if_icmp .ne 29, 3), (17, .aload_n 0, 1), (18, .invokevirtual 128, 3), (21, .bipush 59, 2), (23, .if_icmp .ne 20, 3), (26, .aload_n 0, 1), (27, .dup, 1), (28, .getfield 109, 3), (31, .iconst 1, 1), (32, .iadd, 1), (33, .putfield 109, 3), (36, .aload_n 0, 1), (37, .invokevirtual 183, 3), (40, .goto (-31), 3), (43, .aload_n 0, 1), (44, .invokevirtual 186, 3), (47, .ireturn, 1)]
set_option maxRecDepth 100000 in
theorem dX12_readLaw : mj_pd cX12_readLaw pX12_readLaw := mj_pdB (by decide +kernel)
theorem fX12_readLaw : mj_mf mX12_readLaw := ⟨mj_t6 114 (by decide +kernel) rfl, mj_t1 13 (by decide +kernel) rfl, by decide, by decide, by decide⟩
theorem iX12_readLaw : Cond.instanceMethod yX12_readLaw ∈ mj_GW := mj_t6 113 (by decide +kernel) rfl
theorem vX12_readLaw : Cond.selects (mj_own.getD 12 "") yX12_readLaw yX12_readLaw ∈ mj_GW := mj_p3 12 (by decide +kernel) rfl
def mX12_bounded : mj_m := (12, false, cX12_bounded, 2, some .int, yX12_bounded)
def pX12_bounded : List (Nat × Instr × Nat) := [(0, .ldc2_w 189, 3), (3, .ldc2_w 191, 3), (6, .lload_n 0, 1), (7, .invokestatic 193, 3), (10, .invokestatic 199, 3), (13, .l2i, 1), (14, .ireturn, 1)]
set_option maxRecDepth 100000 in
theorem dX12_bounded : mj_pd cX12_bounded pX12_bounded := mj_pdB (by decide +kernel)
theorem fX12_bounded : mj_mf mX12_bounded := ⟨mj_t7 78 (by decide +kernel) rfl, mj_t1 13 (by decide +kernel) rfl, by decide, by decide, by decide⟩
theorem sX12_bounded : Cond.static yX12_bounded ∈ mj_GW := mj_t7 77 (by decide +kernel) rfl
def mX12_worked : mj_m := (12, false, cX12_worked, 5, some .int, yX12_worked)
def pX12_worked : List (Nat × Instr × Nat) := [(0, .iload_n 0, 1), (1, .tableswitch 143 2 10 #[51, 58, 65, 72, 89, 101, 113, 143, 125], 51), (52, .lload_n 1, 1), (53, .lload_n 3, 1), (54, .ladd, 1), (55, .invokestatic 202, 3), (58, .ireturn, 1), (59, .lload_n 1, 1), (60, .lload_n 3, 1), (61, .lsub, 1), (62, .invokestatic 202, 3), (65, .ireturn, 1), (66, .lload_n 1, 1), (67, .lload_n 3, 1), (68, .lmul, 1), (69, .invokestatic 202, 3), (72, .ireturn, 1), (73, .lload_n 3, 1), (74, .lconst 0, 1), (75, .lcmp, 1), (76, .ifCond .ne 7, 3), (79, .iconst 0, 1), (80, .goto 9, 3), (83, .lload_n 1, 1), (84, .lload_n 3, 1), (85, .ldiv, 1), (86, .invokestatic 202, 3), (89, .ireturn, 1), (90, .lload_n 1, 1), (91, .lload_n 3, 1), (92, .lcmp, 1), (93, .ifCond .ne 7, 3), (96, .iconst 1, 1), (97, .goto 4, 3), (100, .iconst 0, 1), (101, .ireturn, 1), (102, .lload_n 1, 1), (103, .lload_n 3, 1), (104, .lcmp, 1), (105, .ifCond .ge 7, 3), (108, .iconst 1, 1), (109, .goto 4, 3), (112, .iconst 0, 1), (113, .ireturn, 1), (114, .lload_n 1, 1), (115, .lload_n 3, 1), (116, .lcmp, 1), (117, .ifCond .le 7, 3), (120, .iconst 1, 1), (121, .goto 4, 3), (124, .iconst 0, 1), (125, .ireturn, 1), (126, .lload_n 1, 1), (127, .lconst 0, 1), (128, .lcmp, 1), (129, .ifCond .eq 13, 3), (132, .lload_n 3, 1), (133, .lconst 0, 1), (134, .lcmp, 1), (135, .ifCond .eq 7, 3), (138, .iconst 1, 1), (139, .goto 4, 3), (142, .iconst 0, 1), (143, .ireturn, 1), (144, .lload_n 1, 1), (145, .lconst 0, 1), (146, .lcmp, 1), (147, .ifCond .ne 9, 3), (150, .lload_n 3, 1), (151, .lconst 0, 1), (152, .lcmp, 1), (153, .ifCond .eq 7, 3), (156, .iconst 1, 1), (157, .goto 4, 3), (160, .iconst 0, 1), (161, .ireturn, 1)]
set_option maxRecDepth 100000 in
theorem dX12_worked : mj_pd cX12_worked pX12_worked := mj_pdB (by decide +kernel)
theorem fX12_worked : mj_mf mX12_worked := ⟨mj_t7 75 (by decide +kernel) rfl, mj_t1 13 (by decide +kernel) rfl, by decide, by decide, by decide⟩
theorem sX12_worked : Cond.static yX12_worked ∈ mj_GW := mj_t7 74 (by decide +kernel) rfl
def mX12_workOut : mj_m := (12, false, cX12_workOut, 6, some .int, yX12_workOut)
def pX12_workOut : List (Nat × Instr × Nat) := [(0, .iconst 0, 1), (1, .istore 4, 2), (3, .sipush 520, 3), (6, .iload_n 1, 1), (7, .imul, 1), (8, .iload_n 2, 1), (9, .iadd, 1), (10, .istore 5, 2), (12, .iload 5, 2), (14, .sipush 520, 3), (17, .iload_n 1, 1), (18, .imul, 1), (19, .iload_n 3, 1), (20, .iadd, 1), (21, .if_icmp .ge 150, 3), (24, .aload_n 0, 1), (25, .getfield 13, 3), (28, .iload 5, 2), (30, .iaload, 1), (31, .ifCond .eq 14, 3), (34, .aload_n 0, 1), (35, .getfield 13, 3), (38, .iload 5, 2), (40, .iaload, 1), (41, .iconst 1, 1), (42, .if_icmp .ne 48, 3), (45, .aload_n 0, 1), (46, .getfield 37, 3), (49, .iload 4, 2), (51, .aload_n 0, 1), (52, .getfield 13, 3), (55, .iload 5, 2), (57, .iaload, 1), (58, .ifCond .ne 13, 3), (61, .aload_n 0, 1), (62, .getfield 16, 3), (65, .iload 5, 2), (67, .iaload, 1), (68, .goto 15, 3), (71, .aload_n 0, 1), (72, .getfield 34, 3), (75, .aload_n 0, 1), (76, .getfield 16, 3), (79, .iload 5, 2), (81, .iaload, 1), (82, .iaload, 1), (83, .iastore, 1), (84, .iinc 4 1, 3), (87, .goto 78, 3), (90, .aload_n 0, 1), (91, .getfield 13, 3), (94, .iload 5, 2), (96, .iaload, 1), (97, .bipush 9, 2), (99, .if_icmp .ne 26, 3), (102, .aload_n 0, 1), (103, .getfield 37, 3), (106, .iload 4, 2), (108, .iconst 1, 1), (109, .isub, 1), (110, .iconst 1, 1), (111, .aload_n 0, 1), (112, .getfield 37, 3), (115, .iload 4, 2), (117, .iconst 1, 1), (118, .isub, 1), (119, .iaload, 1), (120, .isub, 1), (121, .iastore, 1), (122, .goto 43, 3), (125, .iinc 4 (-1), 3), (128, .aload_n 0, 1), (129, .getfield 37, 3), (132, .iload 4, 2), (134, .iconst 1, 1), (135, .isub, 1), (136, .aload_n 0, 1), (137, .getfield 13, 3), (140, .iload 5, 2), (142, .iaload, 1), (143, .aload_n 0, 1), (144, .getfield 37, 3), (147, .iload 4, 2), (149, .iconst 1, 1), (150, .isub, 1), (151, .iaload, 1), (152, .i2l, 1), (153, .aload_n 0, 1), (154, .getfield 37, 3), (157, .iload 4, 2), (159, .iaload, 1), (160, .i2l, 1), (161, .invokestatic 206, 3), (164, .iastore, 1), (165, .iinc 5 1, 3), (168, .goto (-156), 3), (171, .aload_n 0, 1), (172, .getfield 37, 3), (175, .iconst 0, 1), (176, .iaload, 1), (177, .ireturn, 1)]
set_option maxRecDepth 100000 in
theorem dX12_workOut : mj_pd cX12_workOut pX12_workOut := mj_pdB (by decide +kernel)
theorem fX12_workOut : mj_mf mX12_workOut := ⟨mj_t7 72 (by decide +kernel) rfl, mj_t1 13 (by decide +kernel) rfl, by decide, by decide, by decide⟩
theorem iX12_workOut : Cond.instanceMethod yX12_workOut ∈ mj_GW := mj_t7 71 (by decide +kernel) rfl
theorem vX12_workOut : Cond.selects (mj_own.getD 12 "") yX12_workOut yX12_workOut ∈ mj_GW := mj_p6 2 (by decide +kernel) rfl
def mX12_worthOf : mj_m := (12, false, cX12_worthOf, 3, some .int, yX12_worthOf)
def pX12_worthOf : List (Nat × Instr × Nat) := [(0, .sipush 140, 3), (3, .iload_n 1, 1), (4, .imul, 1), (5, .istore_n 2, 1), (6, .iload_n 2, 1), (7, .sipush 140, 3), (10, .iload_n 1, 1), (11, .imul, 1), (12, .aload_n 0, 1), (13, .getfield 22, 3), (16, .iload_n 1, 1), (17, .iaload, 1), (18, .iadd, 1), (19, .if_icmp .ge 62, 3), (22, .aload_n 0, 1), (23, .getfield 25, 3), (26, .iload_n 2, 1), (27, .iaload, 1), (28, .aload_n 0, 1), (29, .getfield 28, 3), (32, .iload_n 2, 1), (33, .iaload, 1), (34, .if_icmp .eq 23, 3), (37, .aload_n 0, 1), (38, .iload_n 1, 1), (39, .aload_n 0, 1), (40, .getfield 25, 3), (43, .iload_n 2, 1), (44, .iaload, 1), (45, .aload_n 0, 1), (46, .getfield 28, 3), (49, .iload_n 2, 1), (50, .iaload, 1), (51, .invokevirtual 210, 3), (54, .ifCond .eq 21, 3), (57, .aload_n 0, 1), (58, .iload_n 1, 1), (59, .aload_n 0, 1), (60, .getfield 28, 3), (63, .iload_n 2, 1), (64, .iaload, 1), (65, .aload_n 0, 1), (66, .getfield 31, 3), (69, .iload_n 2, 1), (70, .iaload, 1), (71, .invokevirtual 210, 3), (74, .ireturn, 1), (75, .iinc 2 1, 3), (78, .goto (-72), 3), (81, .iconst 0, 1), (82, .ireturn, 1)]
set_option maxRecDepth 100000 in
theorem dX12_worthOf : mj_pd cX12_worthOf pX12_worthOf := mj_pdB (by decide +kernel)
theorem fX12_worthOf : mj_mf mX12_worthOf := ⟨mj_t7 68 (by decide +kernel) rfl, mj_t1 13 (by decide +kernel) rfl, by decide, by decide, by decide⟩
theorem iX12_worthOf : Cond.instanceMethod yX12_worthOf ∈ mj_GW := mj_t7 67 (by decide +kernel) rfl
theorem vX12_worthOf : Cond.selects (mj_own.getD 12 "") yX12_worthOf yX12_worthOf ∈ mj_GW := mj_p6 1 (by decide +kernel) rfl
def mX12_number : mj_m := (12, false, cX12_number, 4, some .int, yX12_number)
def pX12_number : List (Nat × Instr × Nat) := [(0, .aload_n 0, 1), (1, .invokevirtual 128, 3), (4, .invokestatic 131, 3), (7, .ifCond .ne 9, 3), (10, .aload_n 0, 1), (11, .invokevirtual 125, 3), (14, .iload_n 1, 1), (15, .ireturn, 1), (16, .aload_n 0, 1), (17, .invokevirtual 112, 3), (20, .bipush 48, 2), (22, .isub, 1), (23, .istore_n 3, 1), (24, .aload_n 0, 1), (25, .dup, 1), (26, .getfield 109, 3), (29, .iconst 1, 1), (30, .iadd, 1), (31, .putfield 109, 3), (34, .aload_n 0, 1), (35, .invokevirtual 112, 3), (38, .invokestatic 131, 3), (41, .ifCond .eq 26, 3), (44, .bipush 10, 2), (46, .iload_n 3, 1), (47, .imul, 1), (48, .aload_n 0, 1), (49, .invokevirtual 112, 3), (52, .iadd, 1), (53, .bipush 48, 2), (55, .isub, 1), (56, .istore_n 3, 1), (57, .aload_n 0, 1), (58, .dup, 1), (59, .getfield 109, 3), (62, .iconst 1, 1), (63, .iadd, 1), (64, .putfield 109, 3), (67, .aload_n 0, 1), (68, .invokevirtual 112, 3), (71, .invokestatic 131, 3), (74, .ifCond .eq 10, 3), (77, .aload_n 0, 1), (78, .invokevirtual 125, 3), (81, .goto 26, 3), (84, .iload_n 3, 1), (85, .iload_n 1, 1), (86, .iload_n 2, 1), (87, .invokestatic 214, 3), (90, .ifCond .ne 17, 3), (93, .aload_n 0, 1), (94, .dup, 1), (95, .getfield 109, 3), (98, .iconst 1, 1), (99, .isub, 1), (100, .putfield 109, 3), (103, .aload_n 0, 1), (104, .invokevirtual 125, 3), (107, .iload_n 3, 1), (108, .ireturn, 1)]
set_option maxRecDepth 100000 in
theorem dX12_number : mj_pd cX12_number pX12_number := mj_pdB (by decide +kernel)
theorem fX12_number : mj_mf mX12_number := ⟨mj_t6 96 (by decide +kernel) rfl, mj_t1 13 (by decide +kernel) rfl, by decide, by decide, by decide⟩
theorem iX12_number : Cond.instanceMethod yX12_number ∈ mj_GW := mj_t6 95 (by decide +kernel) rfl
theorem vX12_number : Cond.selects (mj_own.getD 12 "") yX12_number yX12_number ∈ mj_GW := mj_p3 9 (by decide +kernel) rfl
def mX12_itemOf : mj_m := (12, false, cX12_itemOf, 2, some .int, yX12_itemOf)
def pX12_itemOf : List (Nat × Instr × Nat) := [(0, .iload_n 0, 1), (1, .bipush 108, 2), (3, .if_icmp .ne 76, 3), (6, .iload_n 1, 1), (7, .bipush 119, 2), (9, .if_icmp .ne 7, 3), (12, .iconst 0, 1), (13, .goto 65, 3), (16, .iload_n 1, 1), (17, .bipush 97, 2), (19, .if_icmp .ne 7, 3), (22, .iconst 1, 1), (23, .goto 55, 3), (26, .iload_n 1, 1), (27, .bipush 101, 2), (29, .if_icmp .ne 7, 3), (32, .iconst 2, 1), (33, .goto 45, 3), (36, .iload_n 1, 1), (37, .bipush 117, 2), (39, .if_icmp .ne 7, 3), (42, .iconst 3, 1), (43, .goto 35, 3), (46, .iload_n 1, 1), (47, .bipush 100, 2), (49, .if_icmp .ne 7, 3), (52, .iconst 4, 1), (53, .goto 25, 3), (56, .iload_n 1, 1), (57, .bipush 115, 2), (59, .if_icmp .ne 7, 3), (62, .iconst 5, 1), (63, .goto 15, 3), (66, .iload_n 1, 1), (67, .bipush 102, 2), (69, .if_icmp .ne 8, 3), (72, .bipush 6, 2), (74, .goto 4, 3), (77, .iconst (-1), 1), (78, .ireturn, 1), (79, .iload_n 1, 1), (80, .bipush 120, 2), (82, .if_icmp .ne 7, 3), (85, .iconst 0, 1), (86, .goto 54, 3), (89, .iload_n 1, 1), (90, .bipush 121, 2), (92, .if_icmp .ne 7, 3), (95, .iconst 1, 1), (96, .goto 44, 3), (99, .iload_n 1, 1), (100, .bipush 118, 2), (102, .if_icmp .ne 7, 3), (105, .iconst 2, 1), (106, .goto 34, 3), (109, .iload_n 1, 1), (110, .bipush 109, 2), (112, .if_icmp .ne 7, 3), (115, .iconst 3, 1), (116, .goto 24, 3), (119, .iload_n 1, 1), (120, .bipush 122, 2), (122, .if_icmp .ne 7, 3), (125, .iconst 4, 1), (126, .goto 14, 3), (129, .iload_n 1, 1), (130, .bipush 114, 2), (132, .if_icmp .ne 7, 3), (135, .iconst 5, 1), (136, .goto 4, 3), (139, .iconst (-1), 1), (140, .ireturn, 1)]
set_option maxRecDepth 100000 in
theorem dX12_itemOf : mj_pd cX12_itemOf pX12_itemOf := mj_pdB (by decide +kernel)
theorem fX12_itemOf : mj_mf mX12_itemOf := ⟨mj_t6 83 (by decide +kernel) rfl, mj_t1 13 (by decide +kernel) rfl, by decide, by decide, by decide⟩
theorem sX12_itemOf : Cond.static yX12_itemOf ∈ mj_GW := mj_t6 82 (by decide +kernel) rfl
def mX12_lowest : mj_m := (12, false, cX12_lowest, 2, some .int, yX12_lowest)
def pX12_lowest : List (Nat × Instr × Nat) := [(0, .iload_n 0, 1), (1, .bipush 108, 2), (3, .if_icmp .ne 22, 3), (6, .iload_n 1, 1), (7, .ifCond .ne 7, 3), (10, .iconst 2, 1), (11, .goto 13, 3), (14, .iload_n 1, 1), (15, .iconst 5, 1), (16, .if_icmp .ne 7, 3), (19, .iconst 1, 1), (20, .goto 4, 3), (23, .iconst 0, 1), (24, .ireturn, 1), (25, .iload_n 1, 1), (26, .iconst 3, 1), (27, .if_icmp .ne 7, 3), (30, .iconst 1, 1), (31, .goto 4, 3), (34, .iconst 0, 1), (35, .ireturn, 1)]
set_option maxRecDepth 100000 in
theorem dX12_lowest : mj_pd cX12_lowest pX12_lowest := mj_pdB (by decide +kernel)
theorem fX12_lowest : mj_mf mX12_lowest := ⟨mj_t6 89 (by decide +kernel) rfl, mj_t1 13 (by decide +kernel) rfl, by decide, by decide, by decide⟩
theorem sX12_lowest : Cond.static yX12_lowest ∈ mj_GW := mj_t6 88 (by decide +kernel) rfl
def mX12_highest : mj_m := (12, false, cX12_highest, 2, some .int, yX12_highest)
def pX12_highest : List (Nat × Instr × Nat) := [(0, .iload_n 0, 1), (1, .bipush 108, 2), (3, .if_icmp .ne 40, 3), (6, .iload_n 1, 1), (7, .ifCond .ne 8, 3), (10, .bipush 20, 2), (12, .goto 30, 3), (15, .iload_n 1, 1), (16, .iconst 5, 1), (17, .if_icmp .ne 8, 3), (20, .bipush 60, 2), (22, .goto 20, 3), (25, .iload_n 1, 1), (26, .iconst 2, 1), (27, .if_icmp .eq 9, 3), (30, .iload_n 1, 1), (31, .bipush 6, 2), (33, .if_icmp .ne 7, 3), (36, .iconst 1, 1), (37, .goto 5, 3), (40, .bipush 9, 2), (42, .ireturn, 1), (43, .iload_n 1, 1), (44, .ifCond .eq 8, 3), (47, .iload_n 1, 1), (48, .iconst 1, 1), (49, .if_icmp .ne 8, 3), (52, .bipush 19, 2), (54, .goto 23, 3), (57, .iload_n 1, 1), (58, .iconst 4, 1), (59, .if_icmp .ne 8, 3), (62, .bipush 9, 2), (64, .goto 13, 3), (67, .iload_n 1, 1), (68, .iconst 5, 1), (69, .if_icmp .ne 7, 3), (72, .iconst 4, 1), (73, .goto 4, 3), (76, .iconst 3, 1), (77, .ireturn, 1)]
set_option maxRecDepth 100000 in
theorem dX12_highest : mj_pd cX12_highest pX12_highest := mj_pdB (by decide +kernel)
theorem fX12_highest : mj_mf mX12_highest := ⟨mj_t6 92 (by decide +kernel) rfl, mj_t1 13 (by decide +kernel) rfl, by decide, by decide, by decide⟩
theorem sX12_highest : Cond.static yX12_highest ∈ mj_GW := mj_t6 91 (by decide +kernel) rfl
def mX12_usual : mj_m := (12, false, cX12_usual, 2, some .int, yX12_usual)
def pX12_usual : List (Nat × Instr × Nat) := [(0, .iload_n 0, 1), (1, .bipush 108, 2), (3, .if_icmp .ne 24, 3), (6, .iload_n 1, 1), (7, .ifCond .ne 8, 3), (10, .bipush 10, 2), (12, .goto 14, 3), (15, .iload_n 1, 1), (16, .iconst 5, 1), (17, .if_icmp .ne 8, 3), (20, .bipush 20, 2), (22, .goto 4, 3), (25, .iconst 0, 1), (26, .ireturn, 1), (27, .iload_n 1, 1), (28, .iconst 1, 1), (29, .if_icmp .eq 8, 3), (32, .iload_n 1, 1), (33, .iconst 4, 1), (34, .if_icmp .ne 7, 3), (37, .iconst 5, 1), (38, .goto 22, 3), (41, .iload_n 1, 1), (42, .iconst 3, 1), (43, .if_icmp .ne 7, 3), (46, .iconst 2, 1), (47, .goto 13, 3), (50, .iload_n 1, 1), (51, .iconst 5, 1), (52, .if_icmp .ne 7, 3), (55, .iconst 4, 1), (56, .goto 4, 3), (59, .iconst 0, 1), (60, .ireturn, 1)]
set_option maxRecDepth 100000 in
theorem dX12_usual : mj_pd cX12_usual pX12_usual := mj_pdB (by decide +kernel)
theorem fX12_usual : mj_mf mX12_usual := ⟨mj_t6 80 (by decide +kernel) rfl, mj_t1 13 (by decide +kernel) rfl, by decide, by decide, by decide⟩
theorem sX12_usual : Cond.static yX12_usual ∈ mj_GW := mj_t6 79 (by decide +kernel) rfl
def mX12_items : mj_m := (12, false, cX12_items, 7, none, yX12_items)
def pX12_items : List (Nat × Instr × Nat) := [(0, .iconst 0, 1), (1, .istore 5, 2), (3, .iload 5, 2), (5, .iload 4, 2), (7, .if_icmp .ge 21, 3), (10, .aload_n 2, 1), (11, .iload_n 3, 1), (12, .iload 5, 2), (14, .iadd, 1), (15, .iload_n 1, 1), (16, .iload 5, 2), (18, .invokestatic 218, 3), (21, .iastore, 1), (22, .iinc 5 1, 3), (25, .goto (-22), 3), (28, .iconst 0, 1), (29, .istore 5, 2), (31, .iload_n 1, 1), (32, .aload_n 0, 1), (33, .invokevirtual 128, 3), (36, .invokestatic 222, 3), (39, .istore 6, 2), (41, .aload_n 0, 1), (42, .getfield 116, 3), (45, .iconst (-1), 1), (46, .if_icmp .ne 85, 3), (49, .iload 6, 2), (51, .iconst (-1), 1), (52, .if_icmp .eq 79, 3), (55, .iload 5, 2), (57, .iload 6, 2), (59, .invokestatic 225, 3), (62, .ifCond .ne 69, 3), (65, .iload 5, 2), (67, .iconst 1, 1), (68, .iload 6, 2), (70, .ishl, 1), (71, .ior, 1), (72, .istore 5, 2), (74, .aload_n 0, 1), (75, .dup, 1), (76, .getfield 109, 3), (79, .iconst 1, 1), (80, .iadd, 1), (81, .putfield 109, 3), (84, .aload_n 2, 1), (85, .iload_n 3, 1), (86, .iload 6, 2), (88, .iadd, 1), (89, .aload_n 0, 1), (90, .iload_n 1, 1), (91, .iload 6, 2), (93, .invokestatic 229, 3), (96, .iload_n 1, 1), (97, .iload 6, 2), (99, .invokestatic 232, 3), (102, .invokevirtual 235, 3), (105, .iastore, 1), (106, .aload_n 0, 1), (107, .getfield 116, 3), (110, .iconst (-1), 1), (111, .if_icmp .ne 14, 3), (114, .iload_n 1, 1), (115, .aload_n 0, 1), (116, .invokevirtual 128, 3), (119, .invokestatic 222, 3), (122, .goto 4, 3), (125, .iconst (-1), 1), (126, .istore 6, 2), (128, .goto (-87), 3), (131, .return_, 1)]
set_option maxRecDepth 100000 in
theorem dX12_items : mj_pd cX12_items pX12_items := mj_pdB (by decide +kernel)
theorem fX12_items : mj_mf mX12_items := ⟨mj_t6 77 (by decide +kernel) rfl, mj_t1 13 (by decide +kernel) rfl, by decide, by decide, by decide⟩
theorem iX12_items : Cond.instanceMethod yX12_items ∈ mj_GW := mj_t6 76 (by decide +kernel) rfl
theorem vX12_items : Cond.selects (mj_own.getD 12 "") yX12_items yX12_items ∈ mj_GW := mj_p3 8 (by decide +kernel) rfl
def mX12_isWhole : mj_m := (12, false, cX12_isWhole, 5, some .boolean, yX12_isWhole)
def pX12_isWhole : List (Nat × Instr × Nat) := [(0, .iload_n 1, 1), (1, .ifCond .eq 14, 3), (4, .aload_n 0, 1), (5, .getfield 238, 3), (8, .ifCond .le 7, 3), (11, .iconst 1, 1), (12, .goto 4, 3), (15, .iconst 0, 1), (16, .istore_n 2, 1), (17, .iconst 0, 1), (18, .istore_n 3, 1), (19, .iload_n 3, 1), (20, .aload_n 0, 1), (21, .getfield 238, 3), (24, .if_icmp .ge 141, 3), (27, .iload_n 2, 1), (28, .ifCond .eq 52, 3), (31, .aload_n 0, 1), (32, .getfield 43, 3), (35, .bipush 6, 2), (37, .iload_n 3, 1), (38, .imul, 1), (39, .iconst 2, 1), (40, .iadd, 1), (41, .iaload, 1), (42, .aload_n 0, 1), (43, .getfield 43, 3), (46, .bipush 6, 2), (48, .iload_n 3, 1), (49, .imul, 1), (50, .iconst 3, 1), (51, .iadd, 1), (52, .iaload, 1), (53, .if_icmp .gt 27, 3), (56, .aload_n 0, 1), (57, .getfield 43, 3), (60, .bipush 6, 2), (62, .iload_n 3, 1), (63, .imul, 1), (64, .iconst 0, 1), (65, .iadd, 1), (66, .iaload, 1), (67, .aload_n 0, 1), (68, .getfield 40, 3), (71, .iconst 0, 1), (72, .iaload, 1), (73, .if_icmp .ge 7, 3), (76, .iconst 1, 1), (77, .goto 4, 3), (80, .iconst 0, 1), (81, .istore_n 2, 1), (82, .iconst 0, 1), (83, .istore 4, 2), (85, .iload 4, 2), (87, .iload_n 3, 1), (88, .if_icmp .ge 71, 3), (91, .iload_n 2, 1), (92, .ifCond .eq 59, 3), (95, .aload_n 0, 1), (96, .getfield 43, 3), (99, .bipush 6, 2), (101, .iload 4, 2), (103, .imul, 1), (104, .iconst 0, 1), (105, .iadd, 1), (106, .iaload, 1), (107, .aload_n 0, 1), (108, .getfield 43, 3), (111, .bipush 6, 2), (113, .iload_n 3, 1), (114, .imul, 1), (115, .iconst 0, 1), (116, .iadd, 1), (117, .iaload, 1), (118, .if_icmp .ne 29, 3), (121, .aload_n 0, 1), (122, .getfield 43, 3), (125, .bipush 6, 2), (127, .iload 4, 2), (129, .imul, 1), (130, .iconst 1, 1), (131, .iadd, 1), (132, .iaload, 1), (133, .aload_n 0, 1), (134, .getfield 43, 3), (137, .bipush 6, 2), (139, .iload_n 3, 1), (140, .imul, 1), (141, .iconst 1, 1), (142, .iadd, 1), (143, .iaload, 1), (144, .if_icmp .eq 7, 3), (147, .iconst 1, 1), (148, .goto 4, 3), (151, .iconst 0, 1), (152, .istore_n 2, 1), (153, .iinc 4 1, 3), (156, .goto (-71), 3), (159, .iinc 3 1, 3), (162, .goto (-143), 3), (165, .iload_n 2, 1), (166, .ireturn, 1)]
set_option maxRecDepth 100000 in
theorem dX12_isWhole : mj_pd cX12_isWhole pX12_isWhole := mj_pdB (by decide +kernel)
theorem fX12_isWhole : mj_mf mX12_isWhole := ⟨mj_t6 110 (by decide +kernel) rfl, mj_t1 13 (by decide +kernel) rfl, by decide, by decide, by decide⟩
theorem iX12_isWhole : Cond.instanceMethod yX12_isWhole ∈ mj_GW := mj_t6 109 (by decide +kernel) rfl
theorem vX12_isWhole : Cond.selects (mj_own.getD 12 "") yX12_isWhole yX12_isWhole ∈ mj_GW := mj_p3 11 (by decide +kernel) rfl
def mX12_readWater : mj_m := (12, false, cX12_readWater, 4, some .int, yX12_readWater)
def pX12_readWater : List (Nat × Instr × Nat) := [(0, .aload_n 0, 1), (1, .iconst 0, 1), (2, .putfield 109, 3), (5, .aload_n 0, 1), (6, .iconst (-1), 1), (7, .putfield 116, 3), (10, .aload_n 0, 1), (11, .iconst 0, 1), (12, .putfield 238, 3), (15, .iconst 0, 1), (16, .istore_n 1, 1), (17, .iconst 1, 1), (18, .istore_n 2, 1), (19, .iload_n 2, 1), (20, .ifCond .eq 157, 3), (23, .aload_n 0, 1), (24, .getfield 116, 3), (27, .iconst (-1), 1), (28, .if_icmp .ne 149, 3), (31, .aload_n 0, 1), (32, .invokevirtual 128, 3), (35, .istore_n 3, 1), (36, .iload_n 3, 1), (37, .bipush 108, 2), (39, .if_icmp .ne 34, 3), (42, .iload_n 1, 1), (43, .ifCond .ne 30, 3), (46, .iconst 1, 1), (47, .istore_n 1, 1), (48, .aload_n 0, 1), (49, .dup, 1), (50, .getfield 109, 3), (53, .iconst 1, 1), (54, .iadd, 1), (55, .putfield 109, 3), (58, .aload_n 0, 1), (59, .iload_n 3, 1), (60, .aload_n 0, 1), (61, .getfield 40, 3), (64, .iconst 0, 1), (65, .bipush 7, 2), (67, .invokevirtual 241, 3), (70, .goto 63, 3), (73, .iload_n 3, 1), (74, .bipush 98, 2), (76, .if_icmp .ne 53, 3), (79, .aload_n 0, 1), (80, .getfield 238, 3), (83, .bipush 8, 2), (85, .if_icmp .ge 44, 3), (88, .aload_n 0, 1), (89, .dup, 1), (90, .getfield 109, 3), (93, .iconst 1, 1), (94, .iadd, 1), (95, .putfield 109, 3), (98, .aload_n 0, 1), (99, .iload_n 3, 1), (100, .aload_n 0, 1), (101, .getfield 43, 3), (104, .bipush 6, 2), (106, .aload_n 0, 1), (107, .getfield 238, 3), (110, .imul, 1), (111, .bipush 6, 2), (113, .invokevirtual 241, 3), (116, .aload_n 0, 1), (117, .dup, 1), (118, .getfield 238, 3), (121, .iconst 1, 1), (122, .iadd, 1), (123, .putfield 238, 3), (126, .goto 7, 3), (129, .aload_n 0, 1), (130, .invokevirtual 125, 3), (133, .aload_n 0, 1), (134, .getfield 116, 3), (137, .iconst (-1), 1), (138, .if_icmp .ne 16, 3), (141, .aload_n 0, 1), (142, .invokevirtual 128, 3), (145, .bipush 59, 2), (147, .if_icmp .ne 7, 3), (150, .iconst 1, 1), (151, .goto 4, 3), (154, .iconst 0, 1), (155, .istore_n 2, 1), (156, .aload_n 0, 1), (157, .dup, 1), (158, .getfield 109, 3), (161, .iload_n 2, 1), (162, .ifCond .eq 7, 3), (165, .iconst 1, 1), (166, .goto 4, 3), (169, .iconst 0, 1), (170, .iadd, 1), (171, .putfield 109, 3), (174, .goto (-155), 3), (177, .aload_n 0, 1), (178, .getfield 116, 3), (181, .iconst (-1), 1), (182, .if_icmp .ne 23, 3), (185, .aload_n 0, 1), (186, .invokevirtual 128, 3), (189, .iconst (-1), 1), (190, .if_icmp .ne 11, 3), (193, .aload_n 0, 1), (194, .iload_n 1, 1), (195, .invokevirtual 245, 3), (198, .ifCond .ne 7, 3), (201, .aload_n 0, 1), (202, .invokevirtual 125, 3), (205, .aload_n 0, 1), (206, .getfield 116, 3), (209, .ireturn, 1)]
set_option maxRecDepth 100000 in
theorem dX12_readWater : mj_pd cX12_readWater pX12_readWater := mj_pdB (by decide +kernel)
theorem fX12_readWater : mj_mf mX12_readWater := ⟨mj_t6 65 (by decide +kernel) rfl, mj_t1 13 (by decide +kernel) rfl, by decide, by decide, by decide⟩
theorem iX12_readWater : Cond.instanceMethod yX12_readWater ∈ mj_GW := mj_t6 64 (by decide +kernel) rfl
theorem vX12_readWater : Cond.selects (mj_own.getD 12 "") yX12_readWater yX12_readWater ∈ mj_GW := mj_p3 5 (by decide +kernel) rfl
def mX12_fault : mj_m := (12, false, cX12_fault, 2, some .int, yX12_fault)
def pX12_fault : List (Nat × Instr × Nat) := [(0, .iload_n 1, 1), (1, .ifCond .ne 10, 3), (4, .aload_n 0, 1), (5, .invokevirtual 249, 3), (8, .goto 18, 3), (11, .iload_n 1, 1), (12, .iconst 1, 1), (13, .if_icmp .ne 11, 3), (16, .aload_n 0, 1), (17, .iconst 4, 1), (18, .invokevirtual 252, 3), (21, .goto 5, 3), (24, .bipush (-2), 2), (26, .ireturn, 1)]
set_option maxRecDepth 100000 in
theorem dX12_fault : mj_pd cX12_fault pX12_fault := mj_pdB (by decide +kernel)
theorem fX12_fault : mj_mf mX12_fault := ⟨mj_t6 61 (by decide +kernel) rfl, mj_t1 13 (by decide +kernel) rfl, by decide, by decide, by decide⟩
theorem iX12_fault : Cond.instanceMethod yX12_fault ∈ mj_GW := mj_t6 59 (by decide +kernel) rfl
theorem vX12_fault : Cond.selects (mj_own.getD 12 "") yX12_fault yX12_fault ∈ mj_GW := mj_t6 60 (by decide +kernel) rfl
def mX12_takeWater : mj_m := (12, false, cX12_takeWater, 2, some .int, yX12_takeWater)
def pX12_takeWater : List (Nat × Instr × Nat) := [(0, .aload_n 0, 1), (1, .aload_n 0, 1), (2, .getfield 238, 3), (5, .putfield 255, 3), (8, .iconst 0, 1), (9, .istore_n 1, 1), (10, .iload_n 1, 1), (11, .bipush 7, 2), (13, .if_icmp .ge 21, 3), (16, .aload_n 0, 1), (17, .getfield 46, 3), (20, .iload_n 1, 1), (21, .aload_n 0, 1), (22, .getfield 40, 3), (25, .iload_n 1, 1), (26, .iaload, 1), (27, .iastore, 1), (28, .iinc 1 1, 3), (31, .goto (-21), 3), (34, .iconst 0, 1), (35, .istore_n 1, 1), (36, .iload_n 1, 1), (37, .bipush 48, 2), (39, .if_icmp .ge 21, 3), (42, .aload_n 0, 1), (43, .getfield 49, 3), (46, .iload_n 1, 1), (47, .aload_n 0, 1), (48, .getfield 43, 3), (51, .iload_n 1, 1), (52, .iaload, 1), (53, .iastore, 1), (54, .iinc 1 1, 3), (57, .goto (-21), 3), (60, .aload_n 0, 1), (61, .invokevirtual 258, 3), (64, .aload_n 0, 1), (65, .iconst 0, 1), (66, .putfield 261, 3), (69, .aload_n 0, 1), (70, .iconst 0, 1), (71, .putfield 264, 3), (74, .aload_n 0, 1), (75, .iconst 0, 1), (76, .putfield 267, 3), (79, .aload_n 0, 1), (80, .iconst 0, 1), (81, .putfield 270, 3), (84, .aload_n 0, 1), (85, .getfield 255, 3), (88, .ireturn, 1)]
set_option maxRecDepth 100000 in
theorem dX12_takeWater : mj_pd cX12_takeWater pX12_takeWater := mj_pdB (by decide +kernel)
theorem fX12_takeWater : mj_mf mX12_takeWater := ⟨mj_t6 188 (by decide +kernel) rfl, mj_t1 13 (by decide +kernel) rfl, by decide, by decide, by decide⟩
theorem iX12_takeWater : Cond.instanceMethod yX12_takeWater ∈ mj_GW := mj_t6 187 (by decide +kernel) rfl
theorem vX12_takeWater : Cond.selects (mj_own.getD 12 "") yX12_takeWater yX12_takeWater ∈ mj_GW := mj_p4 12 (by decide +kernel) rfl
def mX12_begin : mj_m := (12, false, cX12_begin, 2, none, yX12_begin)
def pX12_begin : List (Nat × Instr × Nat) := [(0, .iconst 0, 1), (1, .istore_n 1, 1), (2, .iload_n 1, 1), (3, .aload_n 0, 1), (4, .getfield 255, 3), (7, .if_icmp .ge 110, 3), (10, .aload_n 0, 1), (11, .iload_n 1, 1), (12, .iconst 0, 1), (13, .aload_n 0, 1), (14, .getfield 49, 3), (17, .bipush 6, 2), (19, .iload_n 1, 1), (20, .imul, 1), (21, .iconst 0, 1), (22, .iadd, 1), (23, .iaload, 1), (24, .invokevirtual 274, 3), (27, .aload_n 0, 1), (28, .iload_n 1, 1), (29, .iconst 1, 1), (30, .aload_n 0, 1), (31, .getfield 49, 3), (34, .bipush 6, 2), (36, .iload_n 1, 1), (37, .imul, 1), (38, .iconst 1, 1), (39, .iadd, 1), (40, .iaload, 1), (41, .invokevirtual 274, 3), (44, .aload_n 0, 1), (45, .iload_n 1, 1), (46, .iconst 2, 1), (47, .aload_n 0, 1), (48, .getfield 49, 3), (51, .bipush 6, 2), (53, .iload_n 1, 1), (54, .imul, 1), (55, .iconst 2, 1), (56, .iadd, 1), (57, .iaload, 1), (58, .invokevirtual 274, 3), (61, .aload_n 0, 1), (62, .iload_n 1, 1), (63, .iconst 3, 1), (64, .aload_n 0, 1), (65, .getfield 49, 3), (68, .bipush 6, 2), (70, .iload_n 1, 1), (71, .imul, 1), (72, .iconst 5, 1), (73, .iadd, 1), (74, .iaload, 1), (75, .iconst 4, 1), (76, .if_icmp .ne 7, 3), (79, .iconst (-1), 1), (80, .goto 14, 3), (83, .aload_n 0, 1), (84, .getfield 49, 3), (87, .bipush 6, 2), (89, .iload_n 1, 1), (90, .imul, 1), (91, .iconst 5, 1), (92, .iadd, 1), (93, .iaload, 1), (94, .invokevirtual 274, 3), (97, .aload_n 0, 1), (98, .iload_n 1, 1), (99, .iconst 4, 1), (100, .iconst 0, 1), (101, .invokevirtual 274, 3), (104, .aload_n 0, 1), (105, .iload_n 1, 1), (106, .iconst 5, 1), (107, .iconst 0, 1), (108, .invokevirtual 274, 3), (111, .iinc 1 1, 3), (114, .goto (-112), 3), (117, .aload_n 0, 1), (118, .getfield 52, 3), (121, .bipush 48, 2), (123, .iconst 0, 1), (124, .iastore, 1), (125, .return_, 1)]
set_option maxRecDepth 100000 in
theorem dX12_begin : mj_pd cX12_begin pX12_begin := mj_pdB (by decide +kernel)
theorem fX12_begin : mj_mf mX12_begin := ⟨mj_t6 192 (by decide +kernel) rfl, mj_t1 13 (by decide +kernel) rfl, by decide, by decide, by decide⟩
theorem iX12_begin : Cond.instanceMethod yX12_begin ∈ mj_GW := mj_t6 191 (by decide +kernel) rfl
theorem vX12_begin : Cond.selects (mj_own.getD 12 "") yX12_begin yX12_begin ∈ mj_GW := mj_p4 13 (by decide +kernel) rfl
def mX12_text : mj_m := (12, false, cX12_text, 2, some .int, yX12_text)
def pX12_text : List (Nat × Instr × Nat) := [(0, .iload_n 1, 1), (1, .ifCond .ne 21, 3), (4, .aload_n 0, 1), (5, .invokevirtual 249, 3), (8, .iconst (-1), 1), (9, .if_icmp .ne 13, 3), (12, .aload_n 0, 1), (13, .iconst 0, 1), (14, .putfield 106, 3), (17, .aload_n 0, 1), (18, .invokevirtual 277, 3), (21, .ireturn, 1), (22, .iload_n 1, 1), (23, .iconst 1, 1), (24, .if_icmp .ne 45, 3), (27, .aload_n 0, 1), (28, .getfield 280, 3), (31, .iconst 4, 1), (32, .if_icmp .ge 37, 3), (35, .aload_n 0, 1), (36, .aload_n 0, 1), (37, .getfield 280, 3), (40, .invokevirtual 252, 3), (43, .iconst (-1), 1), (44, .if_icmp .ne 25, 3), (47, .aload_n 0, 1), (48, .iconst 0, 1), (49, .putfield 106, 3), (52, .aload_n 0, 1), (53, .dup, 1), (54, .getfield 280, 3), (57, .iconst 1, 1), (58, .iadd, 1), (59, .putfield 280, 3), (62, .aload_n 0, 1), (63, .getfield 280, 3), (66, .iconst 1, 1), (67, .isub, 1), (68, .ireturn, 1), (69, .iconst (-1), 1), (70, .ireturn, 1)]
set_option maxRecDepth 100000 in
theorem dX12_text : mj_pd cX12_text pX12_text := mj_pdB (by decide +kernel)
theorem fX12_text : mj_mf mX12_text := ⟨mj_t6 184 (by decide +kernel) rfl, mj_t1 13 (by decide +kernel) rfl, by decide, by decide, by decide⟩
theorem iX12_text : Cond.instanceMethod yX12_text ∈ mj_GW := mj_t6 182 (by decide +kernel) rfl
theorem vX12_text : Cond.selects (mj_own.getD 12 "") yX12_text yX12_text ∈ mj_GW := mj_t6 183 (by decide +kernel) rfl
def mX12_of : mj_m := (12, false, cX12_of, 3, some .int, yX12_of)
def pX12_of : List (Nat × Instr × Nat) := [(0, .aload_n 0, 1), (1, .getfield 52, 3), (4, .bipush 6, 2), (6, .iload_n 1, 1), (7, .imul, 1), (8, .iload_n 2, 1), (9, .iadd, 1), (10, .iaload, 1), (11, .ireturn, 1)]
set_option maxRecDepth 100000 in
theorem dX12_of : mj_pd cX12_of pX12_of := mj_pdB (by decide +kernel)
theorem fX12_of : mj_mf mX12_of := ⟨mj_t6 208 (by decide +kernel) rfl, mj_t1 13 (by decide +kernel) rfl, by decide, by decide, by decide⟩
theorem iX12_of : Cond.instanceMethod yX12_of ∈ mj_GW := mj_t6 207 (by decide +kernel) rfl
theorem vX12_of : Cond.selects (mj_own.getD 12 "") yX12_of yX12_of ∈ mj_GW := mj_p5 0 (by decide +kernel) rfl
def mX12_put_ : mj_m := (12, false, cX12_put_, 4, none, yX12_put_)
def pX12_put_ : List (Nat × Instr × Nat) := [(0, .aload_n 0, 1), (1, .getfield 52, 3), (4, .bipush 6, 2), (6, .iload_n 1, 1), (7, .imul, 1), (8, .iload_n 2, 1), (9, .iadd, 1), (10, .iload_n 3, 1), (11, .iastore, 1), (12, .return_, 1)]
set_option maxRecDepth 100000 in
theorem dX12_put_ : mj_pd cX12_put_ pX12_put_ := mj_pdB (by decide +kernel)
theorem fX12_put_ : mj_mf mX12_put_ := ⟨mj_t6 196 (by decide +kernel) rfl, mj_t1 13 (by decide +kernel) rfl, by decide, by decide, by decide⟩
theorem iX12_put_ : Cond.instanceMethod yX12_put_ ∈ mj_GW := mj_t6 195 (by decide +kernel) rfl
theorem vX12_put_ : Cond.selects (mj_own.getD 12 "") yX12_put_ yX12_put_ ∈ mj_GW := mj_p4 14 (by decide +kernel) rfl
def mX12_isBoat : mj_m := (12, false, cX12_isBoat, 2, some .boolean, yX12_isBoat)
def pX12_isBoat : List (Nat × Instr × Nat) := [(0, .iload_n 1, 1), (1, .iconst 0, 1), (2, .aload_n 0, 1), (3, .getfield 255, 3), (6, .iconst 1, 1), (7, .isub, 1), (8, .invokestatic 214, 3), (11, .ireturn, 1)]
set_option maxRecDepth 100000 in
theorem dX12_isBoat : mj_pd cX12_isBoat pX12_isBoat := mj_pdB (by decide +kernel)
theorem fX12_isBoat : mj_mf mX12_isBoat := ⟨mj_t6 204 (by decide +kernel) rfl, mj_t1 13 (by decide +kernel) rfl, by decide, by decide, by decide⟩
theorem iX12_isBoat : Cond.instanceMethod yX12_isBoat ∈ mj_GW := mj_t6 203 (by decide +kernel) rfl
theorem vX12_isBoat : Cond.selects (mj_own.getD 12 "") yX12_isBoat yX12_isBoat ∈ mj_GW := mj_p4 15 (by decide +kernel) rfl
def mX12_most : mj_m := (12, false, cX12_most, 2, some .int, yX12_most)
def pX12_most : List (Nat × Instr × Nat) := [(0, .aload_n 0, 1), (1, .getfield 49, 3), (4, .bipush 6, 2), (6, .iload_n 1, 1), (7, .imul, 1), (8, .iconst 3, 1), (9, .iadd, 1), (10, .iaload, 1), (11, .ireturn, 1)]
set_option maxRecDepth 100000 in
theorem dX12_most : mj_pd cX12_most pX12_most := mj_pdB (by decide +kernel)
theorem fX12_most : mj_mf mX12_most := ⟨mj_t6 212 (by decide +kernel) rfl, mj_t1 13 (by decide +kernel) rfl, by decide, by decide, by decide⟩
theorem iX12_most : Cond.instanceMethod yX12_most ∈ mj_GW := mj_t6 211 (by decide +kernel) rfl
theorem vX12_most : Cond.selects (mj_own.getD 12 "") yX12_most yX12_most ∈ mj_GW := mj_p5 1 (by decide +kernel) rfl
def mX12_leftSeconds : mj_m := (12, false, cX12_leftSeconds, 1, some .int, yX12_leftSeconds)
def pX12_leftSeconds : List (Nat × Instr × Nat) := [(0, .aload_n 0, 1), (1, .getfield 46, 3), (4, .iconst 5, 1), (5, .iaload, 1), (6, .aload_n 0, 1), (7, .getfield 52, 3), (10, .bipush 48, 2), (12, .iaload, 1), (13, .isub, 1), (14, .ireturn, 1)]
set_option maxRecDepth 100000 in
theorem dX12_leftSeconds : mj_pd cX12_leftSeconds pX12_leftSeconds := mj_pdB (by decide +kernel)
theorem fX12_leftSeconds : mj_mf mX12_leftSeconds := ⟨mj_t7 48 (by decide +kernel) rfl, mj_t1 13 (by decide +kernel) rfl, by decide, by decide, by decide⟩
theorem iX12_leftSeconds : Cond.instanceMethod yX12_leftSeconds ∈ mj_GW := mj_t7 47 (by decide +kernel) rfl
theorem vX12_leftSeconds : Cond.selects (mj_own.getD 12 "") yX12_leftSeconds yX12_leftSeconds ∈ mj_GW := mj_p5 12 (by decide +kernel) rfl
def mX12_believed : mj_m := (12, false, cX12_believed, 2, some .int, yX12_believed)
def pX12_believed : List (Nat × Instr × Nat) := [(0, .aload_n 0, 1), (1, .iload_n 1, 1), (2, .iconst 1, 1), (3, .invokevirtual 283, 3), (6, .aload_n 0, 1), (7, .iload_n 1, 1), (8, .iconst 4, 1), (9, .invokevirtual 283, 3), (12, .iconst 1, 1), (13, .if_icmp .ne 7, 3), (16, .iconst 0, 1), (17, .goto 16, 3), (20, .iconst 5, 1), (21, .aload_n 0, 1), (22, .getfield 49, 3), (25, .bipush 6, 2), (27, .iload_n 1, 1), (28, .imul, 1), (29, .iconst 4, 1), (30, .iadd, 1), (31, .iaload, 1), (32, .isub, 1), (33, .iadd, 1), (34, .ireturn, 1)]
set_option maxRecDepth 100000 in
theorem dX12_believed : mj_pd cX12_believed pX12_believed := mj_pdB (by decide +kernel)
theorem fX12_believed : mj_mf mX12_believed := ⟨mj_t7 4 (by decide +kernel) rfl, mj_t1 13 (by decide +kernel) rfl, by decide, by decide, by decide⟩
theorem iX12_believed : Cond.instanceMethod yX12_believed ∈ mj_GW := mj_t7 3 (by decide +kernel) rfl
theorem vX12_believed : Cond.selects (mj_own.getD 12 "") yX12_believed yX12_believed ∈ mj_GW := mj_p5 8 (by decide +kernel) rfl
def mX12_isShadowed : mj_m := (12, false, cX12_isShadowed, 3, some .boolean, yX12_isShadowed)
def pX12_isShadowed : List (Nat × Instr × Nat) := [(0, .iconst 0, 1), (1, .istore_n 2, 1), (2, .iload_n 2, 1), (3, .aload_n 0, 1), (4, .getfield 255, 3), (7, .if_icmp .ge 57, 3), (10, .iload_n 2, 1), (11, .iload_n 1, 1), (12, .if_icmp .eq 46, 3), (15, .aload_n 0, 1), (16, .iload_n 2, 1), (17, .iconst 0, 1), (18, .invokevirtual 283, 3), (21, .aload_n 0, 1), (22, .iload_n 1, 1), (23, .iconst 0, 1), (24, .invokevirtual 283, 3), (27, .isub, 1), (28, .invokestatic 286, 3), (31, .iconst 1, 1), (32, .if_icmp .gt 26, 3), (35, .aload_n 0, 1), (36, .iload_n 1, 1), (37, .iconst 1, 1), (38, .invokevirtual 283, 3), (41, .aload_n 0, 1), (42, .iload_n 2, 1), (43, .iconst 1, 1), (44, .invokevirtual 283, 3), (47, .isub, 1), (48, .iconst 1, 1), (49, .iconst 3, 1), (50, .invokestatic 214, 3), (53, .ifCond .eq 5, 3), (56, .iconst 1, 1), (57, .ireturn, 1), (58, .iinc 2 1, 3), (61, .goto (-59), 3), (64, .iconst 0, 1), (65, .ireturn, 1)]
set_option maxRecDepth 100000 in
theorem dX12_isShadowed : mj_pd cX12_isShadowed pX12_isShadowed := mj_pdB (by decide +kernel)
theorem fX12_isShadowed : mj_mf mX12_isShadowed := ⟨mj_t6 229 (by decide +kernel) rfl, mj_t1 13 (by decide +kernel) rfl, by decide, by decide, by decide⟩
theorem iX12_isShadowed : Cond.instanceMethod yX12_isShadowed ∈ mj_GW := mj_t6 228 (by decide +kernel) rfl
theorem vX12_isShadowed : Cond.selects (mj_own.getD 12 "") yX12_isShadowed yX12_isShadowed ∈ mj_GW := mj_p5 5 (by decide +kernel) rfl
def mX12_isHeld : mj_m := (12, false, cX12_isHeld, 4, some .boolean, yX12_isHeld)
def pX12_isHeld : List (Nat × Instr × Nat) := [(0, .iconst 0, 1), (1, .istore_n 3, 1), (2, .iload_n 3, 1), (3, .aload_n 0, 1), (4, .getfield 255, 3), (7, .if_icmp .ge 31, 3), (10, .aload_n 0, 1), (11, .iload_n 3, 1), (12, .iconst 0, 1), (13, .invokevirtual 283, 3), (16, .iload_n 1, 1), (17, .if_icmp .ne 15, 3), (20, .aload_n 0, 1), (21, .iload_n 3, 1), (22, .iconst 1, 1), (23, .invokevirtual 283, 3), (26, .iload_n 2, 1), (27, .if_icmp .ne 5, 3), (30, .iconst 1, 1), (31, .ireturn, 1), (32, .iinc 3 1, 3), (35, .goto (-33), 3), (38, .iconst 0, 1), (39, .ireturn, 1)]
set_option maxRecDepth 100000 in
theorem dX12_isHeld : mj_pd cX12_isHeld pX12_isHeld := mj_pdB (by decide +kernel)
theorem fX12_isHeld : mj_mf mX12_isHeld := ⟨mj_t7 32 (by decide +kernel) rfl, mj_t1 13 (by decide +kernel) rfl, by decide, by decide, by decide⟩
theorem iX12_isHeld : Cond.instanceMethod yX12_isHeld ∈ mj_GW := mj_t7 31 (by decide +kernel) rfl
theorem vX12_isHeld : Cond.selects (mj_own.getD 12 "") yX12_isHeld yX12_isHeld ∈ mj_GW := mj_p5 10 (by decide +kernel) rfl
def mX12_isLeewardHeld : mj_m := (12, false, cX12_isLeewardHeld, 2, some .boolean, yX12_isLeewardHeld)
def pX12_isLeewardHeld : List (Nat × Instr × Nat) := [(0, .aload_n 0, 1), (1, .iload_n 1, 1), (2, .iconst 0, 1), (3, .invokevirtual 283, 3), (6, .ifCond .le 28, 3), (9, .aload_n 0, 1), (10, .aload_n 0, 1), (11, .iload_n 1, 1), (12, .iconst 0, 1), (13, .invokevirtual 283, 3), (16, .iconst 1, 1), (17, .isub, 1), (18, .aload_n 0, 1), (19, .iload_n 1, 1), (20, .iconst 1, 1), (21, .invokevirtual 283, 3), (24, .invokevirtual 289, 3), (27, .ifCond .eq 7, 3), (30, .iconst 1, 1), (31, .goto 4, 3), (34, .iconst 0, 1), (35, .ireturn, 1)]
set_option maxRecDepth 100000 in
theorem dX12_isLeewardHeld : mj_pd cX12_isLeewardHeld pX12_isLeewardHeld := mj_pdB (by decide +kernel)
theorem fX12_isLeewardHeld : mj_mf mX12_isLeewardHeld := ⟨mj_t7 64 (by decide +kernel) rfl, mj_t1 13 (by decide +kernel) rfl, by decide, by decide, by decide⟩
theorem iX12_isLeewardHeld : Cond.instanceMethod yX12_isLeewardHeld ∈ mj_GW := mj_t7 63 (by decide +kernel) rfl
theorem vX12_isLeewardHeld : Cond.selects (mj_own.getD 12 "") yX12_isLeewardHeld yX12_isLeewardHeld ∈ mj_GW := mj_p6 0 (by decide +kernel) rfl
def mX12_statusBy : mj_m := (12, false, cX12_statusBy, 3, some .int, yX12_statusBy)
def pX12_statusBy : List (Nat × Instr × Nat) := [(0, .iload_n 2, 1), (1, .iconst 1, 1), (2, .if_icmp .ne 21, 3), (5, .aload_n 0, 1), (6, .iload_n 1, 1), (7, .iconst 5, 1), (8, .invokevirtual 283, 3), (11, .iconst 1, 1), (12, .if_icmp .ne 7, 3), (15, .iconst 2, 1), (16, .goto 21, 3), (19, .iconst 0, 1), (20, .goto 17, 3), (23, .aload_n 0, 1), (24, .iload_n 1, 1), (25, .iconst 1, 1), (26, .invokevirtual 283, 3), (29, .ifCond .ge 7, 3), (32, .iconst 1, 1), (33, .goto 4, 3), (36, .iconst 0, 1), (37, .ireturn, 1)]
set_option maxRecDepth 100000 in
theorem dX12_statusBy : mj_pd cX12_statusBy pX12_statusBy := mj_pdB (by decide +kernel)
theorem fX12_statusBy : mj_mf mX12_statusBy := ⟨mj_t6 216 (by decide +kernel) rfl, mj_t1 13 (by decide +kernel) rfl, by decide, by decide, by decide⟩
theorem iX12_statusBy : Cond.instanceMethod yX12_statusBy ∈ mj_GW := mj_t6 215 (by decide +kernel) rfl
theorem vX12_statusBy : Cond.selects (mj_own.getD 12 "") yX12_statusBy yX12_statusBy ∈ mj_GW := mj_p5 2 (by decide +kernel) rfl
def mX12_scoreBy : mj_m := (12, false, cX12_scoreBy, 6, some .int, yX12_scoreBy)
def pX12_scoreBy : List (Nat × Instr × Nat) := [(0, .aload_n 0, 1), (1, .getfield 46, 3), (4, .iconst 2, 1), (5, .iaload, 1), (6, .ifCond .ne 21, 3), (9, .aload_n 0, 1), (10, .getfield 46, 3), (13, .iconst 0, 1), (14, .iaload, 1), (15, .iconst 1, 1), (16, .isub, 1), (17, .aload_n 0, 1), (18, .iload_n 1, 1), (19, .iconst 0, 1), (20, .invokevirtual 283, 3), (23, .isub, 1), (24, .goto 9, 3), (27, .aload_n 0, 1), (28, .iload_n 1, 1), (29, .iconst 0, 1), (30, .invokevirtual 283, 3), (33, .istore_n 3, 1), (34, .aload_n 0, 1), (35, .iload_n 1, 1), (36, .iload_n 2, 1), (37, .invokevirtual 292, 3), (40, .istore 4, 2), (42, .iconst 5, 1), (43, .aload_n 0, 1), (44, .getfield 46, 3), (47, .iconst 1, 1), (48, .iaload, 1), (49, .imul, 1), (50, .iload_n 3, 1), (51, .imul, 1), (52, .aload_n 0, 1), (53, .getfield 46, 3), (56, .iconst 0, 1), (57, .iaload, 1), (58, .iconst 1, 1), (59, .isub, 1), (60, .idiv, 1), (61, .aload_n 0, 1), (62, .iload_n 1, 1), (63, .iconst 2, 1), (64, .invokevirtual 283, 3), (67, .iadd, 1), (68, .iconst 0, 1), (69, .aload_n 0, 1), (70, .iload_n 1, 1), (71, .iconst 1, 1), (72, .invokevirtual 283, 3), (75, .invokestatic 295, 3), (78, .isub, 1), (79, .istore 5, 2), (81, .iload 5, 2), (83, .aload_n 0, 1), (84, .iload_n 1, 1), (85, .invokevirtual 297, 3), (88, .ifCond .eq 7, 3), (91, .iconst 5, 1), (92, .goto 4, 3), (95, .iconst 0, 1), (96, .isub, 1), (97, .iload 4, 2), (99, .iconst 1, 1), (100, .if_icmp .ne 8, 3), (103, .bipush 30, 2), (105, .goto 15, 3), (108, .iload 4, 2), (110, .iconst 2, 1), (111, .if_icmp .ne 8, 3), (114, .bipush 100, 2), (116, .goto 4, 3), (119, .iconst 0, 1), (120, .isub, 1), (121, .ireturn, 1)]
set_option maxRecDepth 100000 in
theorem dX12_scoreBy : mj_pd cX12_scoreBy pX12_scoreBy := mj_pdB (by decide +kernel)
theorem fX12_scoreBy : mj_mf mX12_scoreBy := ⟨mj_t6 224 (by decide +kernel) rfl, mj_t1 13 (by decide +kernel) rfl, by decide, by decide, by decide⟩
theorem iX12_scoreBy : Cond.instanceMethod yX12_scoreBy ∈ mj_GW := mj_t6 223 (by decide +kernel) rfl
theorem vX12_scoreBy : Cond.selects (mj_own.getD 12 "") yX12_scoreBy yX12_scoreBy ∈ mj_GW := mj_p5 4 (by decide +kernel) rfl
def mX12_scoreOf : mj_m := (12, false, cX12_scoreOf, 2, some .int, yX12_scoreOf)
def pX12_scoreOf : List (Nat × Instr × Nat) := [(0, .aload_n 0, 1), (1, .iload_n 1, 1), (2, .aload_n 0, 1), (3, .getfield 46, 3), (6, .bipush 6, 2), (8, .iaload, 1), (9, .invokevirtual 300, 3), (12, .ireturn, 1)]
set_option maxRecDepth 100000 in
theorem dX12_scoreOf : mj_pd cX12_scoreOf pX12_scoreOf := mj_pdB (by decide +kernel)
theorem fX12_scoreOf : mj_mf mX12_scoreOf := ⟨mj_t6 220 (by decide +kernel) rfl, mj_t1 13 (by decide +kernel) rfl, by decide, by decide, by decide⟩
theorem iX12_scoreOf : Cond.instanceMethod yX12_scoreOf ∈ mj_GW := mj_t6 219 (by decide +kernel) rfl
theorem vX12_scoreOf : Cond.selects (mj_own.getD 12 "") yX12_scoreOf yX12_scoreOf ∈ mj_GW := mj_p5 3 (by decide +kernel) rfl
def mX12_placeBy : mj_m := (12, false, cX12_placeBy, 6, some .int, yX12_placeBy)
def pX12_placeBy : List (Nat × Instr × Nat) := [(0, .iconst 1, 1), (1, .istore_n 3, 1), (2, .iconst 0, 1), (3, .istore 4, 2), (5, .iload 4, 2), (7, .aload_n 0, 1), (8, .getfield 255, 3), (11, .if_icmp .ge 55, 3), (14, .aload_n 0, 1), (15, .iload 4, 2), (17, .iload_n 2, 1), (18, .invokevirtual 300, 3), (21, .aload_n 0, 1), (22, .iload_n 1, 1), (23, .iload_n 2, 1), (24, .invokevirtual 300, 3), (27, .isub, 1), (28, .istore 5, 2), (30, .iload_n 3, 1), (31, .iload 4, 2), (33, .iload_n 1, 1), (34, .if_icmp .eq 23, 3), (37, .iload 5, 2), (39, .ifCond .gt 14, 3), (42, .iload 5, 2), (44, .ifCond .ne 13, 3), (47, .iload 4, 2), (49, .iload_n 1, 1), (50, .if_icmp .ge 7, 3), (53, .iconst 1, 1), (54, .goto 4, 3), (57, .iconst 0, 1), (58, .iadd, 1), (59, .istore_n 3, 1), (60, .iinc 4 1, 3), (63, .goto (-58), 3), (66, .iload_n 3, 1), (67, .ireturn, 1)]
set_option maxRecDepth 100000 in
theorem dX12_placeBy : mj_pd cX12_placeBy pX12_placeBy := mj_pdB (by decide +kernel)
theorem fX12_placeBy : mj_mf mX12_placeBy := ⟨mj_t7 0 (by decide +kernel) rfl, mj_t1 13 (by decide +kernel) rfl, by decide, by decide, by decide⟩
theorem iX12_placeBy : Cond.instanceMethod yX12_placeBy ∈ mj_GW := mj_t6 239 (by decide +kernel) rfl
theorem vX12_placeBy : Cond.selects (mj_own.getD 12 "") yX12_placeBy yX12_placeBy ∈ mj_GW := mj_p5 7 (by decide +kernel) rfl
def mX12_placeOf : mj_m := (12, false, cX12_placeOf, 2, some .int, yX12_placeOf)
def pX12_placeOf : List (Nat × Instr × Nat) := [(0, .aload_n 0, 1), (1, .iload_n 1, 1), (2, .aload_n 0, 1), (3, .getfield 46, 3), (6, .bipush 6, 2), (8, .iaload, 1), (9, .invokevirtual 303, 3), (12, .ireturn, 1)]
set_option maxRecDepth 100000 in
theorem dX12_placeOf : mj_pd cX12_placeOf pX12_placeOf := mj_pdB (by decide +kernel)
theorem fX12_placeOf : mj_mf mX12_placeOf := ⟨mj_t6 236 (by decide +kernel) rfl, mj_t1 13 (by decide +kernel) rfl, by decide, by decide, by decide⟩
theorem iX12_placeOf : Cond.instanceMethod yX12_placeOf ∈ mj_GW := mj_t6 235 (by decide +kernel) rfl
theorem vX12_placeOf : Cond.selects (mj_own.getD 12 "") yX12_placeOf yX12_placeOf ∈ mj_GW := mj_p5 6 (by decide +kernel) rfl
def mX12_boat : mj_m := (12, false, cX12_boat, 3, some .int, yX12_boat)
def pX12_boat : List (Nat × Instr × Nat) := [(0, .aload_n 0, 1), (1, .aload_n 0, 1), (2, .iload_n 1, 1), (3, .invokevirtual 306, 3), (6, .ifCond .eq 17, 3), (9, .iload_n 2, 1), (10, .iconst 0, 1), (11, .bipush 11, 2), (13, .invokestatic 214, 3), (16, .ifCond .eq 7, 3), (19, .iconst 0, 1), (20, .goto 4, 3), (23, .iconst 1, 1), (24, .putfield 99, 3), (27, .aload_n 0, 1), (28, .getfield 99, 3), (31, .iconst 1, 1), (32, .if_icmp .ne 5, 3), (35, .iconst 0, 1), (36, .ireturn, 1), (37, .iload_n 2, 1), (38, .tableswitch 129 0 10 #[58, 58, 58, 65, 71, 83, 90, 97, 104, 117, 123], 58), (96, .aload_n 0, 1), (97, .iload_n 1, 1), (98, .iload_n 2, 1), (99, .invokevirtual 283, 3), (102, .ireturn, 1), (103, .aload_n 0, 1), (104, .iload_n 1, 1), (105, .invokevirtual 309, 3), (108, .ireturn, 1), (109, .aload_n 0, 1), (110, .getfield 49, 3), (113, .bipush 6, 2), (115, .iload_n 1, 1), (116, .imul, 1), (117, .iconst 4, 1), (118, .iadd, 1), (119, .iaload, 1), (120, .ireturn, 1), (121, .aload_n 0, 1), (122, .iload_n 1, 1), (123, .iconst 3, 1), (124, .invokevirtual 283, 3), (127, .ireturn, 1), (128, .aload_n 0, 1), (129, .iload_n 1, 1), (130, .iconst 4, 1), (131, .invokevirtual 283, 3), (134, .ireturn, 1), (135, .aload_n 0, 1), (136, .iload_n 1, 1), (137, .iconst 5, 1), (138, .invokevirtual 283, 3), (141, .ireturn, 1), (142, .aload_n 0, 1), (143, .iload_n 1, 1), (144, .aload_n 0, 1), (145, .getfield 46, 3), (148, .bipush 6, 2), (150, .iaload, 1), (151, .invokevirtual 292, 3), (154, .ireturn, 1), (155, .aload_n 0, 1), (156, .iload_n 1, 1), (157, .invokevirtual 312, 3), (160, .ireturn, 1), (161, .aload_n 0, 1), (162, .iload_n 1, 1), (163, .invokevirtual 315, 3), (166, .ireturn, 1), (167, .aload_n 0, 1), (168, .iload_n 1, 1), (169, .invokevirtual 318, 3), (172, .ireturn, 1)]
set_option maxRecDepth 100000 in
theorem dX12_boat : mj_pd cX12_boat pX12_boat := mj_pdB (by decide +kernel)
theorem fX12_boat : mj_mf mX12_boat := ⟨mj_t6 200 (by decide +kernel) rfl, mj_t1 13 (by decide +kernel) rfl, by decide, by decide, by decide⟩
theorem iX12_boat : Cond.instanceMethod yX12_boat ∈ mj_GW := mj_t6 198 (by decide +kernel) rfl
theorem vX12_boat : Cond.selects (mj_own.getD 12 "") yX12_boat yX12_boat ∈ mj_GW := mj_t6 199 (by decide +kernel) rfl
def mX12_line : mj_m := (12, false, cX12_line, 2, some .int, yX12_line)
def pX12_line : List (Nat × Instr × Nat) := [(0, .aload_n 0, 1), (1, .getfield 255, 3), (4, .ifCond .le 22, 3), (7, .iload_n 1, 1), (8, .iconst 0, 1), (9, .bipush 6, 2), (11, .invokestatic 214, 3), (14, .ifCond .eq 12, 3), (17, .aload_n 0, 1), (18, .getfield 46, 3), (21, .iload_n 1, 1), (22, .iaload, 1), (23, .goto 4, 3), (26, .iconst (-1), 1), (27, .ireturn, 1)]
set_option maxRecDepth 100000 in
theorem dX12_line : mj_pd cX12_line pX12_line := mj_pdB (by decide +kernel)
theorem fX12_line : mj_mf mX12_line := ⟨mj_t7 8 (by decide +kernel) rfl, mj_t1 13 (by decide +kernel) rfl, by decide, by decide, by decide⟩
theorem iX12_line : Cond.instanceMethod yX12_line ∈ mj_GW := mj_t7 6 (by decide +kernel) rfl
theorem vX12_line : Cond.selects (mj_own.getD 12 "") yX12_line yX12_line ∈ mj_GW := mj_t7 7 (by decide +kernel) rfl
def mX12_faster : mj_m := (12, false, cX12_faster, 3, none, yX12_faster)
def pX12_faster : List (Nat × Instr × Nat) := [(0, .aload_n 0, 1), (1, .iload_n 1, 1), (2, .iconst 2, 1), (3, .iconst 0, 1), (4, .aload_n 0, 1), (5, .iload_n 1, 1), (6, .invokevirtual 309, 3), (9, .aload_n 0, 1), (10, .iload_n 1, 1), (11, .iconst 2, 1), (12, .invokevirtual 283, 3), (15, .iload_n 2, 1), (16, .iadd, 1), (17, .invokestatic 321, 3), (20, .invokestatic 295, 3), (23, .invokevirtual 274, 3), (26, .return_, 1)]
set_option maxRecDepth 100000 in
theorem dX12_faster : mj_pd cX12_faster pX12_faster := mj_pdB (by decide +kernel)
theorem fX12_faster : mj_mf mX12_faster := ⟨mj_t7 93 (by decide +kernel) rfl, mj_t1 13 (by decide +kernel) rfl, by decide, by decide, by decide⟩
theorem iX12_faster : Cond.instanceMethod yX12_faster ∈ mj_GW := mj_t7 92 (by decide +kernel) rfl
theorem vX12_faster : Cond.selects (mj_own.getD 12 "") yX12_faster yX12_faster ∈ mj_GW := mj_p6 3 (by decide +kernel) rfl
def mX12_wantsOf : mj_m := (12, false, cX12_wantsOf, 5, some .int, yX12_wantsOf)
def pX12_wantsOf : List (Nat × Instr × Nat) := [(0, .aload_n 0, 1), (1, .iload_n 1, 1), (2, .iconst 3, 1), (3, .invokevirtual 283, 3), (6, .istore_n 2, 1), (7, .iload_n 2, 1), (8, .iconst 0, 1), (9, .aload_n 0, 1), (10, .getfield 280, 3), (13, .iconst 1, 1), (14, .isub, 1), (15, .invokestatic 214, 3), (18, .ifCond .ne 5, 3), (21, .iconst 0, 1), (22, .ireturn, 1), (23, .iconst 0, 1), (24, .istore_n 3, 1), (25, .iconst 0, 1), (26, .istore 4, 2), (28, .iload 4, 2), (30, .aload_n 0, 1), (31, .getfield 255, 3), (34, .if_icmp .ge 44, 3), (37, .iload_n 3, 1), (38, .iload 4, 2), (40, .iload_n 1, 1), (41, .if_icmp .eq 28, 3), (44, .aload_n 0, 1), (45, .iload 4, 2), (47, .iconst 0, 1), (48, .invokevirtual 283, 3), (51, .aload_n 0, 1), (52, .iload_n 1, 1), (53, .iconst 0, 1), (54, .invokevirtual 283, 3), (57, .isub, 1), (58, .invokestatic 286, 3), (61, .iconst 1, 1), (62, .if_icmp .gt 7, 3), (65, .iconst 1, 1), (66, .goto 4, 3), (69, .iconst 0, 1), (70, .iadd, 1), (71, .istore_n 3, 1), (72, .iinc 4 1, 3), (75, .goto (-47), 3), (78, .aload_n 0, 1), (79, .getfield 34, 3), (82, .iconst 0, 1), (83, .aload_n 0, 1), (84, .iload_n 1, 1), (85, .invokevirtual 318, 3), (88, .iastore, 1), (89, .aload_n 0, 1), (90, .getfield 34, 3), (93, .iconst 1, 1), (94, .aload_n 0, 1), (95, .invokevirtual 323, 3), (98, .iastore, 1), (99, .aload_n 0, 1), (100, .getfield 34, 3), (103, .iconst 2, 1), (104, .aload_n 0, 1), (105, .iload_n 1, 1), (106, .iconst 2, 1), (107, .invokevirtual 283, 3), (110, .iastore, 1), (111, .aload_n 0, 1), (112, .getfield 34, 3), (115, .iconst 3, 1), (116, .aload_n 0, 1), (117, .iload_n 1, 1), (118, .iconst 0, 1), (119, .invokevirtual 283, 3), (122, .iastore, 1), (123, .aload_n 0, 1), (124, .getfield 34, 3), (127, .iconst 4, 1), (128, .iload_n 3, 1), (129, .iastore, 1), (130, .aload_n 0, 1), (131, .getfield 34, 3), (134, .iconst 5, 1), (135, .aload_n 0, 1), (136, .iload_n 1, 1), (137, .invokevirtual 297, 3), (140, .ifCond .eq 7, 3), (143, .iconst 1, 1), (144, .goto 4, 3), (147, .iconst 0, 1), (148, .iastore, 1), (149, .aload_n 0, 1), (150, .getfield 34, 3), (153, .bipush 6, 2), (155, .aload_n 0, 1), (156, .iload_n 1, 1), (157, .invokevirtual 326, 3), (160, .ifCond .eq 7, 3), (163, .iconst 1, 1), (164, .goto 4, 3), (167, .iconst 0, 1), (168, .iastore, 1), (169, .aload_n 0, 1), (170, .iload_n 2, 1), (171, .invokevirtual 329, 3), (174, .invokestatic 332, 3), (177, .ireturn, 1)]
set_option maxRecDepth 100000 in
theorem dX12_wantsOf : mj_pd cX12_wantsOf pX12_wantsOf := mj_pdB (by decide +kernel)
theorem fX12_wantsOf : mj_mf mX12_wantsOf := ⟨mj_t7 60 (by decide +kernel) rfl, mj_t1 13 (by decide +kernel) rfl, by decide, by decide, by decide⟩
theorem iX12_wantsOf : Cond.instanceMethod yX12_wantsOf ∈ mj_GW := mj_t7 59 (by decide +kernel) rfl
theorem vX12_wantsOf : Cond.selects (mj_own.getD 12 "") yX12_wantsOf yX12_wantsOf ∈ mj_GW := mj_p5 15 (by decide +kernel) rfl
def mX12_speedAll : mj_m := (12, false, cX12_speedAll, 2, none, yX12_speedAll)
def pX12_speedAll : List (Nat × Instr × Nat) := [(0, .iconst 0, 1), (1, .istore_n 1, 1), (2, .iload_n 1, 1), (3, .aload_n 0, 1), (4, .getfield 255, 3), (7, .if_icmp .ge 55, 3), (10, .aload_n 0, 1), (11, .getfield 59, 3), (14, .iload_n 1, 1), (15, .aload_n 0, 1), (16, .iload_n 1, 1), (17, .invokevirtual 297, 3), (20, .bastore, 1), (21, .aload_n 0, 1), (22, .getfield 63, 3), (25, .iload_n 1, 1), (26, .aload_n 0, 1), (27, .iload_n 1, 1), (28, .iconst 1, 1), (29, .invokevirtual 283, 3), (32, .iastore, 1), (33, .aload_n 0, 1), (34, .getfield 66, 3), (37, .iload_n 1, 1), (38, .iload_n 1, 1), (39, .aload_n 0, 1), (40, .getfield 55, 3), (43, .if_icmp .ne 7, 3), (46, .iconst 0, 1), (47, .goto 8, 3), (50, .aload_n 0, 1), (51, .iload_n 1, 1), (52, .invokevirtual 337, 3), (55, .iastore, 1), (56, .iinc 1 1, 3), (59, .goto (-57), 3), (62, .iconst 0, 1), (63, .istore_n 1, 1), (64, .iload_n 1, 1), (65, .aload_n 0, 1), (66, .getfield 255, 3), (69, .if_icmp .ge 20, 3), (72, .aload_n 0, 1), (73, .iload_n 1, 1), (74, .aload_n 0, 1), (75, .getfield 66, 3), (78, .iload_n 1, 1), (79, .iaload, 1), (80, .invokevirtual 340, 3), (83, .iinc 1 1, 3), (86, .goto (-22), 3), (89, .aload_n 0, 1), (90, .getfield 55, 3), (93, .iconst (-1), 1), (94, .if_icmp .eq 42, 3), (97, .aload_n 0, 1), (98, .getfield 343, 3), (101, .ifCond .le 26, 3), (104, .aload_n 0, 1), (105, .aload_n 0, 1), (106, .getfield 55, 3), (109, .iconst 2, 1), (110, .iconst 0, 1), (111, .invokevirtual 274, 3), (114, .aload_n 0, 1), (115, .dup, 1), (116, .getfield 343, 3), (119, .iconst 1, 1), (120, .isub, 1), (121, .putfield 343, 3), (124, .goto 12, 3), (127, .aload_n 0, 1), (128, .aload_n 0, 1), (129, .getfield 55, 3), (132, .iconst 1, 1), (133, .invokevirtual 340, 3), (136, .return_, 1)]
set_option maxRecDepth 100000 in
theorem dX12_speedAll : mj_pd cX12_speedAll pX12_speedAll := mj_pdB (by decide +kernel)
theorem fX12_speedAll : mj_mf mX12_speedAll := ⟨mj_t7 56 (by decide +kernel) rfl, mj_t1 13 (by decide +kernel) rfl, by decide, by decide, by decide⟩
theorem iX12_speedAll : Cond.instanceMethod yX12_speedAll ∈ mj_GW := mj_t7 55 (by decide +kernel) rfl
theorem vX12_speedAll : Cond.selects (mj_own.getD 12 "") yX12_speedAll yX12_speedAll ∈ mj_GW := mj_p5 14 (by decide +kernel) rfl
def mX12_goOne : mj_m := (12, false, cX12_goOne, 3, none, yX12_goOne)
def pX12_goOne : List (Nat × Instr × Nat) := [(0, .iconst 0, 1), (1, .aload_n 0, 1), (2, .iload_n 1, 1), (3, .iconst 2, 1), (4, .invokevirtual 283, 3), (7, .aload_n 0, 1), (8, .getfield 59, 3), (11, .iload_n 1, 1), (12, .baload, 1), (13, .ifCond .eq 7, 3), (16, .iconst 1, 1), (17, .goto 4, 3), (20, .iconst 0, 1), (21, .isub, 1), (22, .invokestatic 295, 3), (25, .istore_n 2, 1), (26, .iload_n 2, 1), (27, .ifCond .le 56, 3), (30, .aload_n 0, 1), (31, .aload_n 0, 1), (32, .iload_n 1, 1), (33, .iconst 0, 1), (34, .invokevirtual 283, 3), (37, .aload_n 0, 1), (38, .iload_n 1, 1), (39, .iconst 1, 1), (40, .invokevirtual 283, 3), (43, .iconst 1, 1), (44, .isub, 1), (45, .invokevirtual 289, 3), (48, .ifCond .eq 15, 3), (51, .aload_n 0, 1), (52, .iload_n 1, 1), (53, .iconst 2, 1), (54, .iconst 0, 1), (55, .invokevirtual 274, 3), (58, .iconst 0, 1), (59, .istore_n 2, 1), (60, .goto (-34), 3), (63, .aload_n 0, 1), (64, .iload_n 1, 1), (65, .iconst 1, 1), (66, .aload_n 0, 1), (67, .iload_n 1, 1), (68, .iconst 1, 1), (69, .invokevirtual 283, 3), (72, .iconst 1, 1), (73, .isub, 1), (74, .invokevirtual 274, 3), (77, .iinc 2 (-1), 3), (80, .goto (-54), 3), (83, .return_, 1)]
set_option maxRecDepth 100000 in
theorem dX12_goOne : mj_pd cX12_goOne pX12_goOne := mj_pdB (by decide +kernel)
theorem fX12_goOne : mj_mf mX12_goOne := ⟨mj_t7 102 (by decide +kernel) rfl, mj_t1 13 (by decide +kernel) rfl, by decide, by decide, by decide⟩
theorem iX12_goOne : Cond.instanceMethod yX12_goOne ∈ mj_GW := mj_t7 101 (by decide +kernel) rfl
theorem vX12_goOne : Cond.selects (mj_own.getD 12 "") yX12_goOne yX12_goOne ∈ mj_GW := mj_p6 5 (by decide +kernel) rfl
def mX12_goAll : mj_m := (12, false, cX12_goAll, 5, none, yX12_goAll)
def pX12_goAll : List (Nat × Instr × Nat) := [(0, .iconst 0, 1), (1, .istore_n 1, 1), (2, .iconst 0, 1), (3, .istore_n 2, 1), (4, .iload_n 2, 1), (5, .aload_n 0, 1), (6, .getfield 255, 3), (9, .if_icmp .ge 77, 3), (12, .iconst (-1), 1), (13, .istore_n 3, 1), (14, .iconst 0, 1), (15, .istore 4, 2), (17, .iload 4, 2), (19, .aload_n 0, 1), (20, .getfield 255, 3), (23, .if_icmp .ge 46, 3), (26, .iload_n 1, 1), (27, .iload 4, 2), (29, .invokestatic 225, 3), (32, .ifCond .ne 29, 3), (35, .iload_n 3, 1), (36, .iconst (-1), 1), (37, .if_icmp .eq 19, 3), (40, .aload_n 0, 1), (41, .getfield 63, 3), (44, .iload 4, 2), (46, .iaload, 1), (47, .aload_n 0, 1), (48, .getfield 63, 3), (51, .iload_n 3, 1), (52, .iaload, 1), (53, .if_icmp .ge 8, 3), (56, .iload 4, 2), (58, .goto 4, 3), (61, .iload_n 3, 1), (62, .istore_n 3, 1), (63, .iinc 4 1, 3), (66, .goto (-49), 3), (69, .iload_n 1, 1), (70, .iconst 1, 1), (71, .iload_n 3, 1), (72, .ishl, 1), (73, .ior, 1), (74, .istore_n 1, 1), (75, .aload_n 0, 1), (76, .iload_n 3, 1), (77, .invokevirtual 346, 3), (80, .iinc 2 1, 3), (83, .goto (-79), 3), (86, .aload_n 0, 1), (87, .getfield 52, 3), (90, .bipush 48, 2), (92, .dup2, 1), (93, .iaload, 1), (94, .iconst 1, 1), (95, .iadd, 1), (96, .iastore, 1), (97, .aload_n 0, 1), (98, .getfield 46, 3), (101, .iconst 3, 1), (102, .iaload, 1), (103, .ifCond .eq 50, 3), (106, .aload_n 0, 1), (107, .getfield 52, 3), (110, .bipush 48, 2), (112, .iaload, 1), (113, .aload_n 0, 1), (114, .getfield 46, 3), (117, .iconst 3, 1), (118, .iaload, 1), (119, .irem, 1), (120, .ifCond .ne 33, 3), (123, .iconst 0, 1), (124, .istore_n 2, 1), (125, .iload_n 2, 1), (126, .aload_n 0, 1), (127, .getfield 255, 3), (130, .if_icmp .ge 23, 3), (133, .aload_n 0, 1), (134, .iload_n 2, 1), (135, .iconst 1, 1), (136, .aload_n 0, 1), (137, .iload_n 2, 1), (138, .iconst 1, 1), (139, .invokevirtual 283, 3), (142, .iconst 1, 1), (143, .isub, 1), (144, .invokevirtual 274, 3), (147, .iinc 2 1, 3), (150, .goto (-25), 3), (153, .aload_n 0, 1), (154, .getfield 46, 3), (157, .iconst 4, 1), (158, .iaload, 1), (159, .ifCond .eq 24, 3), (162, .aload_n 0, 1), (163, .getfield 52, 3), (166, .bipush 48, 2), (168, .iaload, 1), (169, .aload_n 0, 1), (170, .getfield 46, 3), (173, .iconst 4, 1), (174, .iaload, 1), (175, .irem, 1), (176, .ifCond .ne 7, 3), (179, .aload_n 0, 1), (180, .invokevirtual 349, 3), (183, .iconst 0, 1), (184, .istore_n 2, 1), (185, .iload_n 2, 1), (186, .aload_n 0, 1), (187, .getfield 255, 3), (190, .if_icmp .ge 43, 3), (193, .aload_n 0, 1), (194, .iload_n 2, 1), (195, .iconst 5, 1), (196, .aload_n 0, 1), (197, .iload_n 2, 1), (198, .iconst 1, 1), (199, .invokevirtual 283, 3), (202, .ifCond .ge 16, 3), (205, .aload_n 0, 1), (206, .invokevirtual 323, 3), (209, .bipush 9, 2), (211, .if_icmp .gt 7, 3), (214, .iconst 1, 1), (215, .goto 9, 3), (218, .aload_n 0, 1), (219, .iload_n 2, 1), (220, .iconst 5, 1), (221, .invokevirtual 283, 3), (224, .invokevirtual 274, 3), (227, .iinc 2 1, 3), (230, .goto (-45), 3), (233, .return_, 1)]
set_option maxRecDepth 100000 in
theorem dX12_goAll : mj_pd cX12_goAll pX12_goAll := mj_pdB (by decide +kernel)
theorem fX12_goAll : mj_mf mX12_goAll := ⟨mj_t7 98 (by decide +kernel) rfl, mj_t1 13 (by decide +kernel) rfl, by decide, by decide, by decide⟩
theorem iX12_goAll : Cond.instanceMethod yX12_goAll ∈ mj_GW := mj_t7 97 (by decide +kernel) rfl
theorem vX12_goAll : Cond.selects (mj_own.getD 12 "") yX12_goAll yX12_goAll ∈ mj_GW := mj_p6 4 (by decide +kernel) rfl
def mX12_drift : mj_m := (12, false, cX12_drift, 3, none, yX12_drift)
def pX12_drift : List (Nat × Instr × Nat) := [(0, .aload_n 0, 1), (1, .getfield 46, 3), (4, .iconst 0, 1), (5, .iaload, 1), (6, .iconst 2, 1), (7, .isub, 1), (8, .istore_n 1, 1), (9, .iload_n 1, 1), (10, .ifCond .lt 60, 3), (13, .iconst 0, 1), (14, .istore_n 2, 1), (15, .iload_n 2, 1), (16, .aload_n 0, 1), (17, .getfield 255, 3), (20, .if_icmp .ge 44, 3), (23, .aload_n 0, 1), (24, .iload_n 2, 1), (25, .iconst 0, 1), (26, .invokevirtual 283, 3), (29, .iload_n 1, 1), (30, .if_icmp .ne 28, 3), (33, .aload_n 0, 1), (34, .iload_n 1, 1), (35, .iconst 1, 1), (36, .iadd, 1), (37, .aload_n 0, 1), (38, .iload_n 2, 1), (39, .iconst 1, 1), (40, .invokevirtual 283, 3), (43, .invokevirtual 289, 3), (46, .ifCond .ne 12, 3), (49, .aload_n 0, 1), (50, .iload_n 2, 1), (51, .iconst 0, 1), (52, .iload_n 1, 1), (53, .iconst 1, 1), (54, .iadd, 1), (55, .invokevirtual 274, 3), (58, .iinc 2 1, 3), (61, .goto (-46), 3), (64, .iinc 1 (-1), 3), (67, .goto (-58), 3), (70, .return_, 1)]
set_option maxRecDepth 100000 in
theorem dX12_drift : mj_pd cX12_drift pX12_drift := mj_pdB (by decide +kernel)
theorem fX12_drift : mj_mf mX12_drift := ⟨mj_t7 106 (by decide +kernel) rfl, mj_t1 13 (by decide +kernel) rfl, by decide, by decide, by decide⟩
theorem iX12_drift : Cond.instanceMethod yX12_drift ∈ mj_GW := mj_t7 105 (by decide +kernel) rfl
theorem vX12_drift : Cond.selects (mj_own.getD 12 "") yX12_drift yX12_drift ∈ mj_GW := mj_p6 6 (by decide +kernel) rfl
def mX12_pass : mj_m := (12, false, cX12_pass, 1, none, yX12_pass)
def pX12_pass : List (Nat × Instr × Nat) := [(0, .aload_n 0, 1), (1, .invokevirtual 352, 3), (4, .aload_n 0, 1), (5, .invokevirtual 355, 3), (8, .return_, 1)]
set_option maxRecDepth 100000 in
theorem dX12_pass : mj_pd cX12_pass pX12_pass := mj_pdB (by decide +kernel)
theorem fX12_pass : mj_mf mX12_pass := ⟨mj_t7 52 (by decide +kernel) rfl, mj_t1 13 (by decide +kernel) rfl, by decide, by decide, by decide⟩
theorem iX12_pass : Cond.instanceMethod yX12_pass ∈ mj_GW := mj_t7 51 (by decide +kernel) rfl
theorem vX12_pass : Cond.selects (mj_own.getD 12 "") yX12_pass yX12_pass ∈ mj_GW := mj_p5 13 (by decide +kernel) rfl
def mX12_keep : mj_m := (12, false, cX12_keep, 2, some .int, yX12_keep)
def pX12_keep : List (Nat × Instr × Nat) := [(0, .aload_n 0, 1), (1, .getfield 267, 3), (4, .bipush 40, 2), (6, .if_icmp .ne 44, 3), (9, .bipush 49, 2), (11, .istore_n 1, 1), (12, .iload_n 1, 1), (13, .sipush 1960, 3), (16, .if_icmp .ge 24, 3), (19, .aload_n 0, 1), (20, .getfield 69, 3), (23, .iload_n 1, 1), (24, .bipush 49, 2), (26, .isub, 1), (27, .aload_n 0, 1), (28, .getfield 69, 3), (31, .iload_n 1, 1), (32, .iaload, 1), (33, .iastore, 1), (34, .iinc 1 1, 3), (37, .goto (-25), 3), (40, .aload_n 0, 1), (41, .dup, 1), (42, .getfield 267, 3), (45, .iconst 1, 1), (46, .isub, 1), (47, .putfield 267, 3), (50, .iconst 0, 1), (51, .istore_n 1, 1), (52, .iload_n 1, 1), (53, .bipush 49, 2), (55, .if_icmp .ge 29, 3), (58, .aload_n 0, 1), (59, .getfield 69, 3), (62, .bipush 49, 2), (64, .aload_n 0, 1), (65, .getfield 267, 3), (68, .imul, 1), (69, .iload_n 1, 1), (70, .iadd, 1), (71, .aload_n 0, 1), (72, .getfield 52, 3), (75, .iload_n 1, 1), (76, .iaload, 1), (77, .iastore, 1), (78, .iinc 1 1, 3), (81, .goto (-29), 3), (84, .aload_n 0, 1), (85, .dup, 1), (86, .getfield 267, 3), (89, .iconst 1, 1), (90, .iadd, 1), (91, .putfield 267, 3), (94, .aload_n 0, 1), (95, .getfield 267, 3), (98, .ireturn, 1)]
set_option maxRecDepth 100000 in
theorem dX12_keep : mj_pd cX12_keep pX12_keep := mj_pdB (by decide +kernel)
theorem fX12_keep : mj_mf mX12_keep := ⟨mj_t7 16 (by decide +kernel) rfl, mj_t1 13 (by decide +kernel) rfl, by decide, by decide, by decide⟩
theorem iX12_keep : Cond.instanceMethod yX12_keep ∈ mj_GW := mj_t7 15 (by decide +kernel) rfl
theorem vX12_keep : Cond.selects (mj_own.getD 12 "") yX12_keep yX12_keep ∈ mj_GW := mj_p5 9 (by decide +kernel) rfl
def mX12_rule : mj_m := (12, false, cX12_rule, 3, some .int, yX12_rule)
def pX12_rule : List (Nat × Instr × Nat) := [(0, .aload_n 0, 1), (1, .iload_n 1, 1), (2, .invokevirtual 306, 3), (5, .ifCond .eq 22, 3), (8, .iload_n 2, 1), (9, .iconst (-1), 1), (10, .iconst 3, 1), (11, .invokestatic 214, 3), (14, .ifCond .eq 13, 3), (17, .aload_n 0, 1), (18, .iload_n 1, 1), (19, .iconst 3, 1), (20, .invokevirtual 283, 3), (23, .iload_n 2, 1), (24, .if_icmp .ne 5, 3), (27, .iconst (-1), 1), (28, .ireturn, 1), (29, .aload_n 0, 1), (30, .invokevirtual 358, 3), (33, .pop, 1), (34, .aload_n 0, 1), (35, .iload_n 1, 1), (36, .iconst 3, 1), (37, .iload_n 2, 1), (38, .invokevirtual 274, 3), (41, .aload_n 0, 1), (42, .getfield 267, 3), (45, .ireturn, 1)]
set_option maxRecDepth 100000 in
theorem dX12_rule : mj_pd cX12_rule pX12_rule := mj_pdB (by decide +kernel)
theorem fX12_rule : mj_mf mX12_rule := ⟨mj_t7 12 (by decide +kernel) rfl, mj_t1 13 (by decide +kernel) rfl, by decide, by decide, by decide⟩
theorem iX12_rule : Cond.instanceMethod yX12_rule ∈ mj_GW := mj_t7 10 (by decide +kernel) rfl
theorem vX12_rule : Cond.selects (mj_own.getD 12 "") yX12_rule yX12_rule ∈ mj_GW := mj_t7 11 (by decide +kernel) rfl
def mX12_mark : mj_m := (12, false, cX12_mark, 2, some .int, yX12_mark)
def pX12_mark : List (Nat × Instr × Nat) := [(0, .aload_n 0, 1), (1, .iload_n 1, 1), (2, .invokevirtual 306, 3), (5, .ifCond .eq 13, 3), (8, .aload_n 0, 1), (9, .iload_n 1, 1), (10, .iconst 4, 1), (11, .invokevirtual 283, 3), (14, .iconst 1, 1), (15, .if_icmp .ne 5, 3), (18, .iconst (-1), 1), (19, .ireturn, 1), (20, .aload_n 0, 1), (21, .invokevirtual 358, 3), (24, .pop, 1), (25, .aload_n 0, 1), (26, .iload_n 1, 1), (27, .iconst 4, 1), (28, .iconst 1, 1), (29, .invokevirtual 274, 3), (32, .aload_n 0, 1), (33, .getfield 267, 3), (36, .ireturn, 1)]
set_option maxRecDepth 100000 in
theorem dX12_mark : mj_pd cX12_mark pX12_mark := mj_pdB (by decide +kernel)
theorem fX12_mark : mj_mf mX12_mark := ⟨mj_t7 20 (by decide +kernel) rfl, mj_t1 13 (by decide +kernel) rfl, by decide, by decide, by decide⟩
theorem iX12_mark : Cond.instanceMethod yX12_mark ∈ mj_GW := mj_t7 18 (by decide +kernel) rfl
theorem vX12_mark : Cond.selects (mj_own.getD 12 "") yX12_mark yX12_mark ∈ mj_GW := mj_t7 19 (by decide +kernel) rfl
def mX12_speed : mj_m := (12, false, cX12_speed, 3, some .int, yX12_speed)
def pX12_speed : List (Nat × Instr × Nat) := [(0, .aload_n 0, 1), (1, .iload_n 1, 1), (2, .invokevirtual 306, 3), (5, .ifCond .eq 26, 3), (8, .iload_n 2, 1), (9, .iconst 0, 1), (10, .aload_n 0, 1), (11, .iload_n 1, 1), (12, .invokevirtual 309, 3), (15, .invokestatic 214, 3), (18, .ifCond .eq 13, 3), (21, .aload_n 0, 1), (22, .iload_n 1, 1), (23, .iconst 2, 1), (24, .invokevirtual 283, 3), (27, .iload_n 2, 1), (28, .if_icmp .ne 5, 3), (31, .iconst (-1), 1), (32, .ireturn, 1), (33, .aload_n 0, 1), (34, .invokevirtual 358, 3), (37, .pop, 1), (38, .aload_n 0, 1), (39, .iload_n 1, 1), (40, .iconst 2, 1), (41, .iload_n 2, 1), (42, .invokevirtual 274, 3), (45, .aload_n 0, 1), (46, .getfield 267, 3), (49, .ireturn, 1)]
set_option maxRecDepth 100000 in
theorem dX12_speed : mj_pd cX12_speed pX12_speed := mj_pdB (by decide +kernel)
theorem fX12_speed : mj_mf mX12_speed := ⟨mj_t7 24 (by decide +kernel) rfl, mj_t1 13 (by decide +kernel) rfl, by decide, by decide, by decide⟩
theorem iX12_speed : Cond.instanceMethod yX12_speed ∈ mj_GW := mj_t7 22 (by decide +kernel) rfl
theorem vX12_speed : Cond.selects (mj_own.getD 12 "") yX12_speed yX12_speed ∈ mj_GW := mj_t7 23 (by decide +kernel) rfl
def mX12_steer : mj_m := (12, false, cX12_steer, 4, some .int, yX12_steer)
def pX12_steer : List (Nat × Instr × Nat) := [(0, .aload_n 0, 1), (1, .iload_n 1, 1), (2, .invokevirtual 306, 3), (5, .ifCond .eq 13, 3), (8, .iload_n 2, 1), (9, .iconst (-1), 1), (10, .if_icmp .eq 10, 3), (13, .iload_n 2, 1), (14, .iconst 1, 1), (15, .if_icmp .eq 5, 3), (18, .iconst (-1), 1), (19, .ireturn, 1), (20, .aload_n 0, 1), (21, .iload_n 1, 1), (22, .iconst 0, 1), (23, .invokevirtual 283, 3), (26, .iload_n 2, 1), (27, .iadd, 1), (28, .istore_n 3, 1), (29, .iload_n 3, 1), (30, .iconst 0, 1), (31, .aload_n 0, 1), (32, .getfield 46, 3), (35, .iconst 0, 1), (36, .iaload, 1), (37, .iconst 1, 1), (38, .isub, 1), (39, .invokestatic 214, 3), (42, .ifCond .eq 17, 3), (45, .aload_n 0, 1), (46, .iload_n 3, 1), (47, .aload_n 0, 1), (48, .iload_n 1, 1), (49, .iconst 1, 1), (50, .invokevirtual 283, 3), (53, .invokevirtual 289, 3), (56, .ifCond .eq 5, 3), (59, .iconst (-1), 1), (60, .ireturn, 1), (61, .aload_n 0, 1), (62, .invokevirtual 358, 3), (65, .pop, 1), (66, .aload_n 0, 1), (67, .iload_n 1, 1), (68, .iconst 0, 1), (69, .iload_n 3, 1), (70, .invokevirtual 274, 3), (73, .iload_n 3, 1), (74, .ireturn, 1)]
set_option maxRecDepth 100000 in
theorem dX12_steer : mj_pd cX12_steer pX12_steer := mj_pdB (by decide +kernel)
theorem fX12_steer : mj_mf mX12_steer := ⟨mj_t7 28 (by decide +kernel) rfl, mj_t1 13 (by decide +kernel) rfl, by decide, by decide, by decide⟩
theorem iX12_steer : Cond.instanceMethod yX12_steer ∈ mj_GW := mj_t7 26 (by decide +kernel) rfl
theorem vX12_steer : Cond.selects (mj_own.getD 12 "") yX12_steer yX12_steer ∈ mj_GW := mj_t7 27 (by decide +kernel) rfl
def mX12_gust : mj_m := (12, false, cX12_gust, 2, some .boolean, yX12_gust)
def pX12_gust : List (Nat × Instr × Nat) := [(0, .iload_n 1, 1), (1, .iconst 0, 1), (2, .bipush 99, 2), (4, .invokestatic 214, 3), (7, .ifCond .eq 11, 3), (10, .iload_n 1, 1), (11, .aload_n 0, 1), (12, .getfield 361, 3), (15, .if_icmp .ne 5, 3), (18, .iconst 0, 1), (19, .ireturn, 1), (20, .aload_n 0, 1), (21, .iload_n 1, 1), (22, .putfield 361, 3), (25, .iconst 1, 1), (26, .ireturn, 1)]
set_option maxRecDepth 100000 in
theorem dX12_gust : mj_pd cX12_gust pX12_gust := mj_pdB (by decide +kernel)
theorem fX12_gust : mj_mf mX12_gust := ⟨mj_t7 36 (by decide +kernel) rfl, mj_t1 13 (by decide +kernel) rfl, by decide, by decide, by decide⟩
theorem iX12_gust : Cond.instanceMethod yX12_gust ∈ mj_GW := mj_t7 34 (by decide +kernel) rfl
theorem vX12_gust : Cond.selects (mj_own.getD 12 "") yX12_gust yX12_gust ∈ mj_GW := mj_t7 35 (by decide +kernel) rfl
def mX12_areSeconds : mj_m := (12, false, cX12_areSeconds, 2, some .boolean, yX12_areSeconds)
def pX12_areSeconds : List (Nat × Instr × Nat) := [(0, .aload_n 0, 1), (1, .getfield 255, 3), (4, .ifCond .le 19, 3), (7, .iload_n 1, 1), (8, .iconst 1, 1), (9, .aload_n 0, 1), (10, .invokevirtual 323, 3), (13, .invokestatic 214, 3), (16, .ifCond .eq 7, 3), (19, .iconst 1, 1), (20, .goto 4, 3), (23, .iconst 0, 1), (24, .ireturn, 1)]
set_option maxRecDepth 100000 in
theorem dX12_areSeconds : mj_pd cX12_areSeconds pX12_areSeconds := mj_pdB (by decide +kernel)
theorem fX12_areSeconds : mj_mf mX12_areSeconds := ⟨mj_t7 44 (by decide +kernel) rfl, mj_t1 13 (by decide +kernel) rfl, by decide, by decide, by decide⟩
theorem iX12_areSeconds : Cond.instanceMethod yX12_areSeconds ∈ mj_GW := mj_t7 43 (by decide +kernel) rfl
theorem vX12_areSeconds : Cond.selects (mj_own.getD 12 "") yX12_areSeconds yX12_areSeconds ∈ mj_GW := mj_p5 11 (by decide +kernel) rfl
def mX12_go : mj_m := (12, false, cX12_go, 3, some .int, yX12_go)
def pX12_go : List (Nat × Instr × Nat) := [(0, .aload_n 0, 1), (1, .iload_n 1, 1), (2, .invokevirtual 364, 3), (5, .ifCond .ne 5, 3), (8, .iconst (-1), 1), (9, .ireturn, 1), (10, .iconst 0, 1), (11, .istore_n 2, 1), (12, .iload_n 2, 1), (13, .iload_n 1, 1), (14, .if_icmp .ge 18, 3), (17, .aload_n 0, 1), (18, .invokevirtual 358, 3), (21, .pop, 1), (22, .aload_n 0, 1), (23, .invokevirtual 367, 3), (26, .iinc 2 1, 3), (29, .goto (-17), 3), (32, .aload_n 0, 1), (33, .getfield 52, 3), (36, .bipush 48, 2), (38, .iaload, 1), (39, .ireturn, 1)]
set_option maxRecDepth 100000 in
theorem dX12_go : mj_pd cX12_go pX12_go := mj_pdB (by decide +kernel)
theorem fX12_go : mj_mf mX12_go := ⟨mj_t7 40 (by decide +kernel) rfl, mj_t1 13 (by decide +kernel) rfl, by decide, by decide, by decide⟩
theorem iX12_go : Cond.instanceMethod yX12_go ∈ mj_GW := mj_t7 38 (by decide +kernel) rfl
theorem vX12_go : Cond.selects (mj_own.getD 12 "") yX12_go yX12_go ∈ mj_GW := mj_t7 39 (by decide +kernel) rfl
def mX12_draw : mj_m := (12, false, cX12_draw, 2, some .int, yX12_draw)
def pX12_draw : List (Nat × Instr × Nat) := [(0, .aload_n 0, 1), (1, .aload_n 0, 1), (2, .getfield 370, 3), (5, .ldc2_w 374, 3), (8, .lmul, 1), (9, .ldc2_w 376, 3), (12, .ladd, 1), (13, .putfield 370, 3), (16, .aload_n 0, 1), (17, .getfield 370, 3), (20, .bipush 33, 2), (22, .lushr, 1), (23, .iload_n 1, 1), (24, .i2l, 1), (25, .lrem, 1), (26, .l2i, 1), (27, .ireturn, 1)]
set_option maxRecDepth 100000 in
theorem dX12_draw : mj_pd cX12_draw pX12_draw := mj_pdB (by decide +kernel)
theorem fX12_draw : mj_mf mX12_draw := ⟨mj_t7 114 (by decide +kernel) rfl, mj_t1 13 (by decide +kernel) rfl, by decide, by decide, by decide⟩
theorem iX12_draw : Cond.instanceMethod yX12_draw ∈ mj_GW := mj_t7 113 (by decide +kernel) rfl
theorem vX12_draw : Cond.selects (mj_own.getD 12 "") yX12_draw yX12_draw ∈ mj_GW := mj_p6 7 (by decide +kernel) rfl
def mX12_blow : mj_m := (12, false, cX12_blow, 6, some .int, yX12_blow)
def pX12_blow : List (Nat × Instr × Nat) := [(0, .aload_n 0, 1), (1, .iload_n 1, 1), (2, .invokevirtual 364, 3), (5, .ifCond .ne 5, 3), (8, .iconst (-1), 1), (9, .ireturn, 1), (10, .aload_n 0, 1), (11, .lload_n 2, 1), (12, .putfield 370, 3), (15, .iconst 0, 1), (16, .istore 4, 2), (18, .iload 4, 2), (20, .iload_n 1, 1), (21, .if_icmp .ge 72, 3), (24, .aload_n 0, 1), (25, .invokevirtual 358, 3), (28, .pop, 1), (29, .aload_n 0, 1), (30, .invokevirtual 352, 3), (33, .iconst 0, 1), (34, .istore 5, 2), (36, .iload 5, 2), (38, .aload_n 0, 1), (39, .getfield 255, 3), (42, .if_icmp .ge 41, 3), (45, .aload_n 0, 1), (46, .bipush 100, 2), (48, .invokevirtual 378, 3), (51, .aload_n 0, 1), (52, .getfield 361, 3), (55, .if_icmp .ge 22, 3), (58, .aload_n 0, 1), (59, .iload 5, 2), (61, .aload_n 0, 1), (62, .iconst 2, 1), (63, .invokevirtual 378, 3), (66, .ifCond .ne 7, 3), (69, .iconst (-1), 1), (70, .goto 4, 3), (73, .iconst 1, 1), (74, .invokevirtual 340, 3), (77, .iinc 5 1, 3), (80, .goto (-44), 3), (83, .aload_n 0, 1), (84, .invokevirtual 355, 3), (87, .iinc 4 1, 3), (90, .goto (-72), 3), (93, .aload_n 0, 1), (94, .getfield 52, 3), (97, .bipush 48, 2), (99, .iaload, 1), (100, .ireturn, 1)]
set_option maxRecDepth 100000 in
theorem dX12_blow : mj_pd cX12_blow pX12_blow := mj_pdB (by decide +kernel)
theorem fX12_blow : mj_mf mX12_blow := ⟨mj_t7 110 (by decide +kernel) rfl, mj_t1 13 (by decide +kernel) rfl, by decide, by decide, by decide⟩
theorem iX12_blow : Cond.instanceMethod yX12_blow ∈ mj_GW := mj_t7 108 (by decide +kernel) rfl
theorem vX12_blow : Cond.selects (mj_own.getD 12 "") yX12_blow yX12_blow ∈ mj_GW := mj_t7 109 (by decide +kernel) rfl
def mX12_undo : mj_m := (12, false, cX12_undo, 2, some .int, yX12_undo)
def pX12_undo : List (Nat × Instr × Nat) := [(0, .aload_n 0, 1), (1, .getfield 267, 3), (4, .ifCond .ne 5, 3), (7, .iconst (-1), 1), (8, .ireturn, 1), (9, .aload_n 0, 1), (10, .dup, 1), (11, .getfield 267, 3), (14, .iconst 1, 1), (15, .isub, 1), (16, .putfield 267, 3), (19, .iconst 0, 1), (20, .istore_n 1, 1), (21, .iload_n 1, 1), (22, .bipush 49, 2), (24, .if_icmp .ge 29, 3), (27, .aload_n 0, 1), (28, .getfield 52, 3), (31, .iload_n 1, 1), (32, .aload_n 0, 1), (33, .getfield 69, 3), (36, .bipush 49, 2), (38, .aload_n 0, 1), (39, .getfield 267, 3), (42, .imul, 1), (43, .iload_n 1, 1), (44, .iadd, 1), (45, .iaload, 1), (46, .iastore, 1), (47, .iinc 1 1, 3), (50, .goto (-29), 3), (53, .aload_n 0, 1), (54, .getfield 267, 3), (57, .ireturn, 1)]
set_option maxRecDepth 100000 in
theorem dX12_undo : mj_pd cX12_undo pX12_undo := mj_pdB (by decide +kernel)
theorem fX12_undo : mj_mf mX12_undo := ⟨mj_t7 120 (by decide +kernel) rfl, mj_t1 13 (by decide +kernel) rfl, by decide, by decide, by decide⟩
theorem iX12_undo : Cond.instanceMethod yX12_undo ∈ mj_GW := mj_t7 118 (by decide +kernel) rfl
theorem vX12_undo : Cond.selects (mj_own.getD 12 "") yX12_undo yX12_undo ∈ mj_GW := mj_t7 119 (by decide +kernel) rfl
def mX12_putAside : mj_m := (12, false, cX12_putAside, 2, none, yX12_putAside)
def pX12_putAside : List (Nat × Instr × Nat) := [(0, .iconst 0, 1), (1, .istore_n 1, 1), (2, .iload_n 1, 1), (3, .bipush 49, 2), (5, .if_icmp .ge 21, 3), (8, .aload_n 0, 1), (9, .getfield 72, 3), (12, .iload_n 1, 1), (13, .aload_n 0, 1), (14, .getfield 52, 3), (17, .iload_n 1, 1), (18, .iaload, 1), (19, .iastore, 1), (20, .iinc 1 1, 3), (23, .goto (-21), 3), (26, .return_, 1)]
set_option maxRecDepth 100000 in
theorem dX12_putAside : mj_pd cX12_putAside pX12_putAside := mj_pdB (by decide +kernel)
theorem fX12_putAside : mj_mf mX12_putAside := ⟨mj_t7 129 (by decide +kernel) rfl, mj_t1 13 (by decide +kernel) rfl, by decide, by decide, by decide⟩
theorem iX12_putAside : Cond.instanceMethod yX12_putAside ∈ mj_GW := mj_t7 128 (by decide +kernel) rfl
theorem vX12_putAside : Cond.selects (mj_own.getD 12 "") yX12_putAside yX12_putAside ∈ mj_GW := mj_p6 8 (by decide +kernel) rfl
def mX12_takeBack : mj_m := (12, false, cX12_takeBack, 2, none, yX12_takeBack)
def pX12_takeBack : List (Nat × Instr × Nat) := [(0, .iconst 0, 1), (1, .istore_n 1, 1), (2, .iload_n 1, 1), (3, .bipush 49, 2), (5, .if_icmp .ge 21, 3), (8, .aload_n 0, 1), (9, .getfield 52, 3), (12, .iload_n 1, 1), (13, .aload_n 0, 1), (14, .getfield 72, 3), (17, .iload_n 1, 1), (18, .iaload, 1), (19, .iastore, 1), (20, .iinc 1 1, 3), (23, .goto (-21), 3), (26, .aload_n 0, 1), (27, .iconst (-1), 1), (28, .putfield 55, 3), (31, .aload_n 0, 1), (32, .iconst 0, 1), (33, .putfield 343, 3), (36, .return_, 1)]
set_option maxRecDepth 100000 in
theorem dX12_takeBack : mj_pd cX12_takeBack pX12_takeBack := mj_pdB (by decide +kernel)
theorem fX12_takeBack : mj_mf mX12_takeBack := ⟨mj_t7 137 (by decide +kernel) rfl, mj_t1 13 (by decide +kernel) rfl, by decide, by decide, by decide⟩
theorem iX12_takeBack : Cond.instanceMethod yX12_takeBack ∈ mj_GW := mj_t7 136 (by decide +kernel) rfl
theorem vX12_takeBack : Cond.selects (mj_own.getD 12 "") yX12_takeBack yX12_takeBack ∈ mj_GW := mj_p6 10 (by decide +kernel) rfl
def mX12_toGun : mj_m := (12, false, cX12_toGun, 1, none, yX12_toGun)
def pX12_toGun : List (Nat × Instr × Nat) := [(0, .aload_n 0, 1), (1, .invokevirtual 323, 3), (4, .ifCond .le 10, 3), (7, .aload_n 0, 1), (8, .invokevirtual 367, 3), (11, .goto (-11), 3), (14, .return_, 1)]
set_option maxRecDepth 100000 in
theorem dX12_toGun : mj_pd cX12_toGun pX12_toGun := mj_pdB (by decide +kernel)
theorem fX12_toGun : mj_mf mX12_toGun := ⟨mj_t7 133 (by decide +kernel) rfl, mj_t1 13 (by decide +kernel) rfl, by decide, by decide, by decide⟩
theorem iX12_toGun : Cond.instanceMethod yX12_toGun ∈ mj_GW := mj_t7 132 (by decide +kernel) rfl
theorem vX12_toGun : Cond.selects (mj_own.getD 12 "") yX12_toGun yX12_toGun ∈ mj_GW := mj_p6 9 (by decide +kernel) rfl
def mX12_ahead : mj_m := (12, false, cX12_ahead, 4, some .int, yX12_ahead)
def pX12_ahead : List (Nat × Instr × Nat) := [(0, .aload_n 0, 1), (1, .iload_n 1, 1), (2, .invokevirtual 306, 3), (5, .ifCond .eq 12, 3), (8, .iload_n 2, 1), (9, .iconst 0, 1), (10, .iconst 5, 1), (11, .invokestatic 214, 3), (14, .ifCond .ne 7, 3), (17, .ldc_w 381, 3), (20, .ireturn, 1), (21, .aload_n 0, 1), (22, .invokevirtual 382, 3), (25, .aload_n 0, 1), (26, .invokevirtual 385, 3), (29, .iload_n 2, 1), (30, .iconst 3, 1), (31, .if_icmp .ge 12, 3), (34, .aload_n 0, 1), (35, .iload_n 1, 1), (36, .iload_n 2, 1), (37, .invokevirtual 283, 3), (40, .goto 41, 3), (43, .iload_n 2, 1), (44, .iconst 3, 1), (45, .if_icmp .ne 18, 3), (48, .aload_n 0, 1), (49, .iload_n 1, 1), (50, .aload_n 0, 1), (51, .getfield 46, 3), (54, .bipush 6, 2), (56, .iaload, 1), (57, .invokevirtual 292, 3), (60, .goto 21, 3), (63, .iload_n 2, 1), (64, .iconst 4, 1), (65, .if_icmp .ne 11, 3), (68, .aload_n 0, 1), (69, .iload_n 1, 1), (70, .invokevirtual 312, 3), (73, .goto 8, 3), (76, .aload_n 0, 1), (77, .iload_n 1, 1), (78, .invokevirtual 315, 3), (81, .istore_n 3, 1), (82, .aload_n 0, 1), (83, .invokevirtual 388, 3), (86, .iload_n 3, 1), (87, .ireturn, 1)]
set_option maxRecDepth 100000 in
theorem dX12_ahead : mj_pd cX12_ahead pX12_ahead := mj_pdB (by decide +kernel)
theorem fX12_ahead : mj_mf mX12_ahead := ⟨mj_t7 124 (by decide +kernel) rfl, mj_t1 13 (by decide +kernel) rfl, by decide, by decide, by decide⟩
theorem iX12_ahead : Cond.instanceMethod yX12_ahead ∈ mj_GW := mj_t7 122 (by decide +kernel) rfl
theorem vX12_ahead : Cond.selects (mj_own.getD 12 "") yX12_ahead yX12_ahead ∈ mj_GW := mj_t7 123 (by decide +kernel) rfl
def mX12_scoreAtGun : mj_m := (12, false, cX12_scoreAtGun, 3, some .int, yX12_scoreAtGun)
def pX12_scoreAtGun : List (Nat × Instr × Nat) := [(0, .aload_n 0, 1), (1, .invokevirtual 385, 3), (4, .aload_n 0, 1), (5, .iload_n 1, 1), (6, .invokevirtual 312, 3), (9, .istore_n 2, 1), (10, .aload_n 0, 1), (11, .invokevirtual 388, 3), (14, .iload_n 2, 1), (15, .ireturn, 1)]
set_option maxRecDepth 100000 in
theorem dX12_scoreAtGun : mj_pd cX12_scoreAtGun pX12_scoreAtGun := mj_pdB (by decide +kernel)
theorem fX12_scoreAtGun : mj_mf mX12_scoreAtGun := ⟨mj_t7 149 (by decide +kernel) rfl, mj_t1 13 (by decide +kernel) rfl, by decide, by decide, by decide⟩
theorem iX12_scoreAtGun : Cond.instanceMethod yX12_scoreAtGun ∈ mj_GW := mj_t7 148 (by decide +kernel) rfl
theorem vX12_scoreAtGun : Cond.selects (mj_own.getD 12 "") yX12_scoreAtGun yX12_scoreAtGun ∈ mj_GW := mj_p6 12 (by decide +kernel) rfl
def mX12_bestCell : mj_m := (12, false, cX12_bestCell, 10, some .int, yX12_bestCell)
def pX12_bestCell : List (Nat × Instr × Nat) := [(0, .aload_n 0, 1), (1, .invokevirtual 382, 3), (4, .iconst (-1), 1), (5, .istore 5, 2), (7, .iconst 0, 1), (8, .istore 6, 2), (10, .iconst 0, 1), (11, .istore 7, 2), (13, .iload 7, 2), (15, .iload_n 3, 1), (16, .if_icmp .ge 105, 3), (19, .aload_n 0, 1), (20, .iload_n 1, 1), (21, .iload_n 2, 1), (22, .invokevirtual 283, 3), (25, .iload 7, 2), (27, .if_icmp .ne 7, 3), (30, .iconst 1, 1), (31, .goto 4, 3), (34, .iconst 0, 1), (35, .istore 8, 2), (37, .iload 8, 2), (39, .ifCond .ne 40, 3), (42, .aload_n 0, 1), (43, .iload_n 2, 1), (44, .ifCond .ne 8, 3), (47, .iload 7, 2), (49, .goto 9, 3), (52, .aload_n 0, 1), (53, .iload_n 1, 1), (54, .iconst 0, 1), (55, .invokevirtual 283, 3), (58, .iload_n 2, 1), (59, .ifCond .ne 12, 3), (62, .aload_n 0, 1), (63, .iload_n 1, 1), (64, .iconst 1, 1), (65, .invokevirtual 283, 3), (68, .goto 5, 3), (71, .iload 7, 2), (73, .invokevirtual 289, 3), (76, .ifCond .ne 39, 3), (79, .aload_n 0, 1), (80, .iload_n 1, 1), (81, .iload_n 2, 1), (82, .iload 7, 2), (84, .invokevirtual 274, 3), (87, .aload_n 0, 1), (88, .iload_n 1, 1), (89, .invokevirtual 391, 3), (92, .istore 9, 2), (94, .iload 5, 2), (96, .iconst (-1), 1), (97, .if_icmp .eq 10, 3), (100, .iload 9, 2), (102, .iload 6, 2), (104, .if_icmp .le 11, 3), (107, .iload 7, 2), (109, .istore 5, 2), (111, .iload 9, 2), (113, .istore 6, 2), (115, .iinc 7 1, 3), (118, .goto (-105), 3), (121, .iload 5, 2), (123, .iconst (-1), 1), (124, .if_icmp .ne 9, 3), (127, .ldc_w 381, 3), (130, .goto 15, 3), (133, .iload 4, 2), (135, .ifCond .ne 8, 3), (138, .iload 5, 2), (140, .goto 5, 3), (143, .iload 6, 2), (145, .ireturn, 1)]
set_option maxRecDepth 100000 in
theorem dX12_bestCell : mj_pd cX12_bestCell pX12_bestCell := mj_pdB (by decide +kernel)
theorem fX12_bestCell : mj_mf mX12_bestCell := ⟨mj_t7 145 (by decide +kernel) rfl, mj_t1 13 (by decide +kernel) rfl, by decide, by decide, by decide⟩
theorem iX12_bestCell : Cond.instanceMethod yX12_bestCell ∈ mj_GW := mj_t7 144 (by decide +kernel) rfl
theorem vX12_bestCell : Cond.selects (mj_own.getD 12 "") yX12_bestCell yX12_bestCell ∈ mj_GW := mj_p6 11 (by decide +kernel) rfl
def mX12_where : mj_m := (12, false, cX12_where, 3, some .int, yX12_where)
def pX12_where : List (Nat × Instr × Nat) := [(0, .aload_n 0, 1), (1, .iload_n 1, 1), (2, .invokevirtual 306, 3), (5, .ifCond .eq 28, 3), (8, .iload_n 2, 1), (9, .iconst 0, 1), (10, .iconst 1, 1), (11, .invokestatic 214, 3), (14, .ifCond .eq 19, 3), (17, .aload_n 0, 1), (18, .iload_n 1, 1), (19, .iconst 0, 1), (20, .aload_n 0, 1), (21, .getfield 46, 3), (24, .iconst 0, 1), (25, .iaload, 1), (26, .iload_n 2, 1), (27, .invokevirtual 394, 3), (30, .goto 6, 3), (33, .ldc_w 381, 3), (36, .ireturn, 1)]
set_option maxRecDepth 100000 in
theorem dX12_where : mj_pd cX12_where pX12_where := mj_pdB (by decide +kernel)
theorem fX12_where : mj_mf mX12_where := ⟨mj_t7 141 (by decide +kernel) rfl, mj_t1 13 (by decide +kernel) rfl, by decide, by decide, by decide⟩
theorem iX12_where : Cond.instanceMethod yX12_where ∈ mj_GW := mj_t7 139 (by decide +kernel) rfl
theorem vX12_where : Cond.selects (mj_own.getD 12 "") yX12_where yX12_where ∈ mj_GW := mj_t7 140 (by decide +kernel) rfl
def mX12_near : mj_m := (12, false, cX12_near, 3, some .int, yX12_near)
def pX12_near : List (Nat × Instr × Nat) := [(0, .aload_n 0, 1), (1, .iload_n 1, 1), (2, .invokevirtual 306, 3), (5, .ifCond .eq 24, 3), (8, .iload_n 2, 1), (9, .iconst 0, 1), (10, .iconst 1, 1), (11, .invokestatic 214, 3), (14, .ifCond .eq 15, 3), (17, .aload_n 0, 1), (18, .iload_n 1, 1), (19, .iconst 1, 1), (20, .bipush 20, 2), (22, .iload_n 2, 1), (23, .invokevirtual 394, 3), (26, .goto 6, 3), (29, .ldc_w 381, 3), (32, .ireturn, 1)]
set_option maxRecDepth 100000 in
theorem dX12_near : mj_pd cX12_near pX12_near := mj_pdB (by decide +kernel)
theorem fX12_near : mj_mf mX12_near := ⟨mj_t7 153 (by decide +kernel) rfl, mj_t1 13 (by decide +kernel) rfl, by decide, by decide, by decide⟩
theorem iX12_near : Cond.instanceMethod yX12_near ∈ mj_GW := mj_t7 151 (by decide +kernel) rfl
theorem vX12_near : Cond.selects (mj_own.getD 12 "") yX12_near yX12_near ∈ mj_GW := mj_t7 152 (by decide +kernel) rfl
def mX12_hold : mj_m := (12, false, cX12_hold, 8, some .int, yX12_hold)
def pX12_hold : List (Nat × Instr × Nat) := [(0, .aload_n 0, 1), (1, .iload_n 1, 1), (2, .invokevirtual 306, 3), (5, .ifCond .eq 12, 3), (8, .iload_n 2, 1), (9, .iconst 0, 1), (10, .iconst 1, 1), (11, .invokestatic 214, 3), (14, .ifCond .ne 7, 3), (17, .ldc_w 381, 3), (20, .ireturn, 1), (21, .aload_n 0, 1), (22, .invokevirtual 382, 3), (25, .iconst (-1), 1), (26, .istore_n 3, 1), (27, .iconst 0, 1), (28, .istore 4, 2), (30, .aload_n 0, 1), (31, .invokevirtual 323, 3), (34, .istore 5, 2), (36, .iconst 0, 1), (37, .istore 6, 2), (39, .iload 6, 2), (41, .iload 5, 2), (43, .if_icmp .gt 46, 3), (46, .aload_n 0, 1), (47, .iload_n 1, 1), (48, .putfield 55, 3), (51, .aload_n 0, 1), (52, .iload 6, 2), (54, .putfield 343, 3), (57, .aload_n 0, 1), (58, .iload_n 1, 1), (59, .invokevirtual 391, 3), (62, .istore 7, 2), (64, .iload_n 3, 1), (65, .iconst (-1), 1), (66, .if_icmp .eq 10, 3), (69, .iload 7, 2), (71, .iload 4, 2), (73, .if_icmp .le 10, 3), (76, .iload 6, 2), (78, .istore_n 3, 1), (79, .iload 7, 2), (81, .istore 4, 2), (83, .iinc 6 1, 3), (86, .goto (-47), 3), (89, .iload_n 2, 1), (90, .ifCond .ne 7, 3), (93, .iload_n 3, 1), (94, .goto 5, 3), (97, .iload 4, 2), (99, .ireturn, 1)]
set_option maxRecDepth 100000 in
theorem dX12_hold : mj_pd cX12_hold pX12_hold := mj_pdB (by decide +kernel)
theorem fX12_hold : mj_mf mX12_hold := ⟨mj_t7 157 (by decide +kernel) rfl, mj_t1 13 (by decide +kernel) rfl, by decide, by decide, by decide⟩
theorem iX12_hold : Cond.instanceMethod yX12_hold ∈ mj_GW := mj_t7 155 (by decide +kernel) rfl
theorem vX12_hold : Cond.selects (mj_own.getD 12 "") yX12_hold yX12_hold ∈ mj_GW := mj_t7 156 (by decide +kernel) rfl
def mX12_row : mj_m := (12, false, cX12_row, 3, some .int, yX12_row)
def pX12_row : List (Nat × Instr × Nat) := [(0, .aload_n 0, 1), (1, .iload_n 1, 1), (2, .invokevirtual 306, 3), (5, .ifCond .eq 34, 3), (8, .iload_n 2, 1), (9, .iconst 1, 1), (10, .bipush 9, 2), (12, .invokestatic 214, 3), (15, .ifCond .eq 24, 3), (18, .aload_n 0, 1), (19, .aload_n 0, 1), (20, .iload_n 1, 1), (21, .iconst 0, 1), (22, .invokevirtual 283, 3), (25, .aload_n 0, 1), (26, .iload_n 1, 1), (27, .iconst 1, 1), (28, .invokevirtual 283, 3), (31, .iload_n 2, 1), (32, .iadd, 1), (33, .invokevirtual 289, 3), (36, .ifCond .eq 7, 3), (39, .ldc_w 381, 3), (42, .ireturn, 1), (43, .aload_n 0, 1), (44, .invokevirtual 382, 3), (47, .aload_n 0, 1), (48, .iload_n 1, 1), (49, .iconst 1, 1), (50, .aload_n 0, 1), (51, .iload_n 1, 1), (52, .iconst 1, 1), (53, .invokevirtual 283, 3), (56, .iload_n 2, 1), (57, .iadd, 1), (58, .invokevirtual 274, 3), (61, .aload_n 0, 1), (62, .iload_n 1, 1), (63, .invokevirtual 391, 3), (66, .ireturn, 1)]
set_option maxRecDepth 100000 in
theorem dX12_row : mj_pd cX12_row pX12_row := mj_pdB (by decide +kernel)
theorem fX12_row : mj_mf mX12_row := ⟨mj_t7 161 (by decide +kernel) rfl, mj_t1 13 (by decide +kernel) rfl, by decide, by decide, by decide⟩
theorem iX12_row : Cond.instanceMethod yX12_row ∈ mj_GW := mj_t7 159 (by decide +kernel) rfl
theorem vX12_row : Cond.selects (mj_own.getD 12 "") yX12_row yX12_row ∈ mj_GW := mj_t7 160 (by decide +kernel) rfl
def mX12_tides : mj_m := (12, false, cX12_tides, 3, some .int, yX12_tides)
def pX12_tides : List (Nat × Instr × Nat) := [(0, .aload_n 0, 1), (1, .getfield 255, 3), (4, .ifCond .ne 5, 3), (7, .iconst (-1), 1), (8, .ireturn, 1), (9, .iconst 0, 1), (10, .istore_n 1, 1), (11, .aload_n 0, 1), (12, .getfield 52, 3), (15, .bipush 48, 2), (17, .iaload, 1), (18, .iconst 1, 1), (19, .iadd, 1), (20, .istore_n 2, 1), (21, .aload_n 0, 1), (22, .getfield 46, 3), (25, .iconst 3, 1), (26, .iaload, 1), (27, .ifCond .eq 38, 3), (30, .iload_n 2, 1), (31, .aload_n 0, 1), (32, .getfield 46, 3), (35, .iconst 5, 1), (36, .iaload, 1), (37, .if_icmp .gt 28, 3), (40, .iload_n 1, 1), (41, .iload_n 2, 1), (42, .aload_n 0, 1), (43, .getfield 46, 3), (46, .iconst 3, 1), (47, .iaload, 1), (48, .irem, 1), (49, .ifCond .ne 7, 3), (52, .iconst 1, 1), (53, .goto 4, 3), (56, .iconst 0, 1), (57, .iadd, 1), (58, .istore_n 1, 1), (59, .iinc 2 1, 3), (62, .goto (-41), 3), (65, .iload_n 1, 1), (66, .ireturn, 1)]
set_option maxRecDepth 100000 in
theorem dX12_tides : mj_pd cX12_tides pX12_tides := mj_pdB (by decide +kernel)
theorem fX12_tides : mj_mf mX12_tides := ⟨mj_t7 165 (by decide +kernel) rfl, mj_t1 13 (by decide +kernel) rfl, by decide, by decide, by decide⟩
theorem iX12_tides : Cond.instanceMethod yX12_tides ∈ mj_GW := mj_t7 163 (by decide +kernel) rfl
theorem vX12_tides : Cond.selects (mj_own.getD 12 "") yX12_tides yX12_tides ∈ mj_GW := mj_t7 164 (by decide +kernel) rfl
def mX12_thirdOf : mj_m := (12, false, cX12_thirdOf, 2, some .int, yX12_thirdOf)
def pX12_thirdOf : List (Nat × Instr × Nat) := [(0, .aload_n 0, 1), (1, .iload_n 1, 1), (2, .iconst 0, 1), (3, .invokevirtual 283, 3), (6, .iconst 3, 1), (7, .imul, 1), (8, .aload_n 0, 1), (9, .getfield 46, 3), (12, .iconst 0, 1), (13, .iaload, 1), (14, .idiv, 1), (15, .ireturn, 1)]
set_option maxRecDepth 100000 in
theorem dX12_thirdOf : mj_pd cX12_thirdOf pX12_thirdOf := mj_pdB (by decide +kernel)
theorem fX12_thirdOf : mj_mf mX12_thirdOf := ⟨mj_t7 173 (by decide +kernel) rfl, mj_t1 13 (by decide +kernel) rfl, by decide, by decide, by decide⟩
theorem iX12_thirdOf : Cond.instanceMethod yX12_thirdOf ∈ mj_GW := mj_t7 172 (by decide +kernel) rfl
theorem vX12_thirdOf : Cond.selects (mj_own.getD 12 "") yX12_thirdOf yX12_thirdOf ∈ mj_GW := mj_p6 13 (by decide +kernel) rfl
def mX12_divisor : mj_m := (12, false, cX12_divisor, 2, some .int, yX12_divisor)
def pX12_divisor : List (Nat × Instr × Nat) := [(0, .iload_n 1, 1), (1, .ifCond .ne 10, 3), (4, .iload_n 0, 1), (5, .invokestatic 286, 3), (8, .goto 10, 3), (11, .iload_n 1, 1), (12, .iload_n 0, 1), (13, .iload_n 1, 1), (14, .irem, 1), (15, .invokestatic 398, 3), (18, .ireturn, 1)]
set_option maxRecDepth 100000 in
theorem dX12_divisor : mj_pd cX12_divisor pX12_divisor := mj_pdB (by decide +kernel)
theorem fX12_divisor : mj_mf mX12_divisor := ⟨mj_t7 176 (by decide +kernel) rfl, mj_t1 13 (by decide +kernel) rfl, by decide, by decide, by decide⟩
theorem sX12_divisor : Cond.static yX12_divisor ∈ mj_GW := mj_t7 175 (by decide +kernel) rfl
def mX12_sag : mj_m := (12, false, cX12_sag, 9, some .int, yX12_sag)
def pX12_sag : List (Nat × Instr × Nat) := [(0, .iconst 0, 1), (1, .istore_n 2, 1), (2, .iconst 0, 1), (3, .istore_n 3, 1), (4, .iconst 0, 1), (5, .istore 4, 2), (7, .iconst 0, 1), (8, .istore 5, 2), (10, .iload 5, 2), (12, .aload_n 0, 1), (13, .getfield 255, 3), (16, .if_icmp .ge 79, 3), (19, .aload_n 0, 1), (20, .iload 5, 2), (22, .invokevirtual 401, 3), (25, .iconst 1, 1), (26, .if_icmp .ne 7, 3), (29, .iconst 1, 1), (30, .goto 4, 3), (33, .iconst 0, 1), (34, .istore 6, 2), (36, .iload_n 2, 1), (37, .iload 6, 2), (39, .ifCond .eq 13, 3), (42, .aload_n 0, 1), (43, .iload 5, 2), (45, .iconst 1, 1), (46, .invokevirtual 283, 3), (49, .goto 4, 3), (52, .iconst 0, 1), (53, .iadd, 1), (54, .istore_n 2, 1), (55, .iload_n 3, 1), (56, .iload 6, 2), (58, .ifCond .eq 7, 3), (61, .iconst 1, 1), (62, .goto 4, 3), (65, .iconst 0, 1), (66, .iadd, 1), (67, .istore_n 3, 1), (68, .iload 4, 2), (70, .iload 6, 2), (72, .ifCond .eq 7, 3), (75, .iconst 0, 1), (76, .goto 10, 3), (79, .aload_n 0, 1), (80, .iload 5, 2), (82, .iconst 1, 1), (83, .invokevirtual 283, 3), (86, .iadd, 1), (87, .istore 4, 2), (89, .iinc 5 1, 3), (92, .goto (-82), 3), (95, .aload_n 0, 1), (96, .getfield 255, 3), (99, .iload_n 3, 1), (100, .isub, 1), (101, .istore 5, 2), (103, .iload_n 3, 1), (104, .ifCond .eq 17, 3), (107, .iload 5, 2), (109, .ifCond .eq 12, 3), (112, .iload_n 1, 1), (113, .iconst 0, 1), (114, .iconst 1, 1), (115, .invokestatic 214, 3), (118, .ifCond .ne 7, 3), (121, .ldc_w 381, 3), (124, .ireturn, 1), (125, .iload_n 2, 1), (126, .iload 5, 2), (128, .imul, 1), (129, .iload 4, 2), (131, .iload_n 3, 1), (132, .imul, 1), (133, .isub, 1), (134, .istore 6, 2), (136, .iload_n 3, 1), (137, .iload 5, 2), (139, .imul, 1), (140, .istore 7, 2), (142, .iload 7, 2), (144, .iload 6, 2), (146, .invokestatic 398, 3), (149, .istore 8, 2), (151, .iload_n 1, 1), (152, .ifCond .ne 11, 3), (155, .iload 6, 2), (157, .iload 8, 2), (159, .idiv, 1), (160, .goto 8, 3), (163, .iload 7, 2), (165, .iload 8, 2), (167, .idiv, 1), (168, .ireturn, 1)]
set_option maxRecDepth 100000 in
theorem dX12_sag : mj_pd cX12_sag pX12_sag := mj_pdB (by decide +kernel)
theorem fX12_sag : mj_mf mX12_sag := ⟨mj_t7 169 (by decide +kernel) rfl, mj_t1 13 (by decide +kernel) rfl, by decide, by decide, by decide⟩
theorem iX12_sag : Cond.instanceMethod yX12_sag ∈ mj_GW := mj_t7 167 (by decide +kernel) rfl
theorem vX12_sag : Cond.selects (mj_own.getD 12 "") yX12_sag yX12_sag ∈ mj_GW := mj_t7 168 (by decide +kernel) rfl
def mX12_heap : mj_m := (12, false, cX12_heap, 4, some .int, yX12_heap)
def pX12_heap : List (Nat × Instr × Nat) := [(0, .aload_n 0, 1), (1, .getfield 255, 3), (4, .ifCond .eq 12, 3), (7, .iload_n 1, 1), (8, .iconst 0, 1), (9, .iconst 2, 1), (10, .invokestatic 214, 3), (13, .ifCond .ne 5, 3), (16, .iconst (-1), 1), (17, .ireturn, 1), (18, .iconst 0, 1), (19, .istore_n 2, 1), (20, .iconst 0, 1), (21, .istore_n 3, 1), (22, .iload_n 3, 1), (23, .aload_n 0, 1), (24, .getfield 255, 3), (27, .if_icmp .ge 26, 3), (30, .iload_n 2, 1), (31, .aload_n 0, 1), (32, .iload_n 3, 1), (33, .invokevirtual 401, 3), (36, .iload_n 1, 1), (37, .if_icmp .ne 7, 3), (40, .iconst 1, 1), (41, .goto 4, 3), (44, .iconst 0, 1), (45, .iadd, 1), (46, .istore_n 2, 1), (47, .iinc 3 1, 3), (50, .goto (-28), 3), (53, .iload_n 2, 1), (54, .ireturn, 1)]
set_option maxRecDepth 100000 in
theorem dX12_heap : mj_pd cX12_heap pX12_heap := mj_pdB (by decide +kernel)
theorem fX12_heap : mj_mf mX12_heap := ⟨mj_t7 180 (by decide +kernel) rfl, mj_t1 13 (by decide +kernel) rfl, by decide, by decide, by decide⟩
theorem iX12_heap : Cond.instanceMethod yX12_heap ∈ mj_GW := mj_t7 178 (by decide +kernel) rfl
theorem vX12_heap : Cond.selects (mj_own.getD 12 "") yX12_heap yX12_heap ∈ mj_GW := mj_t7 179 (by decide +kernel) rfl
def mX12_hole : mj_m := (12, false, cX12_hole, 3, some .int, yX12_hole)
def pX12_hole : List (Nat × Instr × Nat) := [(0, .aload_n 0, 1), (1, .iload_n 1, 1), (2, .invokevirtual 306, 3), (5, .ifCond .ne 5, 3), (8, .iconst (-1), 1), (9, .ireturn, 1), (10, .iconst 0, 1), (11, .istore_n 2, 1), (12, .aload_n 0, 1), (13, .iload_n 1, 1), (14, .iconst 0, 1), (15, .invokevirtual 283, 3), (18, .iload_n 2, 1), (19, .isub, 1), (20, .ifCond .le 32, 3), (23, .aload_n 0, 1), (24, .aload_n 0, 1), (25, .iload_n 1, 1), (26, .iconst 0, 1), (27, .invokevirtual 283, 3), (30, .iload_n 2, 1), (31, .isub, 1), (32, .iconst 1, 1), (33, .isub, 1), (34, .aload_n 0, 1), (35, .iload_n 1, 1), (36, .iconst 1, 1), (37, .invokevirtual 283, 3), (40, .invokevirtual 289, 3), (43, .ifCond .ne 9, 3), (46, .iinc 2 1, 3), (49, .goto (-37), 3), (52, .iload_n 2, 1), (53, .ireturn, 1)]
set_option maxRecDepth 100000 in
theorem dX12_hole : mj_pd cX12_hole pX12_hole := mj_pdB (by decide +kernel)
theorem fX12_hole : mj_mf mX12_hole := ⟨mj_t7 184 (by decide +kernel) rfl, mj_t1 13 (by decide +kernel) rfl, by decide, by decide, by decide⟩
theorem iX12_hole : Cond.instanceMethod yX12_hole ∈ mj_GW := mj_t7 182 (by decide +kernel) rfl
theorem vX12_hole : Cond.selects (mj_own.getD 12 "") yX12_hole yX12_hole ∈ mj_GW := mj_t7 183 (by decide +kernel) rfl
def mX12_keeps : mj_m := (12, false, cX12_keeps, 4, some .int, yX12_keeps)
def pX12_keeps : List (Nat × Instr × Nat) := [(0, .aload_n 0, 1), (1, .iload_n 1, 1), (2, .invokevirtual 306, 3), (5, .ifCond .ne 5, 3), (8, .iconst (-1), 1), (9, .ireturn, 1), (10, .aload_n 0, 1), (11, .invokevirtual 382, 3), (14, .iconst 0, 1), (15, .istore_n 2, 1), (16, .aload_n 0, 1), (17, .iload_n 1, 1), (18, .invokevirtual 326, 3), (21, .ifCond .ne 20, 3), (24, .aload_n 0, 1), (25, .invokevirtual 323, 3), (28, .ifCond .le 13, 3), (31, .aload_n 0, 1), (32, .invokevirtual 367, 3), (35, .iinc 2 1, 3), (38, .goto (-22), 3), (41, .aload_n 0, 1), (42, .iload_n 1, 1), (43, .invokevirtual 326, 3), (46, .ifCond .eq 7, 3), (49, .iload_n 2, 1), (50, .goto 4, 3), (53, .iconst (-1), 1), (54, .istore_n 3, 1), (55, .aload_n 0, 1), (56, .invokevirtual 388, 3), (59, .iload_n 3, 1), (60, .ireturn, 1)]
set_option maxRecDepth 100000 in
theorem dX12_keeps : mj_pd cX12_keeps pX12_keeps := mj_pdB (by decide +kernel)
theorem fX12_keeps : mj_mf mX12_keeps := ⟨mj_t7 188 (by decide +kernel) rfl, mj_t1 13 (by decide +kernel) rfl, by decide, by decide, by decide⟩
theorem iX12_keeps : Cond.instanceMethod yX12_keeps ∈ mj_GW := mj_t7 186 (by decide +kernel) rfl
theorem vX12_keeps : Cond.selects (mj_own.getD 12 "") yX12_keeps yX12_keeps ∈ mj_GW := mj_t7 187 (by decide +kernel) rfl
def mX12_which : mj_m := (12, false, cX12_which, 5, some .int, yX12_which)
def pX12_which : List (Nat × Instr × Nat) := [(0, .aload_n 0, 1), (1, .getfield 255, 3), (4, .ifCond .eq 12, 3), (7, .iload_n 1, 1), (8, .iconst 0, 1), (9, .iconst 2, 1), (10, .invokestatic 214, 3), (13, .ifCond .ne 5, 3), (16, .iconst (-1), 1), (17, .ireturn, 1), (18, .iconst 0, 1), (19, .istore_n 2, 1), (20, .iconst 0, 1), (21, .istore_n 3, 1), (22, .iload_n 3, 1), (23, .aload_n 0, 1), (24, .getfield 255, 3), (27, .if_icmp .ge 89, 3), (30, .iload_n 1, 1), (31, .ifCond .ne 19, 3), (34, .aload_n 0, 1), (35, .iload_n 3, 1), (36, .invokevirtual 297, 3), (39, .ifCond .ne 7, 3), (42, .iconst 1, 1), (43, .goto 50, 3), (46, .iconst 0, 1), (47, .goto 46, 3), (50, .iload_n 1, 1), (51, .iconst 1, 1), (52, .if_icmp .ne 20, 3), (55, .aload_n 0, 1), (56, .iload_n 3, 1), (57, .iconst 1, 1), (58, .invokevirtual 283, 3), (61, .ifCond .ge 7, 3), (64, .iconst 1, 1), (65, .goto 28, 3), (68, .iconst 0, 1), (69, .goto 24, 3), (72, .aload_n 0, 1), (73, .iload_n 3, 1), (74, .aload_n 0, 1), (75, .getfield 46, 3), (78, .bipush 6, 2), (80, .iaload, 1), (81, .invokevirtual 292, 3), (84, .iconst 2, 1), (85, .if_icmp .ne 7, 3), (88, .iconst 1, 1), (89, .goto 4, 3), (92, .iconst 0, 1), (93, .istore 4, 2), (95, .iload_n 2, 1), (96, .iload 4, 2), (98, .ifCond .eq 9, 3), (101, .iconst 1, 1), (102, .iload_n 3, 1), (103, .ishl, 1), (104, .goto 4, 3), (107, .iconst 0, 1), (108, .ior, 1), (109, .istore_n 2, 1), (110, .iinc 3 1, 3), (113, .goto (-91), 3), (116, .iload_n 2, 1), (117, .ireturn, 1)]
set_option maxRecDepth 100000 in
theorem dX12_which : mj_pd cX12_which pX12_which := mj_pdB (by decide +kernel)
theorem fX12_which : mj_mf mX12_which := ⟨mj_t7 192 (by decide +kernel) rfl, mj_t1 13 (by decide +kernel) rfl, by decide, by decide, by decide⟩
theorem iX12_which : Cond.instanceMethod yX12_which ∈ mj_GW := mj_t7 190 (by decide +kernel) rfl
theorem vX12_which : Cond.selects (mj_own.getD 12 "") yX12_which yX12_which ∈ mj_GW := mj_t7 191 (by decide +kernel) rfl
def mX12_thirdWorth : mj_m := (12, false, cX12_thirdWorth, 7, some .int, yX12_thirdWorth)
def pX12_thirdWorth : List (Nat × Instr × Nat) := [(0, .aload_n 0, 1), (1, .getfield 46, 3), (4, .iconst 2, 1), (5, .iaload, 1), (6, .ifCond .ne 9, 3), (9, .iconst 2, 1), (10, .iload_n 2, 1), (11, .isub, 1), (12, .goto 4, 3), (15, .iload_n 2, 1), (16, .istore 4, 2), (18, .iconst 5, 1), (19, .iload_n 3, 1), (20, .imul, 1), (21, .iload 4, 2), (23, .imul, 1), (24, .iconst 2, 1), (25, .idiv, 1), (26, .istore 5, 2), (28, .iconst 0, 1), (29, .istore 6, 2), (31, .iload 6, 2), (33, .aload_n 0, 1), (34, .getfield 255, 3), (37, .if_icmp .ge 36, 3), (40, .iload 5, 2), (42, .iload 6, 2), (44, .iload_n 1, 1), (45, .if_icmp .eq 18, 3), (48, .aload_n 0, 1), (49, .getfield 75, 3), (52, .iload 6, 2), (54, .iaload, 1), (55, .iload_n 2, 1), (56, .if_icmp .ne 7, 3), (59, .iconst 2, 1), (60, .goto 4, 3), (63, .iconst 0, 1), (64, .isub, 1), (65, .istore 5, 2), (67, .iinc 6 1, 3), (70, .goto (-39), 3), (73, .iload 5, 2), (75, .ireturn, 1)]
set_option maxRecDepth 100000 in
theorem dX12_thirdWorth : mj_pd cX12_thirdWorth pX12_thirdWorth := mj_pdB (by decide +kernel)
theorem fX12_thirdWorth : mj_mf mX12_thirdWorth := ⟨mj_t7 212 (by decide +kernel) rfl, mj_t1 13 (by decide +kernel) rfl, by decide, by decide, by decide⟩
theorem iX12_thirdWorth : Cond.instanceMethod yX12_thirdWorth ∈ mj_GW := mj_t7 211 (by decide +kernel) rfl
theorem vX12_thirdWorth : Cond.selects (mj_own.getD 12 "") yX12_thirdWorth yX12_thirdWorth ∈ mj_GW := mj_p7 1 (by decide +kernel) rfl
def mX12_layThirds : mj_m := (12, false, cX12_layThirds, 4, none, yX12_layThirds)
def pX12_layThirds : List (Nat × Instr × Nat) := [(0, .iload_n 1, 1), (1, .istore_n 2, 1), (2, .aload_n 0, 1), (3, .getfield 255, 3), (6, .iconst 1, 1), (7, .isub, 1), (8, .istore_n 3, 1), (9, .iload_n 3, 1), (10, .ifCond .lt 22, 3), (13, .aload_n 0, 1), (14, .getfield 75, 3), (17, .iload_n 3, 1), (18, .iload_n 2, 1), (19, .iconst 3, 1), (20, .irem, 1), (21, .iastore, 1), (22, .iload_n 2, 1), (23, .iconst 3, 1), (24, .idiv, 1), (25, .istore_n 2, 1), (26, .iinc 3 (-1), 3), (29, .goto (-20), 3), (32, .return_, 1)]
set_option maxRecDepth 100000 in
theorem dX12_layThirds : mj_pd cX12_layThirds pX12_layThirds := mj_pdB (by decide +kernel)
theorem fX12_layThirds : mj_mf mX12_layThirds := ⟨mj_t7 204 (by decide +kernel) rfl, mj_t1 13 (by decide +kernel) rfl, by decide, by decide, by decide⟩
theorem iX12_layThirds : Cond.instanceMethod yX12_layThirds ∈ mj_GW := mj_t7 203 (by decide +kernel) rfl
theorem vX12_layThirds : Cond.selects (mj_own.getD 12 "") yX12_layThirds yX12_layThirds ∈ mj_GW := mj_p6 15 (by decide +kernel) rfl
def mX12_isRest : mj_m := (12, false, cX12_isRest, 4, some .boolean, yX12_isRest)
def pX12_isRest : List (Nat × Instr × Nat) := [(0, .iconst 0, 1), (1, .istore_n 2, 1), (2, .iload_n 2, 1), (3, .aload_n 0, 1), (4, .getfield 255, 3), (7, .if_icmp .ge 46, 3), (10, .iconst 0, 1), (11, .istore_n 3, 1), (12, .iload_n 3, 1), (13, .iconst 3, 1), (14, .if_icmp .ge 33, 3), (17, .aload_n 0, 1), (18, .iload_n 2, 1), (19, .iload_n 3, 1), (20, .iload_n 1, 1), (21, .invokevirtual 404, 3), (24, .aload_n 0, 1), (25, .iload_n 2, 1), (26, .aload_n 0, 1), (27, .getfield 75, 3), (30, .iload_n 2, 1), (31, .iaload, 1), (32, .iload_n 1, 1), (33, .invokevirtual 404, 3), (36, .if_icmp .le 5, 3), (39, .iconst 0, 1), (40, .ireturn, 1), (41, .iinc 3 1, 3), (44, .goto (-32), 3), (47, .iinc 2 1, 3), (50, .goto (-48), 3), (53, .iconst 1, 1), (54, .ireturn, 1)]
set_option maxRecDepth 100000 in
theorem dX12_isRest : mj_pd cX12_isRest pX12_isRest := mj_pdB (by decide +kernel)
theorem fX12_isRest : mj_mf mX12_isRest := ⟨mj_t7 208 (by decide +kernel) rfl, mj_t1 13 (by decide +kernel) rfl, by decide, by decide, by decide⟩
theorem iX12_isRest : Cond.instanceMethod yX12_isRest ∈ mj_GW := mj_t7 207 (by decide +kernel) rfl
theorem vX12_isRest : Cond.selects (mj_own.getD 12 "") yX12_isRest yX12_isRest ∈ mj_GW := mj_p7 0 (by decide +kernel) rfl
def mX12_rows : mj_m := (12, false, cX12_rows, 3, some .int, yX12_rows)
def pX12_rows : List (Nat × Instr × Nat) := [(0, .iconst 1, 1), (1, .istore_n 1, 1), (2, .iconst 0, 1), (3, .istore_n 2, 1), (4, .iload_n 2, 1), (5, .aload_n 0, 1), (6, .getfield 255, 3), (9, .if_icmp .ge 13, 3), (12, .iload_n 1, 1), (13, .iconst 3, 1), (14, .imul, 1), (15, .istore_n 1, 1), (16, .iinc 2 1, 3), (19, .goto (-15), 3), (22, .iload_n 1, 1), (23, .ireturn, 1)]
set_option maxRecDepth 100000 in
theorem dX12_rows : mj_pd cX12_rows pX12_rows := mj_pdB (by decide +kernel)
theorem fX12_rows : mj_mf mX12_rows := ⟨mj_t7 200 (by decide +kernel) rfl, mj_t1 13 (by decide +kernel) rfl, by decide, by decide, by decide⟩
theorem iX12_rows : Cond.instanceMethod yX12_rows ∈ mj_GW := mj_t7 199 (by decide +kernel) rfl
theorem vX12_rows : Cond.selects (mj_own.getD 12 "") yX12_rows yX12_rows ∈ mj_GW := mj_p6 14 (by decide +kernel) rfl
def mX12_rests : mj_m := (12, false, cX12_rests, 7, some .int, yX12_rests)
def pX12_rests : List (Nat × Instr × Nat) := [(0, .aload_n 0, 1), (1, .getfield 255, 3), (4, .ifCond .ne 5, 3), (7, .iconst (-1), 1), (8, .ireturn, 1), (9, .aload_n 0, 1), (10, .getfield 255, 3), (13, .iconst 5, 1), (14, .if_icmp .le 7, 3), (17, .ldc_w 381, 3), (20, .ireturn, 1), (21, .iload_n 1, 1), (22, .iconst (-1), 1), (23, .if_icmp .ge 5, 3), (26, .iconst (-1), 1), (27, .ireturn, 1), (28, .aload_n 0, 1), (29, .invokevirtual 407, 3), (32, .istore_n 2, 1), (33, .iconst 0, 1), (34, .istore_n 3, 1), (35, .iconst 0, 1), (36, .istore 4, 2), (38, .iload 4, 2), (40, .iload_n 2, 1), (41, .if_icmp .ge 75, 3), (44, .aload_n 0, 1), (45, .iload 4, 2), (47, .invokevirtual 410, 3), (50, .aload_n 0, 1), (51, .aload_n 0, 1), (52, .getfield 46, 3), (55, .iconst 1, 1), (56, .iaload, 1), (57, .invokevirtual 413, 3), (60, .ifCond .eq 50, 3), (63, .iload_n 3, 1), (64, .iload_n 1, 1), (65, .if_icmp .ne 42, 3), (68, .iconst 0, 1), (69, .istore 5, 2), (71, .iconst 0, 1), (72, .istore 6, 2), (74, .iload 6, 2), (76, .aload_n 0, 1), (77, .getfield 255, 3), (80, .if_icmp .ge 24, 3), (83, .bipush 10, 2), (85, .iload 5, 2), (87, .imul, 1), (88, .aload_n 0, 1), (89, .getfield 75, 3), (92, .iload 6, 2), (94, .iaload, 1), (95, .iadd, 1), (96, .istore 5, 2), (98, .iinc 6 1, 3), (101, .goto (-27), 3), (104, .iload 5, 2), (106, .ireturn, 1), (107, .iinc 3 1, 3), (110, .iinc 4 1, 3), (113, .goto (-75), 3), (116, .iload_n 1, 1), (117, .iconst (-1), 1), (118, .if_icmp .ne 7, 3), (121, .iload_n 3, 1), (122, .goto 4, 3), (125, .iconst (-1), 1), (126, .ireturn, 1)]
set_option maxRecDepth 100000 in
theorem dX12_rests : mj_pd cX12_rests pX12_rests := mj_pdB (by decide +kernel)
theorem fX12_rests : mj_mf mX12_rests := ⟨mj_t7 196 (by decide +kernel) rfl, mj_t1 13 (by decide +kernel) rfl, by decide, by decide, by decide⟩
theorem iX12_rests : Cond.instanceMethod yX12_rests ∈ mj_GW := mj_t7 194 (by decide +kernel) rfl
theorem vX12_rests : Cond.selects (mj_own.getD 12 "") yX12_rests yX12_rests ∈ mj_GW := mj_t7 195 (by decide +kernel) rfl
def mX12_fullest : mj_m := (12, false, cX12_fullest, 8, some .int, yX12_fullest)
def pX12_fullest : List (Nat × Instr × Nat) := [(0, .aload_n 0, 1), (1, .invokevirtual 407, 3), (4, .istore_n 2, 1), (5, .iconst 0, 1), (6, .istore_n 3, 1), (7, .iload_n 3, 1), (8, .iload_n 2, 1), (9, .if_icmp .ge 95, 3), (12, .aload_n 0, 1), (13, .iload_n 3, 1), (14, .invokevirtual 410, 3), (17, .aload_n 0, 1), (18, .iload_n 1, 1), (19, .invokevirtual 413, 3), (22, .ifCond .eq 76, 3), (25, .iconst 0, 1), (26, .istore 4, 2), (28, .iconst 0, 1), (29, .istore 5, 2), (31, .iload 5, 2), (33, .iconst 3, 1), (34, .if_icmp .ge 61, 3), (37, .iconst 0, 1), (38, .istore 6, 2), (40, .iconst 0, 1), (41, .istore 7, 2), (43, .iload 7, 2), (45, .aload_n 0, 1), (46, .getfield 255, 3), (49, .if_icmp .ge 31, 3), (52, .iload 6, 2), (54, .aload_n 0, 1), (55, .getfield 75, 3), (58, .iload 7, 2), (60, .iaload, 1), (61, .iload 5, 2), (63, .if_icmp .ne 7, 3), (66, .iconst 1, 1), (67, .goto 4, 3), (70, .iconst 0, 1), (71, .iadd, 1), (72, .istore 6, 2), (74, .iinc 7 1, 3), (77, .goto (-34), 3), (80, .iload 4, 2), (82, .iload 6, 2), (84, .invokestatic 295, 3), (87, .istore 4, 2), (89, .iinc 5 1, 3), (92, .goto (-61), 3), (95, .iload 4, 2), (97, .ireturn, 1), (98, .iinc 3 1, 3), (101, .goto (-94), 3), (104, .iconst (-1), 1), (105, .ireturn, 1)]
set_option maxRecDepth 100000 in
theorem dX12_fullest : mj_pd cX12_fullest pX12_fullest := mj_pdB (by decide +kernel)
theorem fX12_fullest : mj_mf mX12_fullest := ⟨mj_t7 220 (by decide +kernel) rfl, mj_t1 13 (by decide +kernel) rfl, by decide, by decide, by decide⟩
theorem iX12_fullest : Cond.instanceMethod yX12_fullest ∈ mj_GW := mj_t7 219 (by decide +kernel) rfl
theorem vX12_fullest : Cond.selects (mj_own.getD 12 "") yX12_fullest yX12_fullest ∈ mj_GW := mj_p7 2 (by decide +kernel) rfl
def mX12_spread : mj_m := (12, false, cX12_spread, 6, some .int, yX12_spread)
def pX12_spread : List (Nat × Instr × Nat) := [(0, .aload_n 0, 1), (1, .getfield 255, 3), (4, .ifCond .eq 12, 3), (7, .iload_n 1, 1), (8, .iconst 0, 1), (9, .iconst 1, 1), (10, .invokestatic 214, 3), (13, .ifCond .ne 5, 3), (16, .iconst (-1), 1), (17, .ireturn, 1), (18, .aload_n 0, 1), (19, .getfield 255, 3), (22, .iconst 5, 1), (23, .if_icmp .le 7, 3), (26, .ldc_w 381, 3), (29, .ireturn, 1), (30, .iconst (-1), 1), (31, .istore_n 2, 1), (32, .iconst 0, 1), (33, .istore_n 3, 1), (34, .iconst 0, 1), (35, .istore 4, 2), (37, .iload 4, 2), (39, .bipush 9, 2), (41, .if_icmp .gt 40, 3), (44, .aload_n 0, 1), (45, .iload 4, 2), (47, .invokevirtual 416, 3), (50, .istore 5, 2), (52, .iload 5, 2), (54, .iconst (-1), 1), (55, .if_icmp .eq 20, 3), (58, .iload_n 2, 1), (59, .iconst (-1), 1), (60, .if_icmp .eq 9, 3), (63, .iload 5, 2), (65, .iload_n 3, 1), (66, .if_icmp .ge 9, 3), (69, .iload 4, 2), (71, .istore_n 2, 1), (72, .iload 5, 2), (74, .istore_n 3, 1), (75, .iinc 4 1, 3), (78, .goto (-41), 3), (81, .iload_n 1, 1), (82, .ifCond .ne 7, 3), (85, .iload_n 2, 1), (86, .goto 13, 3), (89, .iload_n 2, 1), (90, .iconst (-1), 1), (91, .if_icmp .ne 7, 3), (94, .iconst (-1), 1), (95, .goto 4, 3), (98, .iload_n 3, 1), (99, .ireturn, 1)]
set_option maxRecDepth 100000 in
theorem dX12_spread : mj_pd cX12_spread pX12_spread := mj_pdB (by decide +kernel)
theorem fX12_spread : mj_mf mX12_spread := ⟨mj_t7 216 (by decide +kernel) rfl, mj_t1 13 (by decide +kernel) rfl, by decide, by decide, by decide⟩
theorem iX12_spread : Cond.instanceMethod yX12_spread ∈ mj_GW := mj_t7 214 (by decide +kernel) rfl
theorem vX12_spread : Cond.selects (mj_own.getD 12 "") yX12_spread yX12_spread ∈ mj_GW := mj_t7 215 (by decide +kernel) rfl
def mX12_duelOf : mj_m := (12, false, cX12_duelOf, 6, some .int, yX12_duelOf)
def pX12_duelOf : List (Nat × Instr × Nat) := [(0, .aload_n 0, 1), (1, .invokevirtual 382, 3), (4, .aload_n 0, 1), (5, .getfield 255, 3), (8, .istore_n 3, 1), (9, .iconst 0, 1), (10, .istore 4, 2), (12, .iload 4, 2), (14, .bipush 7, 2), (16, .if_icmp .ge 56, 3), (19, .aload_n 0, 1), (20, .getfield 78, 3), (23, .iload 4, 2), (25, .aload_n 0, 1), (26, .getfield 46, 3), (29, .iload 4, 2), (31, .iaload, 1), (32, .iastore, 1), (33, .aload_n 0, 1), (34, .getfield 46, 3), (37, .iload 4, 2), (39, .iload 4, 2), (41, .iconst 5, 1), (42, .if_icmp .ne 13, 3), (45, .aload_n 0, 1), (46, .getfield 46, 3), (49, .iload 4, 2), (51, .iaload, 1), (52, .goto 13, 3), (55, .iload 4, 2), (57, .ifCond .ne 7, 3), (60, .iconst 2, 1), (61, .goto 4, 3), (64, .iconst 0, 1), (65, .iastore, 1), (66, .iinc 4 1, 3), (69, .goto (-57), 3), (72, .iconst 0, 1), (73, .istore 4, 2), (75, .iload 4, 2), (77, .bipush 12, 2), (79, .if_icmp .ge 23, 3), (82, .aload_n 0, 1), (83, .getfield 81, 3), (86, .iload 4, 2), (88, .aload_n 0, 1), (89, .getfield 49, 3), (92, .iload 4, 2), (94, .iaload, 1), (95, .iastore, 1), (96, .iinc 4 1, 3), (99, .goto (-24), 3), (102, .aload_n 0, 1), (103, .iconst 2, 1), (104, .putfield 255, 3), (107, .iconst 0, 1), (108, .istore 4, 2), (110, .iload 4, 2), (112, .iconst 2, 1), (113, .if_icmp .ge 98, 3), (116, .aload_n 0, 1), (117, .getfield 49, 3), (120, .bipush 6, 2), (122, .iload 4, 2), (124, .imul, 1), (125, .iconst 0, 1), (126, .iadd, 1), (127, .iload 4, 2), (129, .iastore, 1), (130, .aload_n 0, 1), (131, .getfield 49, 3), (134, .bipush 6, 2), (136, .iload 4, 2), (138, .imul, 1), (139, .iconst 1, 1), (140, .iadd, 1), (141, .bipush 9, 2), (143, .iastore, 1), (144, .aload_n 0, 1), (145, .getfield 49, 3), (148, .bipush 6, 2), (150, .iload 4, 2), (152, .imul, 1), (153, .iconst 2, 1), (154, .iadd, 1), (155, .iconst 0, 1), (156, .iastore, 1), (157, .aload_n 0, 1), (158, .getfield 49, 3), (161, .bipush 6, 2), (163, .iload 4, 2), (165, .imul, 1), (166, .iconst 3, 1), (167, .iadd, 1), (168, .iconst 2, 1), (169, .iastore, 1), (170, .aload_n 0, 1), (171, .getfield 49, 3), (174, .bipush 6, 2), (176, .iload 4, 2), (178, .imul, 1), (179, .iconst 4, 1), (180, .iadd, 1), (181, .iconst 5, 1), (182, .iastore, 1), (183, .aload_n 0, 1), (184, .getfield 49, 3), (187, .bipush 6, 2), (189, .iload 4, 2), (191, .imul, 1), (192, .iconst 5, 1), (193, .iadd, 1), (194, .iload 4, 2), (196, .ifCond .ne 7, 3), (199, .iload_n 1, 1), (200, .goto 4, 3), (203, .iload_n 2, 1), (204, .iastore, 1), (205, .iinc 4 1, 3), (208, .goto (-98), 3), (211, .aload_n 0, 1), (212, .invokevirtual 258, 3), (215, .aload_n 0, 1), (216, .invokevirtual 385, 3), (219, .aload_n 0, 1), (220, .iconst 0, 1), (221, .invokevirtual 312, 3), (224, .aload_n 0, 1), (225, .iconst 1, 1), (226, .invokevirtual 312, 3), (229, .isub, 1), (230, .istore 4, 2), (232, .aload_n 0, 1), (233, .iload_n 3, 1), (234, .putfield 255, 3), (237, .iconst 0, 1), (238, .istore 5, 2), (240, .iload 5, 2), (242, .bipush 7, 2), (244, .if_icmp .ge 23, 3), (247, .aload_n 0, 1), (248, .getfield 46, 3), (251, .iload 5, 2), (253, .aload_n 0, 1), (254, .getfield 78, 3), (257, .iload 5, 2), (259, .iaload, 1), (260, .iastore, 1), (261, .iinc 5 1, 3), (264, .goto (-24), 3), (267, .iconst 0, 1), (268, .istore 5, 2), (270, .iload 5, 2), (272, .bipush 12, 2), (274, .if_icmp .ge 23, 3), (277, .aload_n 0, 1), (278, .getfield 49, 3), (281, .iload 5, 2), (283, .aload_n 0, 1), (284, .getfield 81, 3), (287, .iload 5, 2), (289, .iaload, 1), (290, .iastore, 1), (291, .iinc 5 1, 3), (294, .goto (-24), 3), (297, .aload_n 0, 1), (298, .invokevirtual 388, 3), (301, .iload 4, 2), (303, .ireturn, 1)]
set_option maxRecDepth 100000 in
theorem dX12_duelOf : mj_pd cX12_duelOf pX12_duelOf := mj_pdB (by decide +kernel)
theorem fX12_duelOf : mj_mf mX12_duelOf := ⟨mj_t7 232 (by decide +kernel) rfl, mj_t1 13 (by decide +kernel) rfl, by decide, by decide, by decide⟩
theorem iX12_duelOf : Cond.instanceMethod yX12_duelOf ∈ mj_GW := mj_t7 231 (by decide +kernel) rfl
theorem vX12_duelOf : Cond.selects (mj_own.getD 12 "") yX12_duelOf yX12_duelOf ∈ mj_GW := mj_p7 4 (by decide +kernel) rfl
def mX12_isLaw : mj_m := (12, false, cX12_isLaw, 2, some .boolean, yX12_isLaw)
def pX12_isLaw : List (Nat × Instr × Nat) := [(0, .aload_n 0, 1), (1, .getfield 255, 3), (4, .ifCond .le 21, 3), (7, .iload_n 1, 1), (8, .iconst 0, 1), (9, .aload_n 0, 1), (10, .getfield 280, 3), (13, .iconst 1, 1), (14, .isub, 1), (15, .invokestatic 214, 3), (18, .ifCond .eq 7, 3), (21, .iconst 1, 1), (22, .goto 4, 3), (25, .iconst 0, 1), (26, .ireturn, 1)]
set_option maxRecDepth 100000 in
theorem dX12_isLaw : mj_pd cX12_isLaw pX12_isLaw := mj_pdB (by decide +kernel)
theorem fX12_isLaw : mj_mf mX12_isLaw := ⟨mj_t7 228 (by decide +kernel) rfl, mj_t1 13 (by decide +kernel) rfl, by decide, by decide, by decide⟩
theorem iX12_isLaw : Cond.instanceMethod yX12_isLaw ∈ mj_GW := mj_t7 227 (by decide +kernel) rfl
theorem vX12_isLaw : Cond.selects (mj_own.getD 12 "") yX12_isLaw yX12_isLaw ∈ mj_GW := mj_p7 3 (by decide +kernel) rfl
def mX12_duel : mj_m := (12, false, cX12_duel, 3, some .int, yX12_duel)
def pX12_duel : List (Nat × Instr × Nat) := [(0, .aload_n 0, 1), (1, .iload_n 1, 1), (2, .invokevirtual 419, 3), (5, .ifCond .eq 20, 3), (8, .aload_n 0, 1), (9, .iload_n 2, 1), (10, .invokevirtual 419, 3), (13, .ifCond .eq 12, 3), (16, .aload_n 0, 1), (17, .iload_n 1, 1), (18, .iload_n 2, 1), (19, .invokevirtual 422, 3), (22, .goto 6, 3), (25, .ldc_w 381, 3), (28, .ireturn, 1)]
set_option maxRecDepth 100000 in
theorem dX12_duel : mj_pd cX12_duel pX12_duel := mj_pdB (by decide +kernel)
theorem fX12_duel : mj_mf mX12_duel := ⟨mj_t7 224 (by decide +kernel) rfl, mj_t1 13 (by decide +kernel) rfl, by decide, by decide, by decide⟩
theorem iX12_duel : Cond.instanceMethod yX12_duel ∈ mj_GW := mj_t7 222 (by decide +kernel) rfl
theorem vX12_duel : Cond.selects (mj_own.getD 12 "") yX12_duel yX12_duel ∈ mj_GW := mj_t7 223 (by decide +kernel) rfl
def mX12_reply : mj_m := (12, false, cX12_reply, 4, some .int, yX12_reply)
def pX12_reply : List (Nat × Instr × Nat) := [(0, .aload_n 0, 1), (1, .iload_n 1, 1), (2, .invokevirtual 419, 3), (5, .ifCond .ne 5, 3), (8, .iconst (-1), 1), (9, .ireturn, 1), (10, .iconst 0, 1), (11, .istore_n 2, 1), (12, .iconst 1, 1), (13, .istore_n 3, 1), (14, .iload_n 3, 1), (15, .aload_n 0, 1), (16, .getfield 280, 3), (19, .if_icmp .ge 30, 3), (22, .aload_n 0, 1), (23, .iload_n 3, 1), (24, .iload_n 1, 1), (25, .invokevirtual 422, 3), (28, .aload_n 0, 1), (29, .iload_n 2, 1), (30, .iload_n 1, 1), (31, .invokevirtual 422, 3), (34, .if_icmp .le 7, 3), (37, .iload_n 3, 1), (38, .goto 4, 3), (41, .iload_n 2, 1), (42, .istore_n 2, 1), (43, .iinc 3 1, 3), (46, .goto (-32), 3), (49, .iload_n 2, 1), (50, .ireturn, 1)]
set_option maxRecDepth 100000 in
theorem dX12_reply : mj_pd cX12_reply pX12_reply := mj_pdB (by decide +kernel)
theorem fX12_reply : mj_mf mX12_reply := ⟨mj_t7 236 (by decide +kernel) rfl, mj_t1 13 (by decide +kernel) rfl, by decide, by decide, by decide⟩
theorem iX12_reply : Cond.instanceMethod yX12_reply ∈ mj_GW := mj_t7 234 (by decide +kernel) rfl
theorem vX12_reply : Cond.selects (mj_own.getD 12 "") yX12_reply yX12_reply ∈ mj_GW := mj_t7 235 (by decide +kernel) rfl
def mX12_sumOfDuels : mj_m := (12, false, cX12_sumOfDuels, 4, some .int, yX12_sumOfDuels)
def pX12_sumOfDuels : List (Nat × Instr × Nat) := [(0, .iconst 0, 1), (1, .istore_n 2, 1), (2, .iconst 0, 1), (3, .istore_n 3, 1), (4, .iload_n 3, 1), (5, .aload_n 0, 1), (6, .getfield 280, 3), (9, .if_icmp .ge 18, 3), (12, .iload_n 2, 1), (13, .aload_n 0, 1), (14, .iload_n 1, 1), (15, .iload_n 3, 1), (16, .invokevirtual 422, 3), (19, .iadd, 1), (20, .istore_n 2, 1), (21, .iinc 3 1, 3), (24, .goto (-20), 3), (27, .iload_n 2, 1), (28, .ireturn, 1)]
set_option maxRecDepth 100000 in
theorem dX12_sumOfDuels : mj_pd cX12_sumOfDuels pX12_sumOfDuels := mj_pdB (by decide +kernel)
theorem fX12_sumOfDuels : mj_mf mX12_sumOfDuels := ⟨mj_t8 4 (by decide +kernel) rfl, mj_t1 13 (by decide +kernel) rfl, by decide, by decide, by decide⟩
theorem iX12_sumOfDuels : Cond.instanceMethod yX12_sumOfDuels ∈ mj_GW := mj_t8 3 (by decide +kernel) rfl
theorem vX12_sumOfDuels : Cond.selects (mj_own.getD 12 "") yX12_sumOfDuels yX12_sumOfDuels ∈ mj_GW := mj_p7 5 (by decide +kernel) rfl
def mX12_strong : mj_m := (12, false, cX12_strong, 3, some .int, yX12_strong)
def pX12_strong : List (Nat × Instr × Nat) := [(0, .aload_n 0, 1), (1, .getfield 255, 3), (4, .ifCond .eq 10, 3), (7, .aload_n 0, 1), (8, .getfield 280, 3), (11, .ifCond .ne 5, 3), (14, .iconst (-1), 1), (15, .ireturn, 1), (16, .iconst 0, 1), (17, .istore_n 1, 1), (18, .iconst 1, 1), (19, .istore_n 2, 1), (20, .iload_n 2, 1), (21, .aload_n 0, 1), (22, .getfield 280, 3), (25, .if_icmp .ge 28, 3), (28, .aload_n 0, 1), (29, .iload_n 2, 1), (30, .invokevirtual 425, 3), (33, .aload_n 0, 1), (34, .iload_n 1, 1), (35, .invokevirtual 425, 3), (38, .if_icmp .le 7, 3), (41, .iload_n 2, 1), (42, .goto 4, 3), (45, .iload_n 1, 1), (46, .istore_n 1, 1), (47, .iinc 2 1, 3), (50, .goto (-30), 3), (53, .iload_n 1, 1), (54, .ireturn, 1)]
set_option maxRecDepth 100000 in
theorem dX12_strong : mj_pd cX12_strong pX12_strong := mj_pdB (by decide +kernel)
theorem fX12_strong : mj_mf mX12_strong := ⟨mj_t8 0 (by decide +kernel) rfl, mj_t1 13 (by decide +kernel) rfl, by decide, by decide, by decide⟩
theorem iX12_strong : Cond.instanceMethod yX12_strong ∈ mj_GW := mj_t7 238 (by decide +kernel) rfl
theorem vX12_strong : Cond.selects (mj_own.getD 12 "") yX12_strong yX12_strong ∈ mj_GW := mj_t7 239 (by decide +kernel) rfl
def mX12_picture : mj_m := (12, false, cX12_picture, 4, some .int, yX12_picture)
def pX12_picture : List (Nat × Instr × Nat) := [(0, .aload_n 0, 1), (1, .iload_n 1, 1), (2, .invokevirtual 306, 3), (5, .ifCond .eq 28, 3), (8, .iload_n 2, 1), (9, .bipush (-20), 2), (11, .iload_n 3, 1), (12, .invokestatic 214, 3), (15, .ifCond .eq 18, 3), (18, .iload_n 3, 1), (19, .bipush 20, 2), (21, .if_icmp .gt 12, 3), (24, .aload_n 0, 1), (25, .getfield 261, 3), (28, .bipush 12, 2), (30, .if_icmp .ne 5, 3), (33, .iconst (-1), 1), (34, .ireturn, 1), (35, .aload_n 0, 1), (36, .getfield 84, 3), (39, .aload_n 0, 1), (40, .getfield 261, 3), (43, .iload_n 1, 1), (44, .iastore, 1), (45, .aload_n 0, 1), (46, .getfield 87, 3), (49, .aload_n 0, 1), (50, .getfield 261, 3), (53, .iload_n 2, 1), (54, .iastore, 1), (55, .aload_n 0, 1), (56, .getfield 90, 3), (59, .aload_n 0, 1), (60, .getfield 261, 3), (63, .iload_n 3, 1), (64, .iastore, 1), (65, .aload_n 0, 1), (66, .dup, 1), (67, .getfield 261, 3), (70, .iconst 1, 1), (71, .iadd, 1), (72, .putfield 261, 3), (75, .aload_n 0, 1), (76, .getfield 261, 3), (79, .ireturn, 1)]
set_option maxRecDepth 100000 in
theorem dX12_picture : mj_pd cX12_picture pX12_picture := mj_pdB (by decide +kernel)
theorem fX12_picture : mj_mf mX12_picture := ⟨mj_t8 8 (by decide +kernel) rfl, mj_t1 13 (by decide +kernel) rfl, by decide, by decide, by decide⟩
theorem iX12_picture : Cond.instanceMethod yX12_picture ∈ mj_GW := mj_t8 6 (by decide +kernel) rfl
theorem vX12_picture : Cond.selects (mj_own.getD 12 "") yX12_picture yX12_picture ∈ mj_GW := mj_t8 7 (by decide +kernel) rfl
def mX12_wasSo : mj_m := (12, false, cX12_wasSo, 7, some .boolean, yX12_wasSo)
def pX12_wasSo : List (Nat × Instr × Nat) := [(0, .bipush (-20), 2), (2, .istore_n 3, 1), (3, .bipush 20, 2), (5, .istore 4, 2), (7, .iconst 0, 1), (8, .istore 5, 2), (10, .iconst 0, 1), (11, .istore 6, 2), (13, .iload 6, 2), (15, .aload_n 0, 1), (16, .getfield 261, 3), (19, .if_icmp .ge 49, 3), (22, .aload_n 0, 1), (23, .getfield 84, 3), (26, .iload 6, 2), (28, .iaload, 1), (29, .iload_n 1, 1), (30, .if_icmp .ne 32, 3), (33, .iload_n 3, 1), (34, .aload_n 0, 1), (35, .getfield 87, 3), (38, .iload 6, 2), (40, .iaload, 1), (41, .invokestatic 295, 3), (44, .istore_n 3, 1), (45, .iload 4, 2), (47, .aload_n 0, 1), (48, .getfield 90, 3), (51, .iload 6, 2), (53, .iaload, 1), (54, .invokestatic 321, 3), (57, .istore 4, 2), (59, .iinc 5 1, 3), (62, .iinc 6 1, 3), (65, .goto (-52), 3), (68, .iload 5, 2), (70, .ifCond .le 40, 3), (73, .iload_n 2, 1), (74, .iconst 2, 1), (75, .if_icmp .ne 12, 3), (78, .iload_n 3, 1), (79, .iload 4, 2), (81, .if_icmp .le 29, 3), (84, .goto 22, 3), (87, .iload_n 3, 1), (88, .iload 4, 2), (90, .if_icmp .gt 20, 3), (93, .iload_n 2, 1), (94, .ifCond .ne 7, 3), (97, .iload_n 3, 1), (98, .goto 5, 3), (101, .iload 4, 2), (103, .ifCond .ge 7, 3), (106, .iconst 1, 1), (107, .goto 4, 3), (110, .iconst 0, 1), (111, .ireturn, 1)]
set_option maxRecDepth 100000 in
theorem dX12_wasSo : mj_pd cX12_wasSo pX12_wasSo := mj_pdB (by decide +kernel)
theorem fX12_wasSo : mj_mf mX12_wasSo := ⟨mj_t8 16 (by decide +kernel) rfl, mj_t1 13 (by decide +kernel) rfl, by decide, by decide, by decide⟩
theorem iX12_wasSo : Cond.instanceMethod yX12_wasSo ∈ mj_GW := mj_t8 15 (by decide +kernel) rfl
theorem vX12_wasSo : Cond.selects (mj_own.getD 12 "") yX12_wasSo yX12_wasSo ∈ mj_GW := mj_p7 6 (by decide +kernel) rfl
def mX12_was : mj_m := (12, false, cX12_was, 4, some .int, yX12_was)
def pX12_was : List (Nat × Instr × Nat) := [(0, .aload_n 0, 1), (1, .getfield 255, 3), (4, .ifCond .eq 12, 3), (7, .iload_n 1, 1), (8, .iconst 0, 1), (9, .iconst 2, 1), (10, .invokestatic 214, 3), (13, .ifCond .ne 5, 3), (16, .iconst (-1), 1), (17, .ireturn, 1), (18, .iconst 0, 1), (19, .istore_n 2, 1), (20, .iconst 0, 1), (21, .istore_n 3, 1), (22, .iload_n 3, 1), (23, .aload_n 0, 1), (24, .getfield 255, 3), (27, .if_icmp .ge 28, 3), (30, .iload_n 2, 1), (31, .aload_n 0, 1), (32, .iload_n 3, 1), (33, .iload_n 1, 1), (34, .invokevirtual 428, 3), (37, .ifCond .eq 9, 3), (40, .iconst 1, 1), (41, .iload_n 3, 1), (42, .ishl, 1), (43, .goto 4, 3), (46, .iconst 0, 1), (47, .ior, 1), (48, .istore_n 2, 1), (49, .iinc 3 1, 3), (52, .goto (-30), 3), (55, .iload_n 2, 1), (56, .ireturn, 1)]
set_option maxRecDepth 100000 in
theorem dX12_was : mj_pd cX12_was pX12_was := mj_pdB (by decide +kernel)
theorem fX12_was : mj_mf mX12_was := ⟨mj_t8 12 (by decide +kernel) rfl, mj_t1 13 (by decide +kernel) rfl, by decide, by decide, by decide⟩
theorem iX12_was : Cond.instanceMethod yX12_was ∈ mj_GW := mj_t8 10 (by decide +kernel) rfl
theorem vX12_was : Cond.selects (mj_own.getD 12 "") yX12_was yX12_was ∈ mj_GW := mj_t8 11 (by decide +kernel) rfl
def mX12_write : mj_m := (12, false, cX12_write, 2, none, yX12_write)
def pX12_write : List (Nat × Instr × Nat) := [(0, .iconst 0, 1), (1, .istore_n 1, 1), (2, .iload_n 1, 1), (3, .aload_n 0, 1), (4, .getfield 255, 3), (7, .if_icmp .ge 28, 3), (10, .aload_n 0, 1), (11, .getfield 93, 3), (14, .bipush 8, 2), (16, .aload_n 0, 1), (17, .getfield 264, 3), (20, .imul, 1), (21, .iload_n 1, 1), (22, .iadd, 1), (23, .aload_n 0, 1), (24, .iload_n 1, 1), (25, .invokevirtual 315, 3), (28, .iastore, 1), (29, .iinc 1 1, 3), (32, .goto (-30), 3), (35, .aload_n 0, 1), (36, .dup, 1), (37, .getfield 264, 3), (40, .iconst 1, 1), (41, .iadd, 1), (42, .putfield 264, 3), (45, .return_, 1)]
set_option maxRecDepth 100000 in
theorem dX12_write : mj_pd cX12_write pX12_write := mj_pdB (by decide +kernel)
theorem fX12_write : mj_mf mX12_write := ⟨mj_t8 24 (by decide +kernel) rfl, mj_t1 13 (by decide +kernel) rfl, by decide, by decide, by decide⟩
theorem iX12_write : Cond.instanceMethod yX12_write ∈ mj_GW := mj_t8 23 (by decide +kernel) rfl
theorem vX12_write : Cond.selects (mj_own.getD 12 "") yX12_write yX12_write ∈ mj_GW := mj_p7 7 (by decide +kernel) rfl
def mX12_race : mj_m := (12, false, cX12_race, 1, some .int, yX12_race)
def pX12_race : List (Nat × Instr × Nat) := [(0, .aload_n 0, 1), (1, .getfield 255, 3), (4, .ifCond .eq 19, 3), (7, .aload_n 0, 1), (8, .invokevirtual 323, 3), (11, .ifCond .gt 12, 3), (14, .aload_n 0, 1), (15, .getfield 264, 3), (18, .bipush 40, 2), (20, .if_icmp .ne 5, 3), (23, .iconst (-1), 1), (24, .ireturn, 1), (25, .aload_n 0, 1), (26, .invokevirtual 431, 3), (29, .aload_n 0, 1), (30, .getfield 264, 3), (33, .ireturn, 1)]
set_option maxRecDepth 100000 in
theorem dX12_race : mj_pd cX12_race pX12_race := mj_pdB (by decide +kernel)
theorem fX12_race : mj_mf mX12_race := ⟨mj_t8 20 (by decide +kernel) rfl, mj_t1 13 (by decide +kernel) rfl, by decide, by decide, by decide⟩
theorem iX12_race : Cond.instanceMethod yX12_race ∈ mj_GW := mj_t8 18 (by decide +kernel) rfl
theorem vX12_race : Cond.selects (mj_own.getD 12 "") yX12_race yX12_race ∈ mj_GW := mj_t8 19 (by decide +kernel) rfl
def mX12_pointsOf : mj_m := (12, false, cX12_pointsOf, 4, some .int, yX12_pointsOf)
def pX12_pointsOf : List (Nat × Instr × Nat) := [(0, .iconst 0, 1), (1, .istore_n 2, 1), (2, .iconst 0, 1), (3, .istore_n 3, 1), (4, .iload_n 3, 1), (5, .aload_n 0, 1), (6, .getfield 264, 3), (9, .if_icmp .ge 23, 3), (12, .iload_n 2, 1), (13, .aload_n 0, 1), (14, .getfield 93, 3), (17, .bipush 8, 2), (19, .iload_n 3, 1), (20, .imul, 1), (21, .iload_n 1, 1), (22, .iadd, 1), (23, .iaload, 1), (24, .iadd, 1), (25, .istore_n 2, 1), (26, .iinc 3 1, 3), (29, .goto (-25), 3), (32, .iload_n 2, 1), (33, .ireturn, 1)]
set_option maxRecDepth 100000 in
theorem dX12_pointsOf : mj_pd cX12_pointsOf pX12_pointsOf := mj_pdB (by decide +kernel)
theorem fX12_pointsOf : mj_mf mX12_pointsOf := ⟨mj_t8 32 (by decide +kernel) rfl, mj_t1 13 (by decide +kernel) rfl, by decide, by decide, by decide⟩
theorem iX12_pointsOf : Cond.instanceMethod yX12_pointsOf ∈ mj_GW := mj_t8 31 (by decide +kernel) rfl
theorem vX12_pointsOf : Cond.selects (mj_own.getD 12 "") yX12_pointsOf yX12_pointsOf ∈ mj_GW := mj_p7 8 (by decide +kernel) rfl
def mX12_points : mj_m := (12, false, cX12_points, 2, some .int, yX12_points)
def pX12_points : List (Nat × Instr × Nat) := [(0, .aload_n 0, 1), (1, .iload_n 1, 1), (2, .invokevirtual 306, 3), (5, .ifCond .eq 11, 3), (8, .aload_n 0, 1), (9, .iload_n 1, 1), (10, .invokevirtual 434, 3), (13, .goto 4, 3), (16, .iconst (-1), 1), (17, .ireturn, 1)]
set_option maxRecDepth 100000 in
theorem dX12_points : mj_pd cX12_points pX12_points := mj_pdB (by decide +kernel)
theorem fX12_points : mj_mf mX12_points := ⟨mj_t8 28 (by decide +kernel) rfl, mj_t1 13 (by decide +kernel) rfl, by decide, by decide, by decide⟩
theorem iX12_points : Cond.instanceMethod yX12_points ∈ mj_GW := mj_t8 26 (by decide +kernel) rfl
theorem vX12_points : Cond.selects (mj_own.getD 12 "") yX12_points yX12_points ∈ mj_GW := mj_t8 27 (by decide +kernel) rfl
def mX12_champion : mj_m := (12, false, cX12_champion, 3, some .int, yX12_champion)
def pX12_champion : List (Nat × Instr × Nat) := [(0, .aload_n 0, 1), (1, .getfield 264, 3), (4, .ifCond .ne 5, 3), (7, .iconst (-1), 1), (8, .ireturn, 1), (9, .iconst 0, 1), (10, .istore_n 1, 1), (11, .iconst 1, 1), (12, .istore_n 2, 1), (13, .iload_n 2, 1), (14, .aload_n 0, 1), (15, .getfield 255, 3), (18, .if_icmp .ge 28, 3), (21, .aload_n 0, 1), (22, .iload_n 2, 1), (23, .invokevirtual 434, 3), (26, .aload_n 0, 1), (27, .iload_n 1, 1), (28, .invokevirtual 434, 3), (31, .if_icmp .ge 7, 3), (34, .iload_n 2, 1), (35, .goto 4, 3), (38, .iload_n 1, 1), (39, .istore_n 1, 1), (40, .iinc 2 1, 3), (43, .goto (-30), 3), (46, .iload_n 1, 1), (47, .ireturn, 1)]
set_option maxRecDepth 100000 in
theorem dX12_champion : mj_pd cX12_champion pX12_champion := mj_pdB (by decide +kernel)
theorem fX12_champion : mj_mf mX12_champion := ⟨mj_t8 36 (by decide +kernel) rfl, mj_t1 13 (by decide +kernel) rfl, by decide, by decide, by decide⟩
theorem iX12_champion : Cond.instanceMethod yX12_champion ∈ mj_GW := mj_t8 34 (by decide +kernel) rfl
theorem vX12_champion : Cond.selects (mj_own.getD 12 "") yX12_champion yX12_champion ∈ mj_GW := mj_t8 35 (by decide +kernel) rfl
def mX12_isHeldAhead : mj_m := (12, false, cX12_isHeldAhead, 5, some .boolean, yX12_isHeldAhead)
def pX12_isHeldAhead : List (Nat × Instr × Nat) := [(0, .iconst 0, 1), (1, .istore 4, 2), (3, .iload 4, 2), (5, .iload_n 1, 1), (6, .if_icmp .ge 33, 3), (9, .aload_n 0, 1), (10, .iload 4, 2), (12, .iconst 0, 1), (13, .invokevirtual 283, 3), (16, .iload_n 2, 1), (17, .if_icmp .ne 16, 3), (20, .aload_n 0, 1), (21, .iload 4, 2), (23, .iconst 1, 1), (24, .invokevirtual 283, 3), (27, .iload_n 3, 1), (28, .if_icmp .ne 5, 3), (31, .iconst 1, 1), (32, .ireturn, 1), (33, .iinc 4 1, 3), (36, .goto (-33), 3), (39, .iconst 0, 1), (40, .ireturn, 1)]
set_option maxRecDepth 100000 in
theorem dX12_isHeldAhead : mj_pd cX12_isHeldAhead pX12_isHeldAhead := mj_pdB (by decide +kernel)
theorem fX12_isHeldAhead : mj_mf mX12_isHeldAhead := ⟨mj_t8 48 (by decide +kernel) rfl, mj_t1 13 (by decide +kernel) rfl, by decide, by decide, by decide⟩
theorem iX12_isHeldAhead : Cond.instanceMethod yX12_isHeldAhead ∈ mj_GW := mj_t8 47 (by decide +kernel) rfl
theorem vX12_isHeldAhead : Cond.selects (mj_own.getD 12 "") yX12_isHeldAhead yX12_isHeldAhead ∈ mj_GW := mj_p7 10 (by decide +kernel) rfl
def mX12_drawCell : mj_m := (12, false, cX12_drawCell, 5, none, yX12_drawCell)
def pX12_drawCell : List (Nat × Instr × Nat) := [(0, .iconst 5, 1), (1, .aload_n 0, 1), (2, .bipush 10, 2), (4, .invokevirtual 378, 3), (7, .iadd, 1), (8, .istore_n 2, 1), (9, .aload_n 0, 1), (10, .aload_n 0, 1), (11, .getfield 46, 3), (14, .iconst 0, 1), (15, .iaload, 1), (16, .invokevirtual 378, 3), (19, .istore_n 3, 1), (20, .iconst 0, 1), (21, .istore 4, 2), (23, .aload_n 0, 1), (24, .iload_n 1, 1), (25, .iload_n 3, 1), (26, .iload_n 2, 1), (27, .invokevirtual 437, 3), (30, .ifCond .eq 37, 3), (33, .iload_n 3, 1), (34, .iconst 1, 1), (35, .iadd, 1), (36, .aload_n 0, 1), (37, .getfield 46, 3), (40, .iconst 0, 1), (41, .iaload, 1), (42, .irem, 1), (43, .istore_n 3, 1), (44, .iinc 4 1, 3), (47, .iload 4, 2), (49, .aload_n 0, 1), (50, .getfield 46, 3), (53, .iconst 0, 1), (54, .iaload, 1), (55, .if_icmp .ne (-32), 3), (58, .iinc 2 1, 3), (61, .iconst 0, 1), (62, .istore 4, 2), (64, .goto (-41), 3), (67, .aload_n 0, 1), (68, .iload_n 1, 1), (69, .iconst 0, 1), (70, .iload_n 3, 1), (71, .invokevirtual 274, 3), (74, .aload_n 0, 1), (75, .iload_n 1, 1), (76, .iconst 1, 1), (77, .iload_n 2, 1), (78, .invokevirtual 274, 3), (81, .return_, 1)]
set_option maxRecDepth 100000 in
theorem dX12_drawCell : mj_pd cX12_drawCell pX12_drawCell := mj_pdB (by decide +kernel)
theorem fX12_drawCell : mj_mf mX12_drawCell := ⟨mj_t8 44 (by decide +kernel) rfl, mj_t1 13 (by decide +kernel) rfl, by decide, by decide, by decide⟩
theorem iX12_drawCell : Cond.instanceMethod yX12_drawCell ∈ mj_GW := mj_t8 43 (by decide +kernel) rfl
theorem vX12_drawCell : Cond.selects (mj_own.getD 12 "") yX12_drawCell yX12_drawCell ∈ mj_GW := mj_p7 9 (by decide +kernel) rfl
def mX12_season : mj_m := (12, false, cX12_season, 6, some .int, yX12_season)
def pX12_season : List (Nat × Instr × Nat) := [(0, .aload_n 0, 1), (1, .getfield 255, 3), (4, .ifCond .eq 24, 3), (7, .iload_n 1, 1), (8, .iconst 1, 1), (9, .bipush 20, 2), (11, .invokestatic 214, 3), (14, .ifCond .eq 14, 3), (17, .aload_n 0, 1), (18, .getfield 264, 3), (21, .iload_n 1, 1), (22, .iadd, 1), (23, .bipush 40, 2), (25, .if_icmp .le 5, 3), (28, .iconst (-1), 1), (29, .ireturn, 1), (30, .aload_n 0, 1), (31, .invokevirtual 382, 3), (34, .aload_n 0, 1), (35, .lload_n 2, 1), (36, .putfield 370, 3), (39, .iconst 0, 1), (40, .istore 4, 2), (42, .iload 4, 2), (44, .iload_n 1, 1), (45, .if_icmp .ge 45, 3), (48, .aload_n 0, 1), (49, .invokevirtual 258, 3), (52, .iconst 0, 1), (53, .istore 5, 2), (55, .iload 5, 2), (57, .aload_n 0, 1), (58, .getfield 255, 3), (61, .if_icmp .ge 15, 3), (64, .aload_n 0, 1), (65, .iload 5, 2), (67, .invokevirtual 440, 3), (70, .iinc 5 1, 3), (73, .goto (-18), 3), (76, .aload_n 0, 1), (77, .invokevirtual 385, 3), (80, .aload_n 0, 1), (81, .invokevirtual 431, 3), (84, .iinc 4 1, 3), (87, .goto (-45), 3), (90, .aload_n 0, 1), (91, .invokevirtual 388, 3), (94, .aload_n 0, 1), (95, .getfield 264, 3), (98, .ireturn, 1)]
set_option maxRecDepth 100000 in
theorem dX12_season : mj_pd cX12_season pX12_season := mj_pdB (by decide +kernel)
theorem fX12_season : mj_mf mX12_season := ⟨mj_t8 40 (by decide +kernel) rfl, mj_t1 13 (by decide +kernel) rfl, by decide, by decide, by decide⟩
theorem iX12_season : Cond.instanceMethod yX12_season ∈ mj_GW := mj_t8 38 (by decide +kernel) rfl
theorem vX12_season : Cond.selects (mj_own.getD 12 "") yX12_season yX12_season ∈ mj_GW := mj_t8 39 (by decide +kernel) rfl
def mX12_flag : mj_m := (12, false, cX12_flag, 3, some .int, yX12_flag)
def pX12_flag : List (Nat × Instr × Nat) := [(0, .aload_n 0, 1), (1, .iload_n 1, 1), (2, .invokevirtual 306, 3), (5, .ifCond .ne 5, 3), (8, .iconst (-1), 1), (9, .ireturn, 1), (10, .aload_n 0, 1), (11, .invokevirtual 382, 3), (14, .aload_n 0, 1), (15, .invokevirtual 385, 3), (18, .aload_n 0, 1), (19, .iload_n 1, 1), (20, .iconst 1, 1), (21, .invokevirtual 303, 3), (24, .aload_n 0, 1), (25, .iload_n 1, 1), (26, .iconst 0, 1), (27, .invokevirtual 303, 3), (30, .if_icmp .ge 7, 3), (33, .iconst 1, 1), (34, .goto 4, 3), (37, .iconst 0, 1), (38, .istore_n 2, 1), (39, .aload_n 0, 1), (40, .invokevirtual 388, 3), (43, .iload_n 2, 1), (44, .ireturn, 1)]
set_option maxRecDepth 100000 in
theorem dX12_flag : mj_pd cX12_flag pX12_flag := mj_pdB (by decide +kernel)
theorem fX12_flag : mj_mf mX12_flag := ⟨mj_t8 52 (by decide +kernel) rfl, mj_t1 13 (by decide +kernel) rfl, by decide, by decide, by decide⟩
theorem iX12_flag : Cond.instanceMethod yX12_flag ∈ mj_GW := mj_t8 50 (by decide +kernel) rfl
theorem vX12_flag : Cond.selects (mj_own.getD 12 "") yX12_flag yX12_flag ∈ mj_GW := mj_t8 51 (by decide +kernel) rfl
def mX12_image : mj_m := (12, false, cX12_image, 2, some .int, yX12_image)
def pX12_image : List (Nat × Instr × Nat) := [(0, .aload_n 0, 1), (1, .getfield 255, 3), (4, .ifCond .ne 5, 3), (7, .iconst (-1), 1), (8, .ireturn, 1), (9, .iconst 0, 1), (10, .istore_n 1, 1), (11, .iload_n 1, 1), (12, .bipush 49, 2), (14, .if_icmp .ge 21, 3), (17, .aload_n 0, 1), (18, .getfield 96, 3), (21, .iload_n 1, 1), (22, .aload_n 0, 1), (23, .getfield 52, 3), (26, .iload_n 1, 1), (27, .iaload, 1), (28, .iastore, 1), (29, .iinc 1 1, 3), (32, .goto (-21), 3), (35, .aload_n 0, 1), (36, .iconst 1, 1), (37, .putfield 270, 3), (40, .aload_n 0, 1), (41, .getfield 52, 3), (44, .bipush 48, 2), (46, .iaload, 1), (47, .ireturn, 1)]
set_option maxRecDepth 100000 in
theorem dX12_image : mj_pd cX12_image pX12_image := mj_pdB (by decide +kernel)
theorem fX12_image : mj_mf mX12_image := ⟨mj_t8 56 (by decide +kernel) rfl, mj_t1 13 (by decide +kernel) rfl, by decide, by decide, by decide⟩
theorem iX12_image : Cond.instanceMethod yX12_image ∈ mj_GW := mj_t8 54 (by decide +kernel) rfl
theorem vX12_image : Cond.selects (mj_own.getD 12 "") yX12_image yX12_image ∈ mj_GW := mj_t8 55 (by decide +kernel) rfl
def mX12_back : mj_m := (12, false, cX12_back, 2, some .int, yX12_back)
def pX12_back : List (Nat × Instr × Nat) := [(0, .aload_n 0, 1), (1, .getfield 270, 3), (4, .ifCond .ne 5, 3), (7, .iconst (-1), 1), (8, .ireturn, 1), (9, .iconst 0, 1), (10, .istore_n 1, 1), (11, .iload_n 1, 1), (12, .bipush 49, 2), (14, .if_icmp .ge 21, 3), (17, .aload_n 0, 1), (18, .getfield 52, 3), (21, .iload_n 1, 1), (22, .aload_n 0, 1), (23, .getfield 96, 3), (26, .iload_n 1, 1), (27, .iaload, 1), (28, .iastore, 1), (29, .iinc 1 1, 3), (32, .goto (-21), 3), (35, .aload_n 0, 1), (36, .iconst 0, 1), (37, .putfield 267, 3), (40, .aload_n 0, 1), (41, .getfield 52, 3), (44, .bipush 48, 2), (46, .iaload, 1), (47, .ireturn, 1)]
set_option maxRecDepth 100000 in
theorem dX12_back : mj_pd cX12_back pX12_back := mj_pdB (by decide +kernel)
theorem fX12_back : mj_mf mX12_back := ⟨mj_t8 60 (by decide +kernel) rfl, mj_t1 13 (by decide +kernel) rfl, by decide, by decide, by decide⟩
theorem iX12_back : Cond.instanceMethod yX12_back ∈ mj_GW := mj_t8 58 (by decide +kernel) rfl
theorem vX12_back : Cond.selects (mj_own.getD 12 "") yX12_back yX12_back ∈ mj_GW := mj_t8 59 (by decide +kernel) rfl
def mX12_count : mj_m := (12, false, cX12_count, 2, some .int, yX12_count)
def pX12_count : List (Nat × Instr × Nat) := [(0, .iload_n 1, 1), (1, .tableswitch 90 0 7 #[47, 52, 57, 62, 70, 75, 80, 85], 47), (48, .aload_n 0, 1), (49, .getfield 255, 3), (52, .ireturn, 1), (53, .aload_n 0, 1), (54, .getfield 280, 3), (57, .ireturn, 1), (58, .aload_n 0, 1), (59, .getfield 106, 3), (62, .ireturn, 1), (63, .aload_n 0, 1), (64, .getfield 52, 3), (67, .bipush 48, 2), (69, .iaload, 1), (70, .ireturn, 1), (71, .aload_n 0, 1), (72, .getfield 361, 3), (75, .ireturn, 1), (76, .aload_n 0, 1), (77, .getfield 261, 3), (80, .ireturn, 1), (81, .aload_n 0, 1), (82, .getfield 264, 3), (85, .ireturn, 1), (86, .aload_n 0, 1), (87, .getfield 267, 3), (90, .ireturn, 1), (91, .ldc_w 381, 3), (94, .ireturn, 1)]
set_option maxRecDepth 100000 in
theorem dX12_count : mj_pd cX12_count pX12_count := mj_pdB (by decide +kernel)
theorem fX12_count : mj_mf mX12_count := ⟨mj_t8 64 (by decide +kernel) rfl, mj_t1 13 (by decide +kernel) rfl, by decide, by decide, by decide⟩
theorem iX12_count : Cond.instanceMethod yX12_count ∈ mj_GW := mj_t8 62 (by decide +kernel) rfl
theorem vX12_count : Cond.selects (mj_own.getD 12 "") yX12_count yX12_count ∈ mj_GW := mj_t8 63 (by decide +kernel) rfl
def mJ6_signum_0f7a4 : mj_m := (17, false, cJ6_signum_0f7a4, 1, some .int, yJ6_signum_0f7a4)
def pJ6_signum_0f7a4 : List (Nat × Instr × Nat) := [(0, .iload_n 0, 1), (1, .bipush 31, 2), (3, .ishr, 1), (4, .iload_n 0, 1), (5, .ineg, 1), (6, .bipush 31, 2), (8, .iushr, 1), (9, .ior, 1), (10, .ireturn, 1)]
set_option maxRecDepth 100000 in
theorem dJ6_signum_0f7a4 : mj_pd cJ6_signum_0f7a4 pJ6_signum_0f7a4 := mj_pdB (by decide +kernel)
theorem fJ6_signum_0f7a4 : mj_mf mJ6_signum_0f7a4 := ⟨mj_t7 89 (by decide +kernel) rfl, mj_t1 25 (by decide +kernel) rfl, by decide, by decide, by decide⟩
theorem sJ6_signum_0f7a4 : Cond.static yJ6_signum_0f7a4 ∈ mj_GW := mj_t7 88 (by decide +kernel) rfl
def mJ9_abs_0f7a4 : mj_m := (16, false, cJ9_abs_0f7a4, 1, some .int, yJ9_abs_0f7a4)
def pJ9_abs_0f7a4 : List (Nat × Instr × Nat) := [(0, .iload_n 0, 1), (1, .ifCond .ge 8, 3), (4, .iload_n 0, 1), (5, .ineg, 1), (6, .goto 4, 3), (9, .iload_n 0, 1), (10, .ireturn, 1)]
set_option maxRecDepth 100000 in
theorem dJ9_abs_0f7a4 : mj_pd cJ9_abs_0f7a4 pJ9_abs_0f7a4 := mj_pdB (by decide +kernel)
theorem fJ9_abs_0f7a4 : mj_mf mJ9_abs_0f7a4 := ⟨mj_t6 232 (by decide +kernel) rfl, mj_t1 17 (by decide +kernel) rfl, by decide, by decide, by decide⟩
theorem sJ9_abs_0f7a4 : Cond.static yJ9_abs_0f7a4 ∈ mj_GW := mj_t6 231 (by decide +kernel) rfl
def mJ9_max_7cf53 : mj_m := (16, false, cJ9_max_7cf53, 2, some .int, yJ9_max_7cf53)
def pJ9_max_7cf53 : List (Nat × Instr × Nat) := [(0, .iload_n 0, 1), (1, .iload_n 1, 1), (2, .if_icmp .lt 7, 3), (5, .iload_n 0, 1), (6, .goto 4, 3), (9, .iload_n 1, 1), (10, .ireturn, 1)]
set_option maxRecDepth 100000 in
theorem dJ9_max_7cf53 : mj_pd cJ9_max_7cf53 pJ9_max_7cf53 := mj_pdB (by decide +kernel)
theorem fJ9_max_7cf53 : mj_mf mJ9_max_7cf53 := ⟨mj_t2 209 (by decide +kernel) rfl, mj_t1 17 (by decide +kernel) rfl, by decide, by decide, by decide⟩
theorem sJ9_max_7cf53 : Cond.static yJ9_max_7cf53 ∈ mj_GW := mj_t2 208 (by decide +kernel) rfl
def mJ9_max_f86c9 : mj_m := (16, false, cJ9_max_f86c9, 4, some .long, yJ9_max_f86c9)
def pJ9_max_f86c9 : List (Nat × Instr × Nat) := [(0, .lload_n 0, 1), (1, .lload_n 2, 1), (2, .lcmp, 1), (3, .ifCond .lt 7, 3), (6, .lload_n 0, 1), (7, .goto 4, 3), (10, .lload_n 2, 1), (11, .lreturn, 1)]
set_option maxRecDepth 100000 in
theorem dJ9_max_f86c9 : mj_pd cJ9_max_f86c9 pJ9_max_f86c9 := mj_pdB (by decide +kernel)
theorem fJ9_max_f86c9 : mj_mf mJ9_max_f86c9 := ⟨mj_t7 86 (by decide +kernel) rfl, mj_t1 17 (by decide +kernel) rfl, by decide, by decide, by decide⟩
theorem sJ9_max_f86c9 : Cond.static yJ9_max_f86c9 ∈ mj_GW := mj_t7 85 (by decide +kernel) rfl
def mJ9_min_7cf53 : mj_m := (16, false, cJ9_min_7cf53, 2, some .int, yJ9_min_7cf53)
def pJ9_min_7cf53 : List (Nat × Instr × Nat) := [(0, .iload_n 0, 1), (1, .iload_n 1, 1), (2, .if_icmp .gt 7, 3), (5, .iload_n 0, 1), (6, .goto 4, 3), (9, .iload_n 1, 1), (10, .ireturn, 1)]
set_option maxRecDepth 100000 in
theorem dJ9_min_7cf53 : mj_pd cJ9_min_7cf53 pJ9_min_7cf53 := mj_pdB (by decide +kernel)
theorem fJ9_min_7cf53 : mj_mf mJ9_min_7cf53 := ⟨mj_t2 212 (by decide +kernel) rfl, mj_t1 17 (by decide +kernel) rfl, by decide, by decide, by decide⟩
theorem sJ9_min_7cf53 : Cond.static yJ9_min_7cf53 ∈ mj_GW := mj_t2 211 (by decide +kernel) rfl
def mJ9_min_f86c9 : mj_m := (16, false, cJ9_min_f86c9, 4, some .long, yJ9_min_f86c9)
def pJ9_min_f86c9 : List (Nat × Instr × Nat) := [(0, .lload_n 0, 1), (1, .lload_n 2, 1), (2, .lcmp, 1), (3, .ifCond .gt 7, 3), (6, .lload_n 0, 1), (7, .goto 4, 3), (10, .lload_n 2, 1), (11, .lreturn, 1)]
set_option maxRecDepth 100000 in
theorem dJ9_min_f86c9 : mj_pd cJ9_min_f86c9 pJ9_min_f86c9 := mj_pdB (by decide +kernel)
theorem fJ9_min_f86c9 : mj_mf mJ9_min_f86c9 := ⟨mj_t7 83 (by decide +kernel) rfl, mj_t1 17 (by decide +kernel) rfl, by decide, by decide, by decide⟩
theorem sJ9_min_f86c9 : Cond.static yJ9_min_f86c9 ∈ mj_GW := mj_t7 82 (by decide +kernel) rfl
def mJ0_length_8abf5 : mj_m := (14, false, cJ0_length_8abf5, 1, some .int, yJ0_length_8abf5)
def pJ0_length_8abf5 : List (Nat × Instr × Nat) := [(0, .aload_n 0, 1), (1, .getfield 9, 3), (4, .arraylength, 1), (5, .aload_n 0, 1), (6, .invokevirtual 335, 3), (9, .ishr, 1), (10, .ireturn, 1)]
set_option maxRecDepth 100000 in
theorem dJ0_length_8abf5 : mj_pd cJ0_length_8abf5 pJ0_length_8abf5 := mj_pdB (by decide +kernel)
theorem fJ0_length_8abf5 : mj_mf mJ0_length_8abf5 := ⟨mj_t2 178 (by decide +kernel) rfl, mj_t1 15 (by decide +kernel) rfl, by decide, by decide, by decide⟩
theorem iJ0_length_8abf5 : Cond.instanceMethod yJ0_length_8abf5 ∈ mj_GW := mj_t2 176 (by decide +kernel) rfl
theorem vJ0_length_8abf5 : Cond.selects (mj_own.getD 14 "") yJ0_length_8abf5 yJ0_length_8abf5 ∈ mj_GW := mj_t2 177 (by decide +kernel) rfl
def mJ0_indexOf_0f7a4 : mj_m := (14, false, cJ0_indexOf_0f7a4, 2, some .int, yJ0_indexOf_0f7a4)
def pJ0_indexOf_0f7a4 : List (Nat × Instr × Nat) := [(0, .aload_n 0, 1), (1, .iload_n 1, 1), (2, .iconst 0, 1), (3, .invokevirtual 633, 3), (6, .ireturn, 1)]
set_option maxRecDepth 100000 in
theorem dJ0_indexOf_0f7a4 : mj_pd cJ0_indexOf_0f7a4 pJ0_indexOf_0f7a4 := mj_pdB (by decide +kernel)
theorem fJ0_indexOf_0f7a4 : mj_mf mJ0_indexOf_0f7a4 := ⟨mj_t2 191 (by decide +kernel) rfl, mj_t1 15 (by decide +kernel) rfl, by decide, by decide, by decide⟩
theorem iJ0_indexOf_0f7a4 : Cond.instanceMethod yJ0_indexOf_0f7a4 ∈ mj_GW := mj_t2 189 (by decide +kernel) rfl
theorem vJ0_indexOf_0f7a4 : Cond.selects (mj_own.getD 14 "") yJ0_indexOf_0f7a4 yJ0_indexOf_0f7a4 ∈ mj_GW := mj_t2 190 (by decide +kernel) rfl
def mJ0_indexOf_7cf53 : mj_m := (14, false, cJ0_indexOf_7cf53, 3, some .int, yJ0_indexOf_7cf53)
def pJ0_indexOf_7cf53 : List (Nat × Instr × Nat) := [(0, .aload_n 0, 1), (1, .invokevirtual 492, 3), (4, .ifCond .eq 19, 3), (7, .aload_n 0, 1), (8, .getfield 9, 3), (11, .iload_n 1, 1), (12, .iload_n 2, 1), (13, .aload_n 0, 1), (14, .invokevirtual 505, 3), (17, .invokestatic 637, 3), (20, .goto 16, 3), (23, .aload_n 0, 1), (24, .getfield 9, 3), (27, .iload_n 1, 1), (28, .iload_n 2, 1), (29, .aload_n 0, 1), (30, .invokevirtual 505, 3), (33, .invokestatic 640, 3), (36, .ireturn, 1)]
set_option maxRecDepth 100000 in
theorem dJ0_indexOf_7cf53 : mj_pd cJ0_indexOf_7cf53 pJ0_indexOf_7cf53 := mj_pdB (by decide +kernel)
theorem fJ0_indexOf_7cf53 : mj_mf mJ0_indexOf_7cf53 := ⟨mj_t2 195 (by decide +kernel) rfl, mj_t1 15 (by decide +kernel) rfl, by decide, by decide, by decide⟩
theorem iJ0_indexOf_7cf53 : Cond.instanceMethod yJ0_indexOf_7cf53 ∈ mj_GW := mj_t2 193 (by decide +kernel) rfl
theorem vJ0_indexOf_7cf53 : Cond.selects (mj_own.getD 14 "") yJ0_indexOf_7cf53 yJ0_indexOf_7cf53 ∈ mj_GW := mj_t2 194 (by decide +kernel) rfl
def mJ0_coder_7d493 : mj_m := (14, false, cJ0_coder_7d493, 1, some .byte, yJ0_coder_7d493)
def pJ0_coder_7d493 : List (Nat × Instr × Nat) := [(0, .getstatic 38, 3), (3, .ifCond .eq 10, 3), (6, .aload_n 0, 1), (7, .getfield 15, 3), (10, .goto 4, 3), (13, .iconst 1, 1), (14, .ireturn, 1)]
set_option maxRecDepth 100000 in
theorem dJ0_coder_7d493 : mj_pd cJ0_coder_7d493 pJ0_coder_7d493 := mj_pdB (by decide +kernel)
theorem fJ0_coder_7d493 : mj_mf mJ0_coder_7d493 := ⟨mj_t2 182 (by decide +kernel) rfl, mj_t1 15 (by decide +kernel) rfl, by decide, by decide, by decide⟩
theorem iJ0_coder_7d493 : Cond.instanceMethod yJ0_coder_7d493 ∈ mj_GW := mj_t2 180 (by decide +kernel) rfl
theorem vJ0_coder_7d493 : Cond.selects (mj_own.getD 14 "") yJ0_coder_7d493 yJ0_coder_7d493 ∈ mj_GW := mj_t2 181 (by decide +kernel) rfl
def mJ0_isLatin1_aae02 : mj_m := (14, false, cJ0_isLatin1_aae02, 1, some .boolean, yJ0_isLatin1_aae02)
def pJ0_isLatin1_aae02 : List (Nat × Instr × Nat) := [(0, .getstatic 38, 3), (3, .ifCond .eq 14, 3), (6, .aload_n 0, 1), (7, .getfield 15, 3), (10, .ifCond .ne 7, 3), (13, .iconst 1, 1), (14, .goto 4, 3), (17, .iconst 0, 1), (18, .ireturn, 1)]
set_option maxRecDepth 100000 in
theorem dJ0_isLatin1_aae02 : mj_pd cJ0_isLatin1_aae02 pJ0_isLatin1_aae02 := mj_pdB (by decide +kernel)
theorem fJ0_isLatin1_aae02 : mj_mf mJ0_isLatin1_aae02 := ⟨mj_t2 199 (by decide +kernel) rfl, mj_t1 15 (by decide +kernel) rfl, by decide, by decide, by decide⟩
theorem iJ0_isLatin1_aae02 : Cond.instanceMethod yJ0_isLatin1_aae02 ∈ mj_GW := mj_t2 197 (by decide +kernel) rfl
theorem vJ0_isLatin1_aae02 : Cond.selects (mj_own.getD 14 "") yJ0_isLatin1_aae02 yJ0_isLatin1_aae02 ∈ mj_GW := mj_t2 198 (by decide +kernel) rfl
def mJ1_canEncode_9a6ad : mj_m := (15, false, cJ1_canEncode_9a6ad, 1, some .boolean, yJ1_canEncode_9a6ad)
def pJ1_canEncode_9a6ad : List (Nat × Instr × Nat) := [(0, .iload_n 0, 1), (1, .ifCond .lt 14, 3), (4, .iload_n 0, 1), (5, .sipush 255, 3), (8, .if_icmp .gt 7, 3), (11, .iconst 1, 1), (12, .goto 4, 3), (15, .iconst 0, 1), (16, .ireturn, 1)]
set_option maxRecDepth 100000 in
theorem dJ1_canEncode_9a6ad : mj_pd cJ1_canEncode_9a6ad pJ1_canEncode_9a6ad := mj_pdB (by decide +kernel)
theorem fJ1_canEncode_9a6ad : mj_mf mJ1_canEncode_9a6ad := ⟨mj_t2 206 (by decide +kernel) rfl, mj_t1 16 (by decide +kernel) rfl, by decide, by decide, by decide⟩
theorem sJ1_canEncode_9a6ad : Cond.static yJ1_canEncode_9a6ad ∈ mj_GW := mj_t2 205 (by decide +kernel) rfl
def mJ1_indexOf_4cfef : mj_m := (15, false, cJ1_indexOf_4cfef, 4, some .int, yJ1_indexOf_4cfef)
def pJ1_indexOf_4cfef : List (Nat × Instr × Nat) := [(0, .iload_n 1, 1), (1, .invokestatic 88, 3), (4, .ifCond .ne 5, 3), (7, .iconst (-1), 1), (8, .ireturn, 1), (9, .iload_n 2, 1), (10, .iconst 0, 1), (11, .invokestatic 92, 3), (14, .istore_n 2, 1), (15, .iload_n 3, 1), (16, .aload_n 0, 1), (17, .arraylength, 1), (18, .invokestatic 38, 3), (21, .istore_n 3, 1), (22, .iload_n 2, 1), (23, .iload_n 3, 1), (24, .if_icmp .lt 5, 3), (27, .iconst (-1), 1), (28, .ireturn, 1), (29, .aload_n 0, 1), (30, .iload_n 1, 1), (31, .iload_n 2, 1), (32, .iload_n 3, 1), (33, .invokestatic 95, 3), (36, .ireturn, 1)]
set_option maxRecDepth 100000 in
theorem dJ1_indexOf_4cfef : mj_pd cJ1_indexOf_4cfef pJ1_indexOf_4cfef := mj_pdB (by decide +kernel)
theorem fJ1_indexOf_4cfef : mj_mf mJ1_indexOf_4cfef := ⟨mj_t2 203 (by decide +kernel) rfl, mj_t1 16 (by decide +kernel) rfl, by decide, by decide, by decide⟩
theorem sJ1_indexOf_4cfef : Cond.static yJ1_indexOf_4cfef ∈ mj_GW := mj_t2 202 (by decide +kernel) rfl
def mJ1_indexOfChar_4cfef : mj_m := (15, false, cJ1_indexOfChar_4cfef, 6, some .int, yJ1_indexOfChar_4cfef)
def pJ1_indexOfChar_4cfef : List (Nat × Instr × Nat) := [(0, .iload_n 1, 1), (1, .i2b, 1), (2, .istore 4, 2), (4, .iload_n 2, 1), (5, .istore 5, 2), (7, .iload 5, 2), (9, .iload_n 3, 1), (10, .if_icmp .ge 21, 3), (13, .aload_n 0, 1), (14, .iload 5, 2), (16, .baload, 1), (17, .iload 4, 2), (19, .if_icmp .ne 6, 3), (22, .iload 5, 2), (24, .ireturn, 1), (25, .iinc 5 1, 3), (28, .goto (-21), 3), (31, .iconst (-1), 1), (32, .ireturn, 1)]
set_option maxRecDepth 100000 in
theorem dJ1_indexOfChar_4cfef : mj_pd cJ1_indexOfChar_4cfef pJ1_indexOfChar_4cfef := mj_pdB (by decide +kernel)
theorem fJ1_indexOfChar_4cfef : mj_mf mJ1_indexOfChar_4cfef := ⟨mj_t2 215 (by decide +kernel) rfl, mj_t1 16 (by decide +kernel) rfl, by decide, by decide, by decide⟩
theorem sJ1_indexOfChar_4cfef : Cond.static yJ1_indexOfChar_4cfef ∈ mj_GW := mj_t2 214 (by decide +kernel) rfl
theorem l13_19 : Cond.methodLink (mj_own.getD 13 "") 19 yX11_feed ∈ mj_GW := mj_t2 113 (by decide +kernel) rfl
theorem l11_105 : Cond.methodLink (mj_own.getD 11 "") 105 yX8_bytesOf ∈ mj_GW := mj_t2 117 (by decide +kernel) rfl
theorem l11_113 : Cond.methodLink (mj_own.getD 11 "") 113 yX8_append ∈ mj_GW := mj_t2 120 (by decide +kernel) rfl
theorem l13_24 : Cond.methodLink (mj_own.getD 13 "") 24 yX11_end ∈ mj_GW := mj_t2 124 (by decide +kernel) rfl
theorem l13_29 : Cond.methodLink (mj_own.getD 13 "") 29 yX11_fault ∈ mj_GW := mj_t2 128 (by decide +kernel) rfl
theorem l11_117 : Cond.methodLink (mj_own.getD 11 "") 117 yX10_findFault ∈ mj_GW := mj_t2 132 (by decide +kernel) rfl
theorem l10_33 : Cond.methodLink (mj_own.getD 10 "") 33 yX8_rewind ∈ mj_GW := mj_t2 136 (by decide +kernel) rfl
theorem l10_42 : Cond.methodLink (mj_own.getD 10 "") 42 yX3_empty ∈ mj_GW := mj_t2 140 (by decide +kernel) rfl
theorem l10_45 : Cond.methodLink (mj_own.getD 10 "") 45 yX10_readClause ∈ mj_GW := mj_t2 144 (by decide +kernel) rfl
theorem l10_57 : Cond.methodLink (mj_own.getD 10 "") 57 yX8_nextSign ∈ mj_GW := mj_t2 148 (by decide +kernel) rfl
theorem l10_53 : Cond.methodLink (mj_own.getD 10 "") 53 yX8_take ∈ mj_GW := mj_t2 152 (by decide +kernel) rfl
theorem l8_22 : Cond.methodLink (mj_own.getD 8 "") 22 yX8_nextSign ∈ mj_GW := mj_t2 156 (by decide +kernel) rfl
theorem l10_70 : Cond.methodLink (mj_own.getD 10 "") 70 yX10_readLine ∈ mj_GW := mj_t2 157 (by decide +kernel) rfl
theorem l10_87 : Cond.methodLink (mj_own.getD 10 "") 87 yX10_readItems ∈ mj_GW := mj_t2 168 (by decide +kernel) rfl
theorem l10_115 : Cond.methodLink (mj_own.getD 10 "") 115 yJ0_length_8abf5 ∈ mj_GW := mj_t2 175 (by decide +kernel) rfl
theorem l14_335 : Cond.methodLink (mj_own.getD 14 "") 335 yJ0_coder_7d493 ∈ mj_GW := mj_t2 179 (by decide +kernel) rfl
theorem l10_119 : Cond.methodLink (mj_own.getD 10 "") 119 yX8_indexIn ∈ mj_GW := mj_t2 185 (by decide +kernel) rfl
theorem l8_33 : Cond.methodLink (mj_own.getD 8 "") 33 yJ0_indexOf_0f7a4 ∈ mj_GW := mj_t2 188 (by decide +kernel) rfl
theorem l14_633 : Cond.methodLink (mj_own.getD 14 "") 633 yJ0_indexOf_7cf53 ∈ mj_GW := mj_t2 192 (by decide +kernel) rfl
theorem l14_492 : Cond.methodLink (mj_own.getD 14 "") 492 yJ0_isLatin1_aae02 ∈ mj_GW := mj_t2 196 (by decide +kernel) rfl
theorem l14_505 : Cond.methodLink (mj_own.getD 14 "") 505 yJ0_length_8abf5 ∈ mj_GW := mj_t2 200 (by decide +kernel) rfl
theorem l14_637 : Cond.methodLink (mj_own.getD 14 "") 637 yJ1_indexOf_4cfef ∈ mj_GW := mj_t2 201 (by decide +kernel) rfl
theorem l15_88 : Cond.methodLink (mj_own.getD 15 "") 88 yJ1_canEncode_9a6ad ∈ mj_GW := mj_t2 204 (by decide +kernel) rfl
theorem l15_92 : Cond.methodLink (mj_own.getD 15 "") 92 yJ9_max_7cf53 ∈ mj_GW := mj_t2 207 (by decide +kernel) rfl
theorem l15_38 : Cond.methodLink (mj_own.getD 15 "") 38 yJ9_min_7cf53 ∈ mj_GW := mj_t2 210 (by decide +kernel) rfl
theorem l15_95 : Cond.methodLink (mj_own.getD 15 "") 95 yJ1_indexOfChar_4cfef ∈ mj_GW := mj_t2 213 (by decide +kernel) rfl
theorem l10_123 : Cond.methodLink (mj_own.getD 10 "") 123 yX8_takeNumber ∈ mj_GW := mj_t3 25 (by decide +kernel) rfl
theorem l8_26 : Cond.methodLink (mj_own.getD 8 "") 26 yX8_isDigit ∈ mj_GW := mj_t3 29 (by decide +kernel) rfl
theorem l8_30 : Cond.methodLink (mj_own.getD 8 "") 30 yX8_rawSign ∈ mj_GW := mj_t3 32 (by decide +kernel) rfl
theorem l10_73 : Cond.methodLink (mj_own.getD 10 "") 73 yX10_readBoat ∈ mj_GW := mj_t3 36 (by decide +kernel) rfl
theorem l10_111 : Cond.methodLink (mj_own.getD 10 "") 111 yX3_join ∈ mj_GW := mj_t3 47 (by decide +kernel) rfl
theorem l10_64 : Cond.methodLink (mj_own.getD 10 "") 64 yX10_fits ∈ mj_GW := mj_t3 51 (by decide +kernel) rfl
theorem l10_136 : Cond.methodLink (mj_own.getD 10 "") 136 yX1_hasColumn ∈ mj_GW := mj_t3 55 (by decide +kernel) rfl
theorem l11_121 : Cond.methodLink (mj_own.getD 11 "") 121 yX7_findFault ∈ mj_GW := mj_t3 59 (by decide +kernel) rfl
theorem l7_21 : Cond.methodLink (mj_own.getD 7 "") 21 yX8_rewind ∈ mj_GW := mj_t3 63 (by decide +kernel) rfl
theorem l7_30 : Cond.methodLink (mj_own.getD 7 "") 30 yX7_readClause ∈ mj_GW := mj_t3 64 (by decide +kernel) rfl
theorem l7_37 : Cond.methodLink (mj_own.getD 7 "") 37 yX8_take ∈ mj_GW := mj_t3 68 (by decide +kernel) rfl
theorem l7_41 : Cond.methodLink (mj_own.getD 7 "") 41 yX8_nextSign ∈ mj_GW := mj_t3 69 (by decide +kernel) rfl
theorem l7_45 : Cond.methodLink (mj_own.getD 7 "") 45 yX7_readCondition ∈ mj_GW := mj_t3 70 (by decide +kernel) rfl
theorem l7_63 : Cond.methodLink (mj_own.getD 7 "") 63 yX7_readTruth ∈ mj_GW := mj_t3 74 (by decide +kernel) rfl
theorem l7_66 : Cond.methodLink (mj_own.getD 7 "") 66 yX7_readUnit ∈ mj_GW := mj_t3 78 (by decide +kernel) rfl
theorem l7_59 : Cond.methodLink (mj_own.getD 7 "") 59 yX7_emit ∈ mj_GW := mj_t3 82 (by decide +kernel) rfl
theorem l7_52 : Cond.methodLink (mj_own.getD 7 "") 52 yX7_readSum ∈ mj_GW := mj_t3 86 (by decide +kernel) rfl
theorem l7_69 : Cond.methodLink (mj_own.getD 7 "") 69 yX7_readTerm ∈ mj_GW := mj_t3 90 (by decide +kernel) rfl
theorem l7_72 : Cond.methodLink (mj_own.getD 7 "") 72 yX7_readAtom ∈ mj_GW := mj_t3 94 (by decide +kernel) rfl
theorem l7_77 : Cond.methodLink (mj_own.getD 7 "") 77 yX8_indexIn ∈ mj_GW := mj_t3 99 (by decide +kernel) rfl
theorem l7_81 : Cond.methodLink (mj_own.getD 7 "") 81 yX8_takeNumber ∈ mj_GW := mj_t3 100 (by decide +kernel) rfl
theorem l7_55 : Cond.methodLink (mj_own.getD 7 "") 55 yX7_comparisonOf ∈ mj_GW := mj_t3 101 (by decide +kernel) rfl
theorem l7_49 : Cond.methodLink (mj_own.getD 7 "") 49 yX7_readAnswer ∈ mj_GW := mj_t3 104 (by decide +kernel) rfl
theorem l13_34 : Cond.methodLink (mj_own.getD 13 "") 34 yX11_text ∈ mj_GW := mj_t3 109 (by decide +kernel) rfl
theorem l11_122 : Cond.methodLink (mj_own.getD 11 "") 122 yX11_takeWater ∈ mj_GW := mj_t3 113 (by decide +kernel) rfl
theorem l11_129 : Cond.methodLink (mj_own.getD 11 "") 129 yX1_copyFrom ∈ mj_GW := mj_t3 117 (by decide +kernel) rfl
theorem l11_134 : Cond.methodLink (mj_own.getD 11 "") 134 yX3_copyFrom ∈ mj_GW := mj_t3 122 (by decide +kernel) rfl
theorem l11_137 : Cond.methodLink (mj_own.getD 11 "") 137 yX0_forget ∈ mj_GW := mj_t3 126 (by decide +kernel) rfl
theorem l11_140 : Cond.methodLink (mj_own.getD 11 "") 140 yX5_forget ∈ mj_GW := mj_t3 130 (by decide +kernel) rfl
theorem l11_125 : Cond.methodLink (mj_own.getD 11 "") 125 yX11_takeRule ∈ mj_GW := mj_t3 134 (by decide +kernel) rfl
theorem l11_156 : Cond.methodLink (mj_own.getD 11 "") 156 yX6_add ∈ mj_GW := mj_t3 138 (by decide +kernel) rfl
theorem l13_48 : Cond.methodLink (mj_own.getD 13 "") 48 yX11_line ∈ mj_GW := mj_t3 143 (by decide +kernel) rfl
theorem l11_204 : Cond.methodLink (mj_own.getD 11 "") 204 yX11_hasWater ∈ mj_GW := mj_t3 147 (by decide +kernel) rfl
theorem l13_52 : Cond.methodLink (mj_own.getD 13 "") 52 yX11_rule ∈ mj_GW := mj_t3 151 (by decide +kernel) rfl
theorem l11_160 : Cond.methodLink (mj_own.getD 11 "") 160 yX11_isBoat ∈ mj_GW := mj_t3 155 (by decide +kernel) rfl
theorem l11_211 : Cond.methodLink (mj_own.getD 11 "") 211 yX0_remember ∈ mj_GW := mj_t3 159 (by decide +kernel) rfl
theorem l0_22 : Cond.methodLink (mj_own.getD 0 "") 22 yX3_writeTo ∈ mj_GW := mj_t3 163 (by decide +kernel) rfl
theorem l13_56 : Cond.methodLink (mj_own.getD 13 "") 56 yX11_mark ∈ mj_GW := mj_t3 167 (by decide +kernel) rfl
theorem l13_60 : Cond.methodLink (mj_own.getD 13 "") 60 yX11_speed ∈ mj_GW := mj_t3 171 (by decide +kernel) rfl
theorem l13_64 : Cond.methodLink (mj_own.getD 13 "") 64 yX11_steer ∈ mj_GW := mj_t3 175 (by decide +kernel) rfl
theorem l11_215 : Cond.methodLink (mj_own.getD 11 "") 215 yX1_hasColumn ∈ mj_GW := mj_t3 179 (by decide +kernel) rfl
theorem l11_218 : Cond.methodLink (mj_own.getD 11 "") 218 yX3_isHeld ∈ mj_GW := mj_t3 180 (by decide +kernel) rfl
theorem l13_68 : Cond.methodLink (mj_own.getD 13 "") 68 yX11_gust ∈ mj_GW := mj_t3 184 (by decide +kernel) rfl
theorem l13_72 : Cond.methodLink (mj_own.getD 13 "") 72 yX11_go ∈ mj_GW := mj_t3 188 (by decide +kernel) rfl
theorem l11_225 : Cond.methodLink (mj_own.getD 11 "") 225 yX11_canPass ∈ mj_GW := mj_t3 192 (by decide +kernel) rfl
theorem l11_243 : Cond.methodLink (mj_own.getD 11 "") 243 yX1_secondsLeft ∈ mj_GW := mj_t3 196 (by decide +kernel) rfl
theorem l11_228 : Cond.methodLink (mj_own.getD 11 "") 228 yX4_passSecond ∈ mj_GW := mj_t3 200 (by decide +kernel) rfl
theorem l4_27 : Cond.methodLink (mj_own.getD 4 "") 27 yX4_look ∈ mj_GW := mj_t3 204 (by decide +kernel) rfl
theorem l4_65 : Cond.methodLink (mj_own.getD 4 "") 65 yX3_isShadowed ∈ mj_GW := mj_t3 208 (by decide +kernel) rfl
theorem l3_63 : Cond.methodLink (mj_own.getD 3 "") 63 yX3_isBeside ∈ mj_GW := mj_t3 212 (by decide +kernel) rfl
theorem l4_31 : Cond.methodLink (mj_own.getD 4 "") 31 yX4_askRules ∈ mj_GW := mj_t3 216 (by decide +kernel) rfl
theorem l4_75 : Cond.methodLink (mj_own.getD 4 "") 75 yX6_has ∈ mj_GW := mj_t3 220 (by decide +kernel) rfl
theorem l4_78 : Cond.methodLink (mj_own.getD 4 "") 78 yX3_believedBack ∈ mj_GW := mj_t3 224 (by decide +kernel) rfl
theorem l4_43 : Cond.methodLink (mj_own.getD 4 "") 43 yX1_secondsLeft ∈ mj_GW := mj_t3 228 (by decide +kernel) rfl
theorem l4_85 : Cond.methodLink (mj_own.getD 4 "") 85 yX3_countBeside ∈ mj_GW := mj_t3 229 (by decide +kernel) rfl
theorem l4_88 : Cond.methodLink (mj_own.getD 4 "") 88 yX3_isLeewardHeld ∈ mj_GW := mj_t3 233 (by decide +kernel) rfl
theorem l3_60 : Cond.methodLink (mj_own.getD 3 "") 60 yX3_isHeld ∈ mj_GW := mj_t3 237 (by decide +kernel) rfl
theorem l4_91 : Cond.methodLink (mj_own.getD 4 "") 91 yX6_worthOf ∈ mj_GW := mj_t3 238 (by decide +kernel) rfl
theorem l6_35 : Cond.methodLink (mj_own.getD 6 "") 35 yX6_has ∈ mj_GW := mj_t4 2 (by decide +kernel) rfl
theorem l6_39 : Cond.methodLink (mj_own.getD 6 "") 39 yX6_letterAt ∈ mj_GW := mj_t4 3 (by decide +kernel) rfl
theorem l6_43 : Cond.methodLink (mj_own.getD 6 "") 43 yX6_join ∈ mj_GW := mj_t4 6 (by decide +kernel) rfl
theorem l6_47 : Cond.methodLink (mj_own.getD 6 "") 47 yX6_bounded ∈ mj_GW := mj_t4 9 (by decide +kernel) rfl
theorem l4_57 : Cond.methodLink (mj_own.getD 4 "") 57 yX3_speedUp ∈ mj_GW := mj_t4 16 (by decide +kernel) rfl
theorem l4_95 : Cond.methodLink (mj_own.getD 4 "") 95 yX3_slowDown ∈ mj_GW := mj_t4 20 (by decide +kernel) rfl
theorem l4_35 : Cond.methodLink (mj_own.getD 4 "") 35 yX4_moveAll ∈ mj_GW := mj_t4 24 (by decide +kernel) rfl
theorem l4_103 : Cond.methodLink (mj_own.getD 4 "") 103 yX4_sail ∈ mj_GW := mj_t4 28 (by decide +kernel) rfl
theorem l4_123 : Cond.methodLink (mj_own.getD 4 "") 123 yX3_isHeld ∈ mj_GW := mj_t4 32 (by decide +kernel) rfl
theorem l4_113 : Cond.methodLink (mj_own.getD 4 "") 113 yX4_comesNow ∈ mj_GW := mj_t4 33 (by decide +kernel) rfl
theorem l4_117 : Cond.methodLink (mj_own.getD 4 "") 117 yX4_driftAll ∈ mj_GW := mj_t4 36 (by decide +kernel) rfl
theorem l4_120 : Cond.methodLink (mj_own.getD 4 "") 120 yX4_noteEarly ∈ mj_GW := mj_t4 39 (by decide +kernel) rfl
theorem l13_78 : Cond.methodLink (mj_own.getD 13 "") 78 yX11_blow ∈ mj_GW := mj_t4 42 (by decide +kernel) rfl
theorem l11_235 : Cond.methodLink (mj_own.getD 11 "") 235 yX2_begin ∈ mj_GW := mj_t4 46 (by decide +kernel) rfl
theorem l11_239 : Cond.methodLink (mj_own.getD 11 "") 239 yX4_passGustySecond ∈ mj_GW := mj_t4 50 (by decide +kernel) rfl
theorem l4_39 : Cond.methodLink (mj_own.getD 4 "") 39 yX4_drawGusts ∈ mj_GW := mj_t4 54 (by decide +kernel) rfl
theorem l4_98 : Cond.methodLink (mj_own.getD 4 "") 98 yX2_next ∈ mj_GW := mj_t4 58 (by decide +kernel) rfl
theorem l13_83 : Cond.methodLink (mj_own.getD 13 "") 83 yX11_undo ∈ mj_GW := mj_t4 64 (by decide +kernel) rfl
theorem l11_247 : Cond.methodLink (mj_own.getD 11 "") 247 yX0_takeBack ∈ mj_GW := mj_t4 68 (by decide +kernel) rfl
theorem l0_26 : Cond.methodLink (mj_own.getD 0 "") 26 yX3_readFrom ∈ mj_GW := mj_t4 72 (by decide +kernel) rfl
theorem l13_87 : Cond.methodLink (mj_own.getD 13 "") 87 yX11_ahead ∈ mj_GW := mj_t4 76 (by decide +kernel) rfl
theorem l11_251 : Cond.methodLink (mj_own.getD 11 "") 251 yX4_passToGun ∈ mj_GW := mj_t4 81 (by decide +kernel) rfl
theorem l4_49 : Cond.methodLink (mj_own.getD 4 "") 49 yX4_passSecond ∈ mj_GW := mj_t4 85 (by decide +kernel) rfl
theorem l11_191 : Cond.methodLink (mj_own.getD 11 "") 191 yX1_statusOf ∈ mj_GW := mj_t4 86 (by decide +kernel) rfl
theorem l11_195 : Cond.methodLink (mj_own.getD 11 "") 195 yX1_scoreOf ∈ mj_GW := mj_t4 90 (by decide +kernel) rfl
theorem l1_34 : Cond.methodLink (mj_own.getD 1 "") 34 yX1_worthOfColumn ∈ mj_GW := mj_t4 94 (by decide +kernel) rfl
theorem l1_41 : Cond.methodLink (mj_own.getD 1 "") 41 yX3_isShadowed ∈ mj_GW := mj_t4 98 (by decide +kernel) rfl
theorem l1_45 : Cond.methodLink (mj_own.getD 1 "") 45 yX1_statusOf ∈ mj_GW := mj_t4 99 (by decide +kernel) rfl
theorem l11_198 : Cond.methodLink (mj_own.getD 11 "") 198 yX1_placeOf ∈ mj_GW := mj_t4 100 (by decide +kernel) rfl
theorem l1_49 : Cond.methodLink (mj_own.getD 1 "") 49 yX1_scoreOf ∈ mj_GW := mj_t4 104 (by decide +kernel) rfl
theorem l13_91 : Cond.methodLink (mj_own.getD 13 "") 91 yX11_where ∈ mj_GW := mj_t4 105 (by decide +kernel) rfl
theorem l11_254 : Cond.methodLink (mj_own.getD 11 "") 254 yX11_isChoice ∈ mj_GW := mj_t4 109 (by decide +kernel) rfl
theorem l11_257 : Cond.methodLink (mj_own.getD 11 "") 257 yX11_scoreFrom ∈ mj_GW := mj_t4 112 (by decide +kernel) rfl
theorem l13_95 : Cond.methodLink (mj_own.getD 13 "") 95 yX11_near ∈ mj_GW := mj_t4 116 (by decide +kernel) rfl
theorem l13_99 : Cond.methodLink (mj_own.getD 13 "") 99 yX11_hold ∈ mj_GW := mj_t4 120 (by decide +kernel) rfl
theorem l11_261 : Cond.methodLink (mj_own.getD 11 "") 261 yX4_passToGunReleased ∈ mj_GW := mj_t4 124 (by decide +kernel) rfl
theorem l11_265 : Cond.methodLink (mj_own.getD 11 "") 265 yX4_passHeldSecond ∈ mj_GW := mj_t4 128 (by decide +kernel) rfl
theorem l13_103 : Cond.methodLink (mj_own.getD 13 "") 103 yX11_row ∈ mj_GW := mj_t4 132 (by decide +kernel) rfl
theorem l13_107 : Cond.methodLink (mj_own.getD 13 "") 107 yX11_tides ∈ mj_GW := mj_t4 136 (by decide +kernel) rfl
theorem l13_111 : Cond.methodLink (mj_own.getD 13 "") 111 yX11_sag ∈ mj_GW := mj_t4 140 (by decide +kernel) rfl
theorem l11_268 : Cond.methodLink (mj_own.getD 11 "") 268 yX11_boatsIn ∈ mj_GW := mj_t4 144 (by decide +kernel) rfl
theorem l11_271 : Cond.methodLink (mj_own.getD 11 "") 271 yX1_thirdOf ∈ mj_GW := mj_t4 148 (by decide +kernel) rfl
theorem l11_274 : Cond.methodLink (mj_own.getD 11 "") 274 yX11_greatestCommon ∈ mj_GW := mj_t4 152 (by decide +kernel) rfl
theorem l13_115 : Cond.methodLink (mj_own.getD 13 "") 115 yX11_heap ∈ mj_GW := mj_t4 155 (by decide +kernel) rfl
theorem l13_119 : Cond.methodLink (mj_own.getD 13 "") 119 yX11_hole ∈ mj_GW := mj_t4 159 (by decide +kernel) rfl
theorem l13_123 : Cond.methodLink (mj_own.getD 13 "") 123 yX11_keeps ∈ mj_GW := mj_t4 163 (by decide +kernel) rfl
theorem l11_278 : Cond.methodLink (mj_own.getD 11 "") 278 yX3_isLeewardHeld ∈ mj_GW := mj_t4 167 (by decide +kernel) rfl
theorem l13_127 : Cond.methodLink (mj_own.getD 13 "") 127 yX11_which ∈ mj_GW := mj_t4 168 (by decide +kernel) rfl
theorem l11_281 : Cond.methodLink (mj_own.getD 11 "") 281 yX11_isAmong ∈ mj_GW := mj_t4 172 (by decide +kernel) rfl
theorem l11_284 : Cond.methodLink (mj_own.getD 11 "") 284 yX3_isShadowed ∈ mj_GW := mj_t4 176 (by decide +kernel) rfl
theorem l13_131 : Cond.methodLink (mj_own.getD 13 "") 131 yX11_rests ∈ mj_GW := mj_t4 177 (by decide +kernel) rfl
theorem l11_287 : Cond.methodLink (mj_own.getD 11 "") 287 yX9_set ∈ mj_GW := mj_t4 181 (by decide +kernel) rfl
theorem l11_291 : Cond.methodLink (mj_own.getD 11 "") 291 yX9_countRests ∈ mj_GW := mj_t4 185 (by decide +kernel) rfl
theorem l9_28 : Cond.methodLink (mj_own.getD 9 "") 28 yX9_isRest ∈ mj_GW := mj_t4 189 (by decide +kernel) rfl
theorem l9_40 : Cond.methodLink (mj_own.getD 9 "") 40 yX9_spell ∈ mj_GW := mj_t4 193 (by decide +kernel) rfl
theorem l11_294 : Cond.methodLink (mj_own.getD 11 "") 294 yX9_findRest ∈ mj_GW := mj_t4 197 (by decide +kernel) rfl
theorem l9_32 : Cond.methodLink (mj_own.getD 9 "") 32 yX9_digits ∈ mj_GW := mj_t4 201 (by decide +kernel) rfl
theorem l13_135 : Cond.methodLink (mj_own.getD 13 "") 135 yX11_spread ∈ mj_GW := mj_t4 205 (by decide +kernel) rfl
theorem l11_297 : Cond.methodLink (mj_own.getD 11 "") 297 yX9_fullestOfFirstRest ∈ mj_GW := mj_t4 209 (by decide +kernel) rfl
theorem l9_36 : Cond.methodLink (mj_own.getD 9 "") 36 yX9_findRest ∈ mj_GW := mj_t4 213 (by decide +kernel) rfl
theorem l13_139 : Cond.methodLink (mj_own.getD 13 "") 139 yX11_duel ∈ mj_GW := mj_t4 214 (by decide +kernel) rfl
theorem l11_300 : Cond.methodLink (mj_own.getD 11 "") 300 yX6_has ∈ mj_GW := mj_t4 218 (by decide +kernel) rfl
theorem l11_303 : Cond.methodLink (mj_own.getD 11 "") 303 yX11_duelOf ∈ mj_GW := mj_t4 219 (by decide +kernel) rfl
theorem l11_306 : Cond.methodLink (mj_own.getD 11 "") 306 yX1_setForDuel ∈ mj_GW := mj_t4 223 (by decide +kernel) rfl
theorem l11_309 : Cond.methodLink (mj_own.getD 11 "") 309 yX3_setForDuel ∈ mj_GW := mj_t4 227 (by decide +kernel) rfl
theorem l3_43 : Cond.methodLink (mj_own.getD 3 "") 43 yX3_empty ∈ mj_GW := mj_t4 231 (by decide +kernel) rfl
theorem l3_46 : Cond.methodLink (mj_own.getD 3 "") 46 yX3_joinDuel ∈ mj_GW := mj_t4 232 (by decide +kernel) rfl
theorem l13_143 : Cond.methodLink (mj_own.getD 13 "") 143 yX11_reply ∈ mj_GW := mj_t4 236 (by decide +kernel) rfl
theorem l13_147 : Cond.methodLink (mj_own.getD 13 "") 147 yX11_strong ∈ mj_GW := mj_t5 0 (by decide +kernel) rfl
theorem l13_151 : Cond.methodLink (mj_own.getD 13 "") 151 yX11_picture ∈ mj_GW := mj_t5 4 (by decide +kernel) rfl
theorem l11_312 : Cond.methodLink (mj_own.getD 11 "") 312 yX5_canSee ∈ mj_GW := mj_t5 8 (by decide +kernel) rfl
theorem l11_315 : Cond.methodLink (mj_own.getD 11 "") 315 yX5_addPicture ∈ mj_GW := mj_t5 12 (by decide +kernel) rfl
theorem l13_156 : Cond.methodLink (mj_own.getD 13 "") 156 yX11_was ∈ mj_GW := mj_t5 16 (by decide +kernel) rfl
theorem l11_318 : Cond.methodLink (mj_own.getD 11 "") 318 yX5_isSeen ∈ mj_GW := mj_t5 20 (by decide +kernel) rfl
theorem l13_160 : Cond.methodLink (mj_own.getD 13 "") 160 yX11_race ∈ mj_GW := mj_t5 24 (by decide +kernel) rfl
theorem l11_324 : Cond.methodLink (mj_own.getD 11 "") 324 yX5_addRace ∈ mj_GW := mj_t5 28 (by decide +kernel) rfl
theorem l5_36 : Cond.methodLink (mj_own.getD 5 "") 36 yX1_placeOf ∈ mj_GW := mj_t5 32 (by decide +kernel) rfl
theorem l13_164 : Cond.methodLink (mj_own.getD 13 "") 164 yX11_points ∈ mj_GW := mj_t5 33 (by decide +kernel) rfl
theorem l13_168 : Cond.methodLink (mj_own.getD 13 "") 168 yX11_champion ∈ mj_GW := mj_t5 37 (by decide +kernel) rfl
theorem l13_172 : Cond.methodLink (mj_own.getD 13 "") 172 yX11_season ∈ mj_GW := mj_t5 41 (by decide +kernel) rfl
theorem l11_331 : Cond.methodLink (mj_own.getD 11 "") 331 yX3_scatter ∈ mj_GW := mj_t5 45 (by decide +kernel) rfl
theorem l3_50 : Cond.methodLink (mj_own.getD 3 "") 50 yX2_next ∈ mj_GW := mj_t5 49 (by decide +kernel) rfl
theorem l3_56 : Cond.methodLink (mj_own.getD 3 "") 56 yX3_isRowFull ∈ mj_GW := mj_t5 50 (by decide +kernel) rfl
theorem l13_176 : Cond.methodLink (mj_own.getD 13 "") 176 yX11_flag ∈ mj_GW := mj_t5 54 (by decide +kernel) rfl
theorem l13_180 : Cond.methodLink (mj_own.getD 13 "") 180 yX11_image ∈ mj_GW := mj_t5 58 (by decide +kernel) rfl
theorem l13_184 : Cond.methodLink (mj_own.getD 13 "") 184 yX11_back ∈ mj_GW := mj_t5 62 (by decide +kernel) rfl
theorem l13_188 : Cond.methodLink (mj_own.getD 13 "") 188 yX11_count ∈ mj_GW := mj_t5 66 (by decide +kernel) rfl
theorem l13_38 : Cond.methodLink (mj_own.getD 13 "") 38 yL_boat ∈ mj_GW := mj_t5 70 (by decide +kernel) rfl
theorem l13_7 : Cond.methodLink (mj_own.getD 13 "") 7 yX11_boat ∈ mj_GW := mj_t5 74 (by decide +kernel) rfl
theorem l11_201 : Cond.methodLink (mj_own.getD 11 "") 201 yX3_believedBack ∈ mj_GW := mj_t5 139 (by decide +kernel) rfl
theorem l13_44 : Cond.methodLink (mj_own.getD 13 "") 44 yX12_thrown ∈ mj_GW := mj_t6 43 (by decide +kernel) rfl
theorem l13_23 : Cond.methodLink (mj_own.getD 13 "") 23 yX12_feed ∈ mj_GW := mj_t6 47 (by decide +kernel) rfl
theorem l12_102 : Cond.methodLink (mj_own.getD 12 "") 102 yX12_byteOf ∈ mj_GW := mj_t6 51 (by decide +kernel) rfl
theorem l13_28 : Cond.methodLink (mj_own.getD 13 "") 28 yX12_end ∈ mj_GW := mj_t6 54 (by decide +kernel) rfl
theorem l13_33 : Cond.methodLink (mj_own.getD 13 "") 33 yX12_fault ∈ mj_GW := mj_t6 58 (by decide +kernel) rfl
theorem l12_249 : Cond.methodLink (mj_own.getD 12 "") 249 yX12_readWater ∈ mj_GW := mj_t6 62 (by decide +kernel) rfl
theorem l12_128 : Cond.methodLink (mj_own.getD 12 "") 128 yX12_look ∈ mj_GW := mj_t6 66 (by decide +kernel) rfl
theorem l12_112 : Cond.methodLink (mj_own.getD 12 "") 112 yX12_here ∈ mj_GW := mj_t6 70 (by decide +kernel) rfl
theorem l12_241 : Cond.methodLink (mj_own.getD 12 "") 241 yX12_items ∈ mj_GW := mj_t6 74 (by decide +kernel) rfl
theorem l12_218 : Cond.methodLink (mj_own.getD 12 "") 218 yX12_usual ∈ mj_GW := mj_t6 78 (by decide +kernel) rfl
theorem l12_222 : Cond.methodLink (mj_own.getD 12 "") 222 yX12_itemOf ∈ mj_GW := mj_t6 81 (by decide +kernel) rfl
theorem l12_225 : Cond.methodLink (mj_own.getD 12 "") 225 yX12_has ∈ mj_GW := mj_t6 84 (by decide +kernel) rfl
theorem l12_229 : Cond.methodLink (mj_own.getD 12 "") 229 yX12_lowest ∈ mj_GW := mj_t6 87 (by decide +kernel) rfl
theorem l12_232 : Cond.methodLink (mj_own.getD 12 "") 232 yX12_highest ∈ mj_GW := mj_t6 90 (by decide +kernel) rfl
theorem l12_235 : Cond.methodLink (mj_own.getD 12 "") 235 yX12_number ∈ mj_GW := mj_t6 93 (by decide +kernel) rfl
theorem l12_131 : Cond.methodLink (mj_own.getD 12 "") 131 yX12_isDigit ∈ mj_GW := mj_t6 97 (by decide +kernel) rfl
theorem l12_125 : Cond.methodLink (mj_own.getD 12 "") 125 yX12_bad ∈ mj_GW := mj_t6 100 (by decide +kernel) rfl
theorem l12_214 : Cond.methodLink (mj_own.getD 12 "") 214 yX12_in ∈ mj_GW := mj_t6 104 (by decide +kernel) rfl
theorem l12_245 : Cond.methodLink (mj_own.getD 12 "") 245 yX12_isWhole ∈ mj_GW := mj_t6 107 (by decide +kernel) rfl
theorem l12_252 : Cond.methodLink (mj_own.getD 12 "") 252 yX12_readLaw ∈ mj_GW := mj_t6 111 (by decide +kernel) rfl
theorem l12_180 : Cond.methodLink (mj_own.getD 12 "") 180 yX12_open ∈ mj_GW := mj_t6 115 (by decide +kernel) rfl
theorem l12_183 : Cond.methodLink (mj_own.getD 12 "") 183 yX12_clause ∈ mj_GW := mj_t6 119 (by decide +kernel) rfl
theorem l12_168 : Cond.methodLink (mj_own.getD 12 "") 168 yX12_condition ∈ mj_GW := mj_t6 123 (by decide +kernel) rfl
theorem l12_165 : Cond.methodLink (mj_own.getD 12 "") 165 yX12_unit ∈ mj_GW := mj_t6 127 (by decide +kernel) rfl
theorem l12_146 : Cond.methodLink (mj_own.getD 12 "") 146 yX12_opens ∈ mj_GW := mj_t6 131 (by decide +kernel) rfl
theorem l12_138 : Cond.methodLink (mj_own.getD 12 "") 138 yX12_put ∈ mj_GW := mj_t6 135 (by decide +kernel) rfl
theorem l12_152 : Cond.methodLink (mj_own.getD 12 "") 152 yX12_closes ∈ mj_GW := mj_t6 139 (by decide +kernel) rfl
theorem l12_149 : Cond.methodLink (mj_own.getD 12 "") 149 yX12_sum ∈ mj_GW := mj_t6 143 (by decide +kernel) rfl
theorem l12_159 : Cond.methodLink (mj_own.getD 12 "") 159 yX12_term ∈ mj_GW := mj_t6 147 (by decide +kernel) rfl
theorem l12_156 : Cond.methodLink (mj_own.getD 12 "") 156 yX12_atom ∈ mj_GW := mj_t6 151 (by decide +kernel) rfl
theorem l12_135 : Cond.methodLink (mj_own.getD 12 "") 135 yX12_plainNumber ∈ mj_GW := mj_t6 155 (by decide +kernel) rfl
theorem l12_142 : Cond.methodLink (mj_own.getD 12 "") 142 yX12_letterOf ∈ mj_GW := mj_t6 159 (by decide +kernel) rfl
theorem l12_171 : Cond.methodLink (mj_own.getD 12 "") 171 yX12_compare ∈ mj_GW := mj_t6 162 (by decide +kernel) rfl
theorem l12_162 : Cond.methodLink (mj_own.getD 12 "") 162 yX12_isSign ∈ mj_GW := mj_t6 166 (by decide +kernel) rfl
theorem l12_174 : Cond.methodLink (mj_own.getD 12 "") 174 yX12_goOnAnd ∈ mj_GW := mj_t6 169 (by decide +kernel) rfl
theorem l12_177 : Cond.methodLink (mj_own.getD 12 "") 177 yX12_goOnOr ∈ mj_GW := mj_t6 173 (by decide +kernel) rfl
theorem l12_186 : Cond.methodLink (mj_own.getD 12 "") 186 yX12_atEnd ∈ mj_GW := mj_t6 177 (by decide +kernel) rfl
theorem l13_37 : Cond.methodLink (mj_own.getD 13 "") 37 yX12_text ∈ mj_GW := mj_t6 181 (by decide +kernel) rfl
theorem l12_277 : Cond.methodLink (mj_own.getD 12 "") 277 yX12_takeWater ∈ mj_GW := mj_t6 185 (by decide +kernel) rfl
theorem l12_258 : Cond.methodLink (mj_own.getD 12 "") 258 yX12_begin ∈ mj_GW := mj_t6 189 (by decide +kernel) rfl
theorem l12_274 : Cond.methodLink (mj_own.getD 12 "") 274 yX12_put_ ∈ mj_GW := mj_t6 193 (by decide +kernel) rfl
theorem l13_43 : Cond.methodLink (mj_own.getD 13 "") 43 yX12_boat ∈ mj_GW := mj_t6 197 (by decide +kernel) rfl
theorem l12_306 : Cond.methodLink (mj_own.getD 12 "") 306 yX12_isBoat ∈ mj_GW := mj_t6 201 (by decide +kernel) rfl
theorem l12_283 : Cond.methodLink (mj_own.getD 12 "") 283 yX12_of ∈ mj_GW := mj_t6 205 (by decide +kernel) rfl
theorem l12_309 : Cond.methodLink (mj_own.getD 12 "") 309 yX12_most ∈ mj_GW := mj_t6 209 (by decide +kernel) rfl
theorem l12_292 : Cond.methodLink (mj_own.getD 12 "") 292 yX12_statusBy ∈ mj_GW := mj_t6 213 (by decide +kernel) rfl
theorem l12_312 : Cond.methodLink (mj_own.getD 12 "") 312 yX12_scoreOf ∈ mj_GW := mj_t6 217 (by decide +kernel) rfl
theorem l12_300 : Cond.methodLink (mj_own.getD 12 "") 300 yX12_scoreBy ∈ mj_GW := mj_t6 221 (by decide +kernel) rfl
theorem l12_295 : Cond.methodLink (mj_own.getD 12 "") 295 yJ9_max_7cf53 ∈ mj_GW := mj_t6 225 (by decide +kernel) rfl
theorem l12_297 : Cond.methodLink (mj_own.getD 12 "") 297 yX12_isShadowed ∈ mj_GW := mj_t6 226 (by decide +kernel) rfl
theorem l12_286 : Cond.methodLink (mj_own.getD 12 "") 286 yJ9_abs_0f7a4 ∈ mj_GW := mj_t6 230 (by decide +kernel) rfl
theorem l12_315 : Cond.methodLink (mj_own.getD 12 "") 315 yX12_placeOf ∈ mj_GW := mj_t6 233 (by decide +kernel) rfl
theorem l12_303 : Cond.methodLink (mj_own.getD 12 "") 303 yX12_placeBy ∈ mj_GW := mj_t6 237 (by decide +kernel) rfl
theorem l12_318 : Cond.methodLink (mj_own.getD 12 "") 318 yX12_believed ∈ mj_GW := mj_t7 1 (by decide +kernel) rfl
theorem l13_51 : Cond.methodLink (mj_own.getD 13 "") 51 yX12_line ∈ mj_GW := mj_t7 5 (by decide +kernel) rfl
theorem l13_55 : Cond.methodLink (mj_own.getD 13 "") 55 yX12_rule ∈ mj_GW := mj_t7 9 (by decide +kernel) rfl
theorem l12_358 : Cond.methodLink (mj_own.getD 12 "") 358 yX12_keep ∈ mj_GW := mj_t7 13 (by decide +kernel) rfl
theorem l13_59 : Cond.methodLink (mj_own.getD 13 "") 59 yX12_mark ∈ mj_GW := mj_t7 17 (by decide +kernel) rfl
theorem l13_63 : Cond.methodLink (mj_own.getD 13 "") 63 yX12_speed ∈ mj_GW := mj_t7 21 (by decide +kernel) rfl
theorem l13_67 : Cond.methodLink (mj_own.getD 13 "") 67 yX12_steer ∈ mj_GW := mj_t7 25 (by decide +kernel) rfl
theorem l12_289 : Cond.methodLink (mj_own.getD 12 "") 289 yX12_isHeld ∈ mj_GW := mj_t7 29 (by decide +kernel) rfl
theorem l13_71 : Cond.methodLink (mj_own.getD 13 "") 71 yX12_gust ∈ mj_GW := mj_t7 33 (by decide +kernel) rfl
theorem l13_75 : Cond.methodLink (mj_own.getD 13 "") 75 yX12_go ∈ mj_GW := mj_t7 37 (by decide +kernel) rfl
theorem l12_364 : Cond.methodLink (mj_own.getD 12 "") 364 yX12_areSeconds ∈ mj_GW := mj_t7 41 (by decide +kernel) rfl
theorem l12_323 : Cond.methodLink (mj_own.getD 12 "") 323 yX12_leftSeconds ∈ mj_GW := mj_t7 45 (by decide +kernel) rfl
theorem l12_367 : Cond.methodLink (mj_own.getD 12 "") 367 yX12_pass ∈ mj_GW := mj_t7 49 (by decide +kernel) rfl
theorem l12_352 : Cond.methodLink (mj_own.getD 12 "") 352 yX12_speedAll ∈ mj_GW := mj_t7 53 (by decide +kernel) rfl
theorem l12_337 : Cond.methodLink (mj_own.getD 12 "") 337 yX12_wantsOf ∈ mj_GW := mj_t7 57 (by decide +kernel) rfl
theorem l12_326 : Cond.methodLink (mj_own.getD 12 "") 326 yX12_isLeewardHeld ∈ mj_GW := mj_t7 61 (by decide +kernel) rfl
theorem l12_329 : Cond.methodLink (mj_own.getD 12 "") 329 yX12_worthOf ∈ mj_GW := mj_t7 65 (by decide +kernel) rfl
theorem l12_210 : Cond.methodLink (mj_own.getD 12 "") 210 yX12_workOut ∈ mj_GW := mj_t7 69 (by decide +kernel) rfl
theorem l12_206 : Cond.methodLink (mj_own.getD 12 "") 206 yX12_worked ∈ mj_GW := mj_t7 73 (by decide +kernel) rfl
theorem l12_202 : Cond.methodLink (mj_own.getD 12 "") 202 yX12_bounded ∈ mj_GW := mj_t7 76 (by decide +kernel) rfl
theorem l12_193 : Cond.methodLink (mj_own.getD 12 "") 193 yJ9_min_f86c9 ∈ mj_GW := mj_t7 81 (by decide +kernel) rfl
theorem l12_199 : Cond.methodLink (mj_own.getD 12 "") 199 yJ9_max_f86c9 ∈ mj_GW := mj_t7 84 (by decide +kernel) rfl
theorem l12_332 : Cond.methodLink (mj_own.getD 12 "") 332 yJ6_signum_0f7a4 ∈ mj_GW := mj_t7 87 (by decide +kernel) rfl
theorem l12_340 : Cond.methodLink (mj_own.getD 12 "") 340 yX12_faster ∈ mj_GW := mj_t7 90 (by decide +kernel) rfl
theorem l12_321 : Cond.methodLink (mj_own.getD 12 "") 321 yJ9_min_7cf53 ∈ mj_GW := mj_t7 94 (by decide +kernel) rfl
theorem l12_355 : Cond.methodLink (mj_own.getD 12 "") 355 yX12_goAll ∈ mj_GW := mj_t7 95 (by decide +kernel) rfl
theorem l12_346 : Cond.methodLink (mj_own.getD 12 "") 346 yX12_goOne ∈ mj_GW := mj_t7 99 (by decide +kernel) rfl
theorem l12_349 : Cond.methodLink (mj_own.getD 12 "") 349 yX12_drift ∈ mj_GW := mj_t7 103 (by decide +kernel) rfl
theorem l13_82 : Cond.methodLink (mj_own.getD 13 "") 82 yX12_blow ∈ mj_GW := mj_t7 107 (by decide +kernel) rfl
theorem l12_378 : Cond.methodLink (mj_own.getD 12 "") 378 yX12_draw ∈ mj_GW := mj_t7 111 (by decide +kernel) rfl
theorem l13_86 : Cond.methodLink (mj_own.getD 13 "") 86 yX12_undo ∈ mj_GW := mj_t7 117 (by decide +kernel) rfl
theorem l13_90 : Cond.methodLink (mj_own.getD 13 "") 90 yX12_ahead ∈ mj_GW := mj_t7 121 (by decide +kernel) rfl
theorem l12_382 : Cond.methodLink (mj_own.getD 12 "") 382 yX12_putAside ∈ mj_GW := mj_t7 126 (by decide +kernel) rfl
theorem l12_385 : Cond.methodLink (mj_own.getD 12 "") 385 yX12_toGun ∈ mj_GW := mj_t7 130 (by decide +kernel) rfl
theorem l12_388 : Cond.methodLink (mj_own.getD 12 "") 388 yX12_takeBack ∈ mj_GW := mj_t7 134 (by decide +kernel) rfl
theorem l13_94 : Cond.methodLink (mj_own.getD 13 "") 94 yX12_where ∈ mj_GW := mj_t7 138 (by decide +kernel) rfl
theorem l12_394 : Cond.methodLink (mj_own.getD 12 "") 394 yX12_bestCell ∈ mj_GW := mj_t7 142 (by decide +kernel) rfl
theorem l12_391 : Cond.methodLink (mj_own.getD 12 "") 391 yX12_scoreAtGun ∈ mj_GW := mj_t7 146 (by decide +kernel) rfl
theorem l13_98 : Cond.methodLink (mj_own.getD 13 "") 98 yX12_near ∈ mj_GW := mj_t7 150 (by decide +kernel) rfl
theorem l13_102 : Cond.methodLink (mj_own.getD 13 "") 102 yX12_hold ∈ mj_GW := mj_t7 154 (by decide +kernel) rfl
theorem l13_106 : Cond.methodLink (mj_own.getD 13 "") 106 yX12_row ∈ mj_GW := mj_t7 158 (by decide +kernel) rfl
theorem l13_110 : Cond.methodLink (mj_own.getD 13 "") 110 yX12_tides ∈ mj_GW := mj_t7 162 (by decide +kernel) rfl
theorem l13_114 : Cond.methodLink (mj_own.getD 13 "") 114 yX12_sag ∈ mj_GW := mj_t7 166 (by decide +kernel) rfl
theorem l12_401 : Cond.methodLink (mj_own.getD 12 "") 401 yX12_thirdOf ∈ mj_GW := mj_t7 170 (by decide +kernel) rfl
theorem l12_398 : Cond.methodLink (mj_own.getD 12 "") 398 yX12_divisor ∈ mj_GW := mj_t7 174 (by decide +kernel) rfl
theorem l13_118 : Cond.methodLink (mj_own.getD 13 "") 118 yX12_heap ∈ mj_GW := mj_t7 177 (by decide +kernel) rfl
theorem l13_122 : Cond.methodLink (mj_own.getD 13 "") 122 yX12_hole ∈ mj_GW := mj_t7 181 (by decide +kernel) rfl
theorem l13_126 : Cond.methodLink (mj_own.getD 13 "") 126 yX12_keeps ∈ mj_GW := mj_t7 185 (by decide +kernel) rfl
theorem l13_130 : Cond.methodLink (mj_own.getD 13 "") 130 yX12_which ∈ mj_GW := mj_t7 189 (by decide +kernel) rfl
theorem l13_134 : Cond.methodLink (mj_own.getD 13 "") 134 yX12_rests ∈ mj_GW := mj_t7 193 (by decide +kernel) rfl
theorem l12_407 : Cond.methodLink (mj_own.getD 12 "") 407 yX12_rows ∈ mj_GW := mj_t7 197 (by decide +kernel) rfl
theorem l12_410 : Cond.methodLink (mj_own.getD 12 "") 410 yX12_layThirds ∈ mj_GW := mj_t7 201 (by decide +kernel) rfl
theorem l12_413 : Cond.methodLink (mj_own.getD 12 "") 413 yX12_isRest ∈ mj_GW := mj_t7 205 (by decide +kernel) rfl
theorem l12_404 : Cond.methodLink (mj_own.getD 12 "") 404 yX12_thirdWorth ∈ mj_GW := mj_t7 209 (by decide +kernel) rfl
theorem l13_138 : Cond.methodLink (mj_own.getD 13 "") 138 yX12_spread ∈ mj_GW := mj_t7 213 (by decide +kernel) rfl
theorem l12_416 : Cond.methodLink (mj_own.getD 12 "") 416 yX12_fullest ∈ mj_GW := mj_t7 217 (by decide +kernel) rfl
theorem l13_142 : Cond.methodLink (mj_own.getD 13 "") 142 yX12_duel ∈ mj_GW := mj_t7 221 (by decide +kernel) rfl
theorem l12_419 : Cond.methodLink (mj_own.getD 12 "") 419 yX12_isLaw ∈ mj_GW := mj_t7 225 (by decide +kernel) rfl
theorem l12_422 : Cond.methodLink (mj_own.getD 12 "") 422 yX12_duelOf ∈ mj_GW := mj_t7 229 (by decide +kernel) rfl
theorem l13_146 : Cond.methodLink (mj_own.getD 13 "") 146 yX12_reply ∈ mj_GW := mj_t7 233 (by decide +kernel) rfl
theorem l13_150 : Cond.methodLink (mj_own.getD 13 "") 150 yX12_strong ∈ mj_GW := mj_t7 237 (by decide +kernel) rfl
theorem l12_425 : Cond.methodLink (mj_own.getD 12 "") 425 yX12_sumOfDuels ∈ mj_GW := mj_t8 1 (by decide +kernel) rfl
theorem l13_155 : Cond.methodLink (mj_own.getD 13 "") 155 yX12_picture ∈ mj_GW := mj_t8 5 (by decide +kernel) rfl
theorem l13_159 : Cond.methodLink (mj_own.getD 13 "") 159 yX12_was ∈ mj_GW := mj_t8 9 (by decide +kernel) rfl
theorem l12_428 : Cond.methodLink (mj_own.getD 12 "") 428 yX12_wasSo ∈ mj_GW := mj_t8 13 (by decide +kernel) rfl
theorem l13_163 : Cond.methodLink (mj_own.getD 13 "") 163 yX12_race ∈ mj_GW := mj_t8 17 (by decide +kernel) rfl
theorem l12_431 : Cond.methodLink (mj_own.getD 12 "") 431 yX12_write ∈ mj_GW := mj_t8 21 (by decide +kernel) rfl
theorem l13_167 : Cond.methodLink (mj_own.getD 13 "") 167 yX12_points ∈ mj_GW := mj_t8 25 (by decide +kernel) rfl
theorem l12_434 : Cond.methodLink (mj_own.getD 12 "") 434 yX12_pointsOf ∈ mj_GW := mj_t8 29 (by decide +kernel) rfl
theorem l13_171 : Cond.methodLink (mj_own.getD 13 "") 171 yX12_champion ∈ mj_GW := mj_t8 33 (by decide +kernel) rfl
theorem l13_175 : Cond.methodLink (mj_own.getD 13 "") 175 yX12_season ∈ mj_GW := mj_t8 37 (by decide +kernel) rfl
theorem l12_440 : Cond.methodLink (mj_own.getD 12 "") 440 yX12_drawCell ∈ mj_GW := mj_t8 41 (by decide +kernel) rfl
theorem l12_437 : Cond.methodLink (mj_own.getD 12 "") 437 yX12_isHeldAhead ∈ mj_GW := mj_t8 45 (by decide +kernel) rfl
theorem l13_179 : Cond.methodLink (mj_own.getD 13 "") 179 yX12_flag ∈ mj_GW := mj_t8 49 (by decide +kernel) rfl
theorem l13_183 : Cond.methodLink (mj_own.getD 13 "") 183 yX12_image ∈ mj_GW := mj_t8 53 (by decide +kernel) rfl
theorem l13_187 : Cond.methodLink (mj_own.getD 13 "") 187 yX12_back ∈ mj_GW := mj_t8 57 (by decide +kernel) rfl
theorem l13_191 : Cond.methodLink (mj_own.getD 13 "") 191 yX12_count ∈ mj_GW := mj_t8 61 (by decide +kernel) rfl
/-- the shapes of all cells behind the constructors, the references among them -/
def mS0 : List (Nat × Nat) := [(15, 0), (12, 0), (0, 240), (10, 0), (3, 4), (0, 240), (0, 240), (0, 240), (0, 240), (0, 4), (0, 64), (14, 0), (0, 7), (5, 0), (0, 7), (7, 0), (0, 8), (0, 8), (0, 8), (0, 8), (0, 8), (0, 8), (0, 8), (0, 8), (11, 0), (0, 240), (5, 0), (0, 7), (5, 0), (0, 7), (7, 0), (0, 8), (0, 8), (0, 8), (0, 8), (0, 8), (0, 8), (0, 8), (0, 8), (7, 0), (0, 8), (0, 8), (0, 8), (0, 8), (0, 8), (0, 8), (0, 8), (0, 8), (7, 0), (0, 8), (0, 8), (0, 8), (0, 8), (0, 8), (0, 8), (0, 8), (0, 8), (7, 0), (0, 8), (0, 8), (0, 8), (0, 8), (0, 8), (0, 8), (0, 8), (0, 8), (7, 0), (0, 8), (0, 8), (0, 8), (0, 8), (0, 8), (0, 8), (0, 8), (0, 8), (8, 0), (0, 7), (0, 8), (0, 8), (6, 0), (4, 0), (0, 1960), (13, 0), (0, 5), (0, 3), (0, 3), (9, 0), (0, 8), (0, 8), (0, 8), (0, 8), (16, 0), (0, 240), (0, 2600), (0, 2600), (0, 5), (0, 5), (0, 700), (0, 700), (0, 700), (0, 7), (0, 80), (0, 7), (0, 48), (0, 7), (0, 48), (0, 49), (1, 8), (0, 8), (0, 8), (0, 1960), (0, 49), (0, 8), (0, 7), (0, 12), (0, 12), (0, 12), (0, 12), (0, 320), (0, 49), (2, 1)]
def mR0 : List ((Nat × Nat) × Nat) := [((0, 0), 1), ((0, 1), 3), ((0, 2), 11), ((0, 3), 24), ((0, 4), 26), ((0, 5), 28), ((0, 6), 30), ((0, 7), 39), ((0, 8), 48), ((0, 9), 57), ((0, 10), 66), ((0, 11), 75), ((0, 12), 79), ((0, 13), 80), ((0, 14), 82), ((0, 15), 86), ((1, 0), 2), ((3, 0), 4), ((3, 1), 9), ((3, 2), 10), ((4, 0), 5), ((4, 1), 6), ((4, 2), 7), ((4, 3), 8), ((11, 0), 1), ((11, 1), 12), ((11, 3), 13), ((11, 4), 15), ((13, 0), 14), ((15, 0), 16), ((15, 1), 17), ((15, 2), 18), ((15, 3), 19), ((15, 4), 20), ((15, 5), 21), ((15, 6), 22), ((15, 7), 23), ((24, 0), 1), ((24, 1), 25), ((26, 0), 27), ((28, 0), 29), ((30, 0), 31), ((30, 1), 32), ((30, 2), 33), ((30, 3), 34), ((30, 4), 35), ((30, 5), 36), ((30, 6), 37), ((30, 7), 38), ((39, 0), 40), ((39, 1), 41), ((39, 2), 42), ((39, 3), 43), ((39, 4), 44), ((39, 5), 45), ((39, 6), 46), ((39, 7), 47), ((48, 0), 49), ((48, 1), 50), ((48, 2), 51), ((48, 3), 52), ((48, 4), 53), ((48, 5), 54), ((48, 6), 55), ((48, 7), 56), ((57, 0), 58), ((57, 1), 59), ((57, 2), 60), ((57, 3), 61), ((57, 4), 62), ((57, 5), 63), ((57, 6), 64), ((57, 7), 65), ((66, 0), 67), ((66, 1), 68), ((66, 2), 69), ((66, 3), 70), ((66, 4), 71), ((66, 5), 72), ((66, 6), 73), ((66, 7), 74), ((75, 0), 3), ((75, 1), 76), ((75, 2), 77), ((75, 3), 78), ((80, 0), 81), ((82, 0), 83), ((82, 1), 84), ((82, 2), 85), ((86, 0), 87), ((86, 1), 88), ((86, 2), 89), ((86, 3), 90), ((91, 1), 92), ((91, 6), 93), ((91, 7), 94), ((91, 8), 95), ((91, 9), 96), ((91, 10), 97), ((91, 11), 98), ((91, 12), 99), ((91, 15), 100), ((91, 16), 101), ((91, 17), 102), ((91, 18), 103), ((91, 20), 104), ((91, 21), 105), ((91, 23), 106), ((91, 27), 107), ((91, 28), 108), ((91, 29), 109), ((91, 30), 110), ((91, 33), 111), ((91, 34), 112), ((91, 35), 113), ((91, 36), 114), ((91, 37), 115), ((91, 38), 116), ((91, 39), 117), ((91, 41), 118), ((91, 43), 119)]
