/-! ===== the constructors (by program, wip/whole/gen_ctor.py) ===== -/
section MJR
variable {p : Program} {l : Launch} {e : Env} {R : Room} {s : State} {m : MethodId} {args : Array Value} {below : List Frame} {meth : Method} {c : Code} {Ω : mj_Om} {al : Bool} {o : Nat} {ini : Bool} {cc : ByteArray} {nL pc : Nat} {L : List (Option Value)} {M : mj_M} {Φ : Option Value → mj_M → Prop} {mc ms : Nat}
theorem mj_ret_ok (F : mj_F Ω p s m args meth c o ini cc nL none) (hdg : decode cc pc = .ok (.return_, 1)) (h : Φ none M) : mj_Wg Ω al nL p l e R s m args below meth c mc ms (MQ below (mj_Qc Ω al Φ) args s mc ms (mj_A Ω)) pc (L, [], M) := by
  intro H locs ls hH hl
  obtain ⟨hx, hb, hml, hown, hts, hr, hlk2, hKk, hin, hbs, hKc⟩ := F
  exact W.vret hx hb hr (mj_leave (as := args) hbs hKk hKc hH none h) hH.2.2.2.2 hdg hlk2
end MJR
theorem mj_pde {cc : ByteArray} {P : List (Nat × Instr × Nat)} (h : mj_pd cc P) (k : Nat) {pc n : Nat} {i : Instr} (hk : P[k]? = some (pc, i, n)) : decode cc pc = .ok (i, n) := (h _ (List.mem_of_getElem? hk)).1
def mX0_init : mj_m := (0, true, cX0_init, 1, none, yX0_init)
def pX0_init : List (Nat × Instr × Nat) := [(0, .aload_n 0, 1), (1, .invokespecial 1, 3), (4, .aload_n 0, 1), (5, .sipush 1960, 3), (8, .newarray .int, 2), (10, .putfield 11, 3), (13, .return_, 1)]
set_option maxRecDepth 100000 in
theorem dX0_init : (pX0_init.all (fun e => decide (decode cX0_init e.1 = .ok (e.2.1, e.2.2)))) = true := by decide +kernel
set_option maxRecDepth 100000 in
theorem fX0_init : mj_mf mX0_init := ⟨mj_gw_in (by decide +kernel), mj_gw_in (by decide +kernel), by decide, by decide, by decide⟩
set_option maxRecDepth 100000 in
theorem iX0_init : Cond.instanceMethod yX0_init ∈ mj_GW := mj_gw_in (by decide +kernel)
def mX1_init : mj_m := (1, true, cX1_init, 1, none, yX1_init)
def pX1_init : List (Nat × Instr × Nat) := [(0, .aload_n 0, 1), (1, .invokespecial 1, 3), (4, .aload_n 0, 1), (5, .bipush 7, 2), (7, .newarray .int, 2), (9, .putfield 9, 3), (12, .return_, 1)]
set_option maxRecDepth 100000 in
theorem dX1_init : (pX1_init.all (fun e => decide (decode cX1_init e.1 = .ok (e.2.1, e.2.2)))) = true := by decide +kernel
set_option maxRecDepth 100000 in
theorem fX1_init : mj_mf mX1_init := ⟨mj_gw_in (by decide +kernel), mj_gw_in (by decide +kernel), by decide, by decide, by decide⟩
set_option maxRecDepth 100000 in
theorem iX1_init : Cond.instanceMethod yX1_init ∈ mj_GW := mj_gw_in (by decide +kernel)
def mX2_init : mj_m := (2, true, cX2_init, 1, none, yX2_init)
def pX2_init : List (Nat × Instr × Nat) := [(0, .aload_n 0, 1), (1, .invokespecial 1, 3), (4, .return_, 1)]
set_option maxRecDepth 100000 in
theorem dX2_init : (pX2_init.all (fun e => decide (decode cX2_init e.1 = .ok (e.2.1, e.2.2)))) = true := by decide +kernel
set_option maxRecDepth 100000 in
theorem fX2_init : mj_mf mX2_init := ⟨mj_gw_in (by decide +kernel), mj_gw_in (by decide +kernel), by decide, by decide, by decide⟩
set_option maxRecDepth 100000 in
theorem iX2_init : Cond.instanceMethod yX2_init ∈ mj_GW := mj_gw_in (by decide +kernel)
def mX3_init : mj_m := (3, true, cX3_init, 1, none, yX3_init)
def pX3_init : List (Nat × Instr × Nat) := [(0, .aload_n 0, 1), (1, .invokespecial 3, 3), (4, .aload_n 0, 1), (5, .bipush 8, 2), (7, .newarray .int, 2), (9, .putfield 9, 3), (12, .aload_n 0, 1), (13, .bipush 8, 2), (15, .newarray .int, 2), (17, .putfield 15, 3), (20, .aload_n 0, 1), (21, .bipush 8, 2), (23, .newarray .int, 2), (25, .putfield 18, 3), (28, .aload_n 0, 1), (29, .bipush 8, 2), (31, .newarray .int, 2), (33, .putfield 21, 3), (36, .aload_n 0, 1), (37, .bipush 8, 2), (39, .newarray .int, 2), (41, .putfield 24, 3), (44, .aload_n 0, 1), (45, .bipush 8, 2), (47, .newarray .int, 2), (49, .putfield 27, 3), (52, .aload_n 0, 1), (53, .bipush 8, 2), (55, .newarray .int, 2), (57, .putfield 30, 3), (60, .aload_n 0, 1), (61, .bipush 8, 2), (63, .newarray .int, 2), (65, .putfield 33, 3), (68, .return_, 1)]
set_option maxRecDepth 100000 in
theorem dX3_init : (pX3_init.all (fun e => decide (decode cX3_init e.1 = .ok (e.2.1, e.2.2)))) = true := by decide +kernel
set_option maxRecDepth 100000 in
theorem fX3_init : mj_mf mX3_init := ⟨mj_gw_in (by decide +kernel), mj_gw_in (by decide +kernel), by decide, by decide, by decide⟩
set_option maxRecDepth 100000 in
theorem iX3_init : Cond.instanceMethod yX3_init ∈ mj_GW := mj_gw_in (by decide +kernel)
def mX4_init : mj_m := (4, true, cX4_init, 2, none, yX4_init)
def pX4_init : List (Nat × Instr × Nat) := [(0, .aload_n 0, 1), (1, .invokespecial 3, 3), (4, .aload_n 0, 1), (5, .bipush 7, 2), (7, .newarray .int, 2), (9, .putfield 11, 3), (12, .aload_n 0, 1), (13, .bipush 8, 2), (15, .newarray .int, 2), (17, .putfield 17, 3), (20, .aload_n 0, 1), (21, .bipush 8, 2), (23, .newarray .int, 2), (25, .putfield 20, 3), (28, .aload_n 0, 1), (29, .aload_n 1, 1), (30, .putfield 23, 3), (33, .return_, 1)]
set_option maxRecDepth 100000 in
theorem dX4_init : (pX4_init.all (fun e => decide (decode cX4_init e.1 = .ok (e.2.1, e.2.2)))) = true := by decide +kernel
set_option maxRecDepth 100000 in
theorem fX4_init : mj_mf mX4_init := ⟨mj_gw_in (by decide +kernel), mj_gw_in (by decide +kernel), by decide, by decide, by decide⟩
set_option maxRecDepth 100000 in
theorem iX4_init : Cond.instanceMethod yX4_init ∈ mj_GW := mj_gw_in (by decide +kernel)
def mX5_init : mj_m := (5, true, cX5_init, 1, none, yX5_init)
def pX5_init : List (Nat × Instr × Nat) := [(0, .aload_n 0, 1), (1, .invokespecial 3, 3), (4, .aload_n 0, 1), (5, .bipush 8, 2), (7, .newarray .int, 2), (9, .putfield 9, 3), (12, .aload_n 0, 1), (13, .bipush 8, 2), (15, .newarray .int, 2), (17, .putfield 15, 3), (20, .aload_n 0, 1), (21, .bipush 8, 2), (23, .newarray .int, 2), (25, .putfield 18, 3), (28, .aload_n 0, 1), (29, .bipush 8, 2), (31, .newarray .int, 2), (33, .putfield 21, 3), (36, .return_, 1)]
set_option maxRecDepth 100000 in
theorem dX5_init : (pX5_init.all (fun e => decide (decode cX5_init e.1 = .ok (e.2.1, e.2.2)))) = true := by decide +kernel
set_option maxRecDepth 100000 in
theorem fX5_init : mj_mf mX5_init := ⟨mj_gw_in (by decide +kernel), mj_gw_in (by decide +kernel), by decide, by decide, by decide⟩
set_option maxRecDepth 100000 in
theorem iX5_init : Cond.instanceMethod yX5_init ∈ mj_GW := mj_gw_in (by decide +kernel)
def mX6_init : mj_m := (6, true, cX6_init, 1, none, yX6_init)
def pX6_init : List (Nat × Instr × Nat) := [(0, .aload_n 0, 1), (1, .invokespecial 5, 3), (4, .aload_n 0, 1), (5, .iconst 4, 1), (6, .sipush 240, 3), (9, .multianewarray 13 2, 4), (13, .putfield 15, 3), (16, .aload_n 0, 1), (17, .iconst 4, 1), (18, .newarray .int, 2), (20, .putfield 18, 3), (23, .aload_n 0, 1), (24, .bipush 64, 2), (26, .newarray .int, 2), (28, .putfield 22, 3), (31, .return_, 1)]
set_option maxRecDepth 100000 in
theorem dX6_init : (pX6_init.all (fun e => decide (decode cX6_init e.1 = .ok (e.2.1, e.2.2)))) = true := by decide +kernel
set_option maxRecDepth 100000 in
theorem fX6_init : mj_mf mX6_init := ⟨mj_gw_in (by decide +kernel), mj_gw_in (by decide +kernel), by decide, by decide, by decide⟩
set_option maxRecDepth 100000 in
theorem iX6_init : Cond.instanceMethod yX6_init ∈ mj_GW := mj_gw_in (by decide +kernel)
def mX7_init : mj_m := (7, true, cX7_init, 2, none, yX7_init)
def pX7_init : List (Nat × Instr × Nat) := [(0, .aload_n 0, 1), (1, .invokespecial 3, 3), (4, .aload_n 0, 1), (5, .sipush 240, 3), (8, .newarray .int, 2), (10, .putfield 11, 3), (13, .aload_n 0, 1), (14, .aload_n 1, 1), (15, .putfield 17, 3), (18, .return_, 1)]
set_option maxRecDepth 100000 in
theorem dX7_init : (pX7_init.all (fun e => decide (decode cX7_init e.1 = .ok (e.2.1, e.2.2)))) = true := by decide +kernel
set_option maxRecDepth 100000 in
theorem fX7_init : mj_mf mX7_init := ⟨mj_gw_in (by decide +kernel), mj_gw_in (by decide +kernel), by decide, by decide, by decide⟩
set_option maxRecDepth 100000 in
theorem iX7_init : Cond.instanceMethod yX7_init ∈ mj_GW := mj_gw_in (by decide +kernel)
def mX8_init : mj_m := (8, true, cX8_init, 1, none, yX8_init)
def pX8_init : List (Nat × Instr × Nat) := [(0, .aload_n 0, 1), (1, .invokespecial 3, 3), (4, .aload_n 0, 1), (5, .sipush 240, 3), (8, .newarray .int, 2), (10, .putfield 11, 3), (13, .return_, 1)]
set_option maxRecDepth 100000 in
theorem dX8_init : (pX8_init.all (fun e => decide (decode cX8_init e.1 = .ok (e.2.1, e.2.2)))) = true := by decide +kernel
set_option maxRecDepth 100000 in
theorem fX8_init : mj_mf mX8_init := ⟨mj_gw_in (by decide +kernel), mj_gw_in (by decide +kernel), by decide, by decide, by decide⟩
set_option maxRecDepth 100000 in
theorem iX8_init : Cond.instanceMethod yX8_init ∈ mj_GW := mj_gw_in (by decide +kernel)
def mX9_init : mj_m := (9, true, cX9_init, 1, none, yX9_init)
def pX9_init : List (Nat × Instr × Nat) := [(0, .aload_n 0, 1), (1, .invokespecial 3, 3), (4, .aload_n 0, 1), (5, .iconst 5, 1), (6, .newarray .int, 2), (8, .putfield 11, 3), (11, .aload_n 0, 1), (12, .iconst 3, 1), (13, .newarray .int, 2), (15, .putfield 15, 3), (18, .aload_n 0, 1), (19, .iconst 3, 1), (20, .newarray .int, 2), (22, .putfield 18, 3), (25, .return_, 1)]
set_option maxRecDepth 100000 in
theorem dX9_init : (pX9_init.all (fun e => decide (decode cX9_init e.1 = .ok (e.2.1, e.2.2)))) = true := by decide +kernel
set_option maxRecDepth 100000 in
theorem fX9_init : mj_mf mX9_init := ⟨mj_gw_in (by decide +kernel), mj_gw_in (by decide +kernel), by decide, by decide, by decide⟩
set_option maxRecDepth 100000 in
theorem iX9_init : Cond.instanceMethod yX9_init ∈ mj_GW := mj_gw_in (by decide +kernel)
def mX10_init : mj_m := (10, true, cX10_init, 2, none, yX10_init)
def pX10_init : List (Nat × Instr × Nat) := [(0, .aload_n 0, 1), (1, .invokespecial 3, 3), (4, .aload_n 0, 1), (5, .bipush 7, 2), (7, .newarray .int, 2), (9, .putfield 11, 3), (12, .aload_n 0, 1), (13, .new 9, 3), (16, .dup, 1), (17, .invokespecial 17, 3), (20, .putfield 18, 3), (23, .aload_n 0, 1), (24, .new 22, 3), (27, .dup, 1), (28, .invokespecial 24, 3), (31, .putfield 25, 3), (34, .aload_n 0, 1), (35, .aload_n 1, 1), (36, .putfield 29, 3), (39, .return_, 1)]
set_option maxRecDepth 100000 in
theorem dX10_init : (pX10_init.all (fun e => decide (decode cX10_init e.1 = .ok (e.2.1, e.2.2)))) = true := by decide +kernel
set_option maxRecDepth 100000 in
theorem fX10_init : mj_mf mX10_init := ⟨mj_gw_in (by decide +kernel), mj_gw_in (by decide +kernel), by decide, by decide, by decide⟩
set_option maxRecDepth 100000 in
theorem iX10_init : Cond.instanceMethod yX10_init ∈ mj_GW := mj_gw_in (by decide +kernel)
def mX11_init : mj_m := (11, true, cX11_init, 1, none, yX11_init)
def pX11_init : List (Nat × Instr × Nat) := [(0, .aload_n 0, 1), (1, .invokespecial 1, 3), (4, .aload_n 0, 1), (5, .new 7, 3), (8, .dup, 1), (9, .invokespecial 9, 3), (12, .putfield 10, 3), (15, .aload_n 0, 1), (16, .new 16, 3), (19, .dup, 1), (20, .invokespecial 18, 3), (23, .putfield 19, 3), (26, .aload_n 0, 1), (27, .new 23, 3), (30, .dup, 1), (31, .aload_n 0, 1), (32, .getfield 10, 3), (35, .invokespecial 25, 3), (38, .putfield 28, 3), (41, .aload_n 0, 1), (42, .new 32, 3), (45, .dup, 1), (46, .aload_n 0, 1), (47, .getfield 10, 3), (50, .invokespecial 34, 3), (53, .putfield 35, 3), (56, .aload_n 0, 1), (57, .new 39, 3), (60, .dup, 1), (61, .invokespecial 41, 3), (64, .putfield 42, 3), (67, .aload_n 0, 1), (68, .new 39, 3), (71, .dup, 1), (72, .invokespecial 41, 3), (75, .putfield 46, 3), (78, .aload_n 0, 1), (79, .new 49, 3), (82, .dup, 1), (83, .invokespecial 51, 3), (86, .putfield 52, 3), (89, .aload_n 0, 1), (90, .new 49, 3), (93, .dup, 1), (94, .invokespecial 51, 3), (97, .putfield 56, 3), (100, .aload_n 0, 1), (101, .new 49, 3), (104, .dup, 1), (105, .invokespecial 51, 3), (108, .putfield 59, 3), (111, .aload_n 0, 1), (112, .new 49, 3), (115, .dup, 1), (116, .invokespecial 51, 3), (119, .putfield 62, 3), (122, .aload_n 0, 1), (123, .new 49, 3), (126, .dup, 1), (127, .invokespecial 51, 3), (130, .putfield 65, 3), (133, .aload_n 0, 1), (134, .new 68, 3), (137, .dup, 1), (138, .aload_n 0, 1), (139, .getfield 19, 3), (142, .invokespecial 70, 3), (145, .putfield 73, 3), (148, .aload_n 0, 1), (149, .new 77, 3), (152, .dup, 1), (153, .invokespecial 79, 3), (156, .putfield 80, 3), (159, .aload_n 0, 1), (160, .new 84, 3), (163, .dup, 1), (164, .invokespecial 86, 3), (167, .putfield 87, 3), (170, .aload_n 0, 1), (171, .new 91, 3), (174, .dup, 1), (175, .invokespecial 93, 3), (178, .putfield 94, 3), (181, .aload_n 0, 1), (182, .new 98, 3), (185, .dup, 1), (186, .invokespecial 100, 3), (189, .putfield 101, 3), (192, .return_, 1)]
set_option maxRecDepth 100000 in
theorem dX11_init : (pX11_init.all (fun e => decide (decode cX11_init e.1 = .ok (e.2.1, e.2.2)))) = true := by decide +kernel
set_option maxRecDepth 100000 in
theorem fX11_init : mj_mf mX11_init := ⟨mj_gw_in (by decide +kernel), mj_gw_in (by decide +kernel), by decide, by decide, by decide⟩
set_option maxRecDepth 100000 in
theorem iX11_init : Cond.instanceMethod yX11_init ∈ mj_GW := mj_gw_in (by decide +kernel)
def mX12_init : mj_m := (12, true, cX12_init, 1, none, yX12_init)
def pX12_init : List (Nat × Instr × Nat) := [(0, .aload_n 0, 1), (1, .invokespecial 3, 3), (4, .aload_n 0, 1), (5, .sipush 240, 3), (8, .newarray .int, 2), (10, .putfield 9, 3), (13, .aload_n 0, 1), (14, .sipush 2600, 3), (17, .newarray .int, 2), (19, .putfield 13, 3), (22, .aload_n 0, 1), (23, .sipush 2600, 3), (26, .newarray .int, 2), (28, .putfield 16, 3), (31, .aload_n 0, 1), (32, .iconst 5, 1), (33, .newarray .int, 2), (35, .putfield 19, 3), (38, .aload_n 0, 1), (39, .iconst 5, 1), (40, .newarray .int, 2), (42, .putfield 22, 3), (45, .aload_n 0, 1), (46, .sipush 700, 3), (49, .newarray .int, 2), (51, .putfield 25, 3), (54, .aload_n 0, 1), (55, .sipush 700, 3), (58, .newarray .int, 2), (60, .putfield 28, 3), (63, .aload_n 0, 1), (64, .sipush 700, 3), (67, .newarray .int, 2), (69, .putfield 31, 3), (72, .aload_n 0, 1), (73, .bipush 7, 2), (75, .newarray .int, 2), (77, .putfield 34, 3), (80, .aload_n 0, 1), (81, .bipush 80, 2), (83, .newarray .int, 2), (85, .putfield 37, 3), (88, .aload_n 0, 1), (89, .bipush 7, 2), (91, .newarray .int, 2), (93, .putfield 40, 3), (96, .aload_n 0, 1), (97, .bipush 48, 2), (99, .newarray .int, 2), (101, .putfield 43, 3), (104, .aload_n 0, 1), (105, .bipush 7, 2), (107, .newarray .int, 2), (109, .putfield 46, 3), (112, .aload_n 0, 1), (113, .bipush 48, 2), (115, .newarray .int, 2), (117, .putfield 49, 3), (120, .aload_n 0, 1), (121, .bipush 49, 2), (123, .newarray .int, 2), (125, .putfield 52, 3), (128, .aload_n 0, 1), (129, .iconst (-1), 1), (130, .putfield 55, 3), (133, .aload_n 0, 1), (134, .bipush 8, 2), (136, .newarray .boolean, 2), (138, .putfield 59, 3), (141, .aload_n 0, 1), (142, .bipush 8, 2), (144, .newarray .int, 2), (146, .putfield 63, 3), (149, .aload_n 0, 1), (150, .bipush 8, 2), (152, .newarray .int, 2), (154, .putfield 66, 3), (157, .aload_n 0, 1), (158, .sipush 1960, 3), (161, .newarray .int, 2), (163, .putfield 69, 3), (166, .aload_n 0, 1), (167, .bipush 49, 2), (169, .newarray .int, 2), (171, .putfield 72, 3), (174, .aload_n 0, 1), (175, .bipush 8, 2), (177, .newarray .int, 2), (179, .putfield 75, 3), (182, .aload_n 0, 1), (183, .bipush 7, 2), (185, .newarray .int, 2), (187, .putfield 78, 3), (190, .aload_n 0, 1), (191, .bipush 12, 2), (193, .newarray .int, 2), (195, .putfield 81, 3), (198, .aload_n 0, 1), (199, .bipush 12, 2), (201, .newarray .int, 2), (203, .putfield 84, 3), (206, .aload_n 0, 1), (207, .bipush 12, 2), (209, .newarray .int, 2), (211, .putfield 87, 3), (214, .aload_n 0, 1), (215, .bipush 12, 2), (217, .newarray .int, 2), (219, .putfield 90, 3), (222, .aload_n 0, 1), (223, .sipush 320, 3), (226, .newarray .int, 2), (228, .putfield 93, 3), (231, .aload_n 0, 1), (232, .bipush 49, 2), (234, .newarray .int, 2), (236, .putfield 96, 3), (239, .return_, 1)]
set_option maxRecDepth 100000 in
theorem dX12_init : (pX12_init.all (fun e => decide (decode cX12_init e.1 = .ok (e.2.1, e.2.2)))) = true := by decide +kernel
set_option maxRecDepth 100000 in
theorem fX12_init : mj_mf mX12_init := ⟨mj_gw_in (by decide +kernel), mj_gw_in (by decide +kernel), by decide, by decide, by decide⟩
set_option maxRecDepth 100000 in
theorem iX12_init : Cond.instanceMethod yX12_init ∈ mj_GW := mj_gw_in (by decide +kernel)
theorem mj_ade {cc : ByteArray} {P : List (Nat × Instr × Nat)} (h : P.all (fun e => decide (decode cc e.1 = .ok (e.2.1, e.2.2))) = true) (k : Nat) {pc n : Nat} {i : Instr} (hk : P[k]? = some (pc, i, n)) : decode cc pc = .ok (i, n) := by
  have h1 := List.all_eq_true.mp h (pc, i, n) (List.mem_of_getElem? hk)
  simpa using h1
set_option maxRecDepth 100000 in
theorem mw_ol11 : Cond.methodLink (mj_own.getD 11 "") 1 Lib.objectInit ∈ mj_GW := mj_gw_in (by decide +kernel)
set_option maxRecDepth 100000 in
theorem mw_oi : Cond.instanceMethod Lib.objectInit ∈ mj_GW := mj_gw_in (by decide +kernel)
set_option maxRecDepth 100000 in
theorem mw_oc : Cond.code Lib.objectInit ⟨#[0xb1]⟩ 1 none ∈ mj_GW := mj_gw_in (by decide +kernel)
set_option maxRecDepth 100000 in
theorem mw_cl11_7 : Cond.classLink (mj_own.getD 11 "") 7 RX8 ∈ mj_GW := mj_gw_in (by decide +kernel)
set_option maxRecDepth 100000 in
theorem mw_in8 : Cond.instantiable RX8 3 ∈ mj_GW := mj_gw_in (by decide +kernel)
set_option maxRecDepth 100000 in
theorem mw_iz8 : Cond.initialized RX8 ∈ mj_GW := mj_gw_in (by decide +kernel)
set_option maxRecDepth 100000 in
theorem mw_ol8 : Cond.methodLink (mj_own.getD 8 "") 3 Lib.objectInit ∈ mj_GW := mj_gw_in (by decide +kernel)
set_option maxRecDepth 100000 in
theorem mw_ar0 : Cond.arrayClass (newarray.typeOf (mj_aty 0)) ∈ mj_GW := mj_gw_in (by decide +kernel)
set_option maxRecDepth 100000 in
theorem mw_l11_9 : Cond.methodLinkNest (mj_own.getD 11 "") 9 yX8_init "GunLine" ∈ mj_NW := List.mem_filter.mpr ⟨by decide +kernel, rfl⟩
set_option maxRecDepth 100000 in
theorem mw_cl11_16 : Cond.classLink (mj_own.getD 11 "") 16 RX6 ∈ mj_GW := mj_gw_in (by decide +kernel)
set_option maxRecDepth 100000 in
theorem mw_in6 : Cond.instantiable RX6 4 ∈ mj_GW := mj_gw_in (by decide +kernel)
set_option maxRecDepth 100000 in
theorem mw_iz6 : Cond.initialized RX6 ∈ mj_GW := mj_gw_in (by decide +kernel)
set_option maxRecDepth 100000 in
theorem mw_ol6 : Cond.methodLink (mj_own.getD 6 "") 5 Lib.objectInit ∈ mj_GW := mj_gw_in (by decide +kernel)
set_option maxRecDepth 100000 in
theorem mw_mc : Cond.classLink (mj_own.getD 6 "") 13 ("[" ++ (FieldType.array .int).toString) ∈ mj_GW := mj_gw_in (by decide +kernel)
set_option maxRecDepth 100000 in
theorem mw_mo : Cond.arrayOver (.array .int) ∈ mj_NW := List.mem_filter.mpr ⟨by decide +kernel, rfl⟩
set_option maxRecDepth 100000 in
theorem mw_l11_18 : Cond.methodLinkNest (mj_own.getD 11 "") 18 yX6_init "GunLine" ∈ mj_NW := List.mem_filter.mpr ⟨by decide +kernel, rfl⟩
set_option maxRecDepth 100000 in
theorem mw_cl11_23 : Cond.classLink (mj_own.getD 11 "") 23 RX10 ∈ mj_GW := mj_gw_in (by decide +kernel)
set_option maxRecDepth 100000 in
theorem mw_in10 : Cond.instantiable RX10 5 ∈ mj_GW := mj_gw_in (by decide +kernel)
set_option maxRecDepth 100000 in
theorem mw_iz10 : Cond.initialized RX10 ∈ mj_GW := mj_gw_in (by decide +kernel)
set_option maxRecDepth 100000 in
theorem mw_ol10 : Cond.methodLink (mj_own.getD 10 "") 3 Lib.objectInit ∈ mj_GW := mj_gw_in (by decide +kernel)
set_option maxRecDepth 100000 in
theorem mw_cl10_9 : Cond.classLink (mj_own.getD 10 "") 9 RX1 ∈ mj_GW := mj_gw_in (by decide +kernel)
set_option maxRecDepth 100000 in
theorem mw_in1 : Cond.instantiable RX1 1 ∈ mj_GW := mj_gw_in (by decide +kernel)
set_option maxRecDepth 100000 in
theorem mw_iz1 : Cond.initialized RX1 ∈ mj_GW := mj_gw_in (by decide +kernel)
set_option maxRecDepth 100000 in
theorem mw_ol1 : Cond.methodLink (mj_own.getD 1 "") 1 Lib.objectInit ∈ mj_GW := mj_gw_in (by decide +kernel)
set_option maxRecDepth 100000 in
theorem mw_l10_17 : Cond.methodLinkNest (mj_own.getD 10 "") 17 yX1_init "GunLine" ∈ mj_NW := List.mem_filter.mpr ⟨by decide +kernel, rfl⟩
set_option maxRecDepth 100000 in
theorem mw_cl10_22 : Cond.classLink (mj_own.getD 10 "") 22 RX3 ∈ mj_GW := mj_gw_in (by decide +kernel)
set_option maxRecDepth 100000 in
theorem mw_in3 : Cond.instantiable RX3 10 ∈ mj_GW := mj_gw_in (by decide +kernel)
set_option maxRecDepth 100000 in
theorem mw_iz3 : Cond.initialized RX3 ∈ mj_GW := mj_gw_in (by decide +kernel)
set_option maxRecDepth 100000 in
theorem mw_ol3 : Cond.methodLink (mj_own.getD 3 "") 3 Lib.objectInit ∈ mj_GW := mj_gw_in (by decide +kernel)
set_option maxRecDepth 100000 in
theorem mw_l10_24 : Cond.methodLinkNest (mj_own.getD 10 "") 24 yX3_init "GunLine" ∈ mj_NW := List.mem_filter.mpr ⟨by decide +kernel, rfl⟩
set_option maxRecDepth 100000 in
theorem mw_l11_25 : Cond.methodLink (mj_own.getD 11 "") 25 yX10_init ∈ mj_GW := mj_gw_in (by decide +kernel)
set_option maxRecDepth 100000 in
theorem mw_cl11_32 : Cond.classLink (mj_own.getD 11 "") 32 RX7 ∈ mj_GW := mj_gw_in (by decide +kernel)
set_option maxRecDepth 100000 in
theorem mw_in7 : Cond.instantiable RX7 3 ∈ mj_GW := mj_gw_in (by decide +kernel)
set_option maxRecDepth 100000 in
theorem mw_iz7 : Cond.initialized RX7 ∈ mj_GW := mj_gw_in (by decide +kernel)
set_option maxRecDepth 100000 in
theorem mw_ol7 : Cond.methodLink (mj_own.getD 7 "") 3 Lib.objectInit ∈ mj_GW := mj_gw_in (by decide +kernel)
set_option maxRecDepth 100000 in
theorem mw_l11_34 : Cond.methodLink (mj_own.getD 11 "") 34 yX7_init ∈ mj_GW := mj_gw_in (by decide +kernel)
set_option maxRecDepth 100000 in
theorem mw_cl11_39 : Cond.classLink (mj_own.getD 11 "") 39 RX1 ∈ mj_GW := mj_gw_in (by decide +kernel)
set_option maxRecDepth 100000 in
theorem mw_l11_41 : Cond.methodLinkNest (mj_own.getD 11 "") 41 yX1_init "GunLine" ∈ mj_NW := List.mem_filter.mpr ⟨by decide +kernel, rfl⟩
set_option maxRecDepth 100000 in
theorem mw_cl11_49 : Cond.classLink (mj_own.getD 11 "") 49 RX3 ∈ mj_GW := mj_gw_in (by decide +kernel)
set_option maxRecDepth 100000 in
theorem mw_l11_51 : Cond.methodLinkNest (mj_own.getD 11 "") 51 yX3_init "GunLine" ∈ mj_NW := List.mem_filter.mpr ⟨by decide +kernel, rfl⟩
set_option maxRecDepth 100000 in
theorem mw_cl11_68 : Cond.classLink (mj_own.getD 11 "") 68 RX4 ∈ mj_GW := mj_gw_in (by decide +kernel)
set_option maxRecDepth 100000 in
theorem mw_in4 : Cond.instantiable RX4 4 ∈ mj_GW := mj_gw_in (by decide +kernel)
set_option maxRecDepth 100000 in
theorem mw_iz4 : Cond.initialized RX4 ∈ mj_GW := mj_gw_in (by decide +kernel)
set_option maxRecDepth 100000 in
theorem mw_ol4 : Cond.methodLink (mj_own.getD 4 "") 3 Lib.objectInit ∈ mj_GW := mj_gw_in (by decide +kernel)
set_option maxRecDepth 100000 in
theorem mw_l11_70 : Cond.methodLink (mj_own.getD 11 "") 70 yX4_init ∈ mj_GW := mj_gw_in (by decide +kernel)
set_option maxRecDepth 100000 in
theorem mw_cl11_77 : Cond.classLink (mj_own.getD 11 "") 77 RX2 ∈ mj_GW := mj_gw_in (by decide +kernel)
set_option maxRecDepth 100000 in
theorem mw_in2 : Cond.instantiable RX2 1 ∈ mj_GW := mj_gw_in (by decide +kernel)
set_option maxRecDepth 100000 in
theorem mw_iz2 : Cond.initialized RX2 ∈ mj_GW := mj_gw_in (by decide +kernel)
set_option maxRecDepth 100000 in
theorem mw_ol2 : Cond.methodLink (mj_own.getD 2 "") 1 Lib.objectInit ∈ mj_GW := mj_gw_in (by decide +kernel)
set_option maxRecDepth 100000 in
theorem mw_l11_79 : Cond.methodLinkNest (mj_own.getD 11 "") 79 yX2_init "GunLine" ∈ mj_NW := List.mem_filter.mpr ⟨by decide +kernel, rfl⟩
set_option maxRecDepth 100000 in
theorem mw_cl11_84 : Cond.classLink (mj_own.getD 11 "") 84 RX0 ∈ mj_GW := mj_gw_in (by decide +kernel)
set_option maxRecDepth 100000 in
theorem mw_in0 : Cond.instantiable RX0 3 ∈ mj_GW := mj_gw_in (by decide +kernel)
set_option maxRecDepth 100000 in
theorem mw_iz0 : Cond.initialized RX0 ∈ mj_GW := mj_gw_in (by decide +kernel)
set_option maxRecDepth 100000 in
theorem mw_ol0 : Cond.methodLink (mj_own.getD 0 "") 1 Lib.objectInit ∈ mj_GW := mj_gw_in (by decide +kernel)
set_option maxRecDepth 100000 in
theorem mw_l11_86 : Cond.methodLinkNest (mj_own.getD 11 "") 86 yX0_init "GunLine" ∈ mj_NW := List.mem_filter.mpr ⟨by decide +kernel, rfl⟩
set_option maxRecDepth 100000 in
theorem mw_cl11_91 : Cond.classLink (mj_own.getD 11 "") 91 RX9 ∈ mj_GW := mj_gw_in (by decide +kernel)
set_option maxRecDepth 100000 in
theorem mw_in9 : Cond.instantiable RX9 5 ∈ mj_GW := mj_gw_in (by decide +kernel)
set_option maxRecDepth 100000 in
theorem mw_iz9 : Cond.initialized RX9 ∈ mj_GW := mj_gw_in (by decide +kernel)
set_option maxRecDepth 100000 in
theorem mw_ol9 : Cond.methodLink (mj_own.getD 9 "") 3 Lib.objectInit ∈ mj_GW := mj_gw_in (by decide +kernel)
set_option maxRecDepth 100000 in
theorem mw_l11_93 : Cond.methodLinkNest (mj_own.getD 11 "") 93 yX9_init "GunLine" ∈ mj_NW := List.mem_filter.mpr ⟨by decide +kernel, rfl⟩
set_option maxRecDepth 100000 in
theorem mw_cl11_98 : Cond.classLink (mj_own.getD 11 "") 98 RX5 ∈ mj_GW := mj_gw_in (by decide +kernel)
set_option maxRecDepth 100000 in
theorem mw_in5 : Cond.instantiable RX5 6 ∈ mj_GW := mj_gw_in (by decide +kernel)
set_option maxRecDepth 100000 in
theorem mw_iz5 : Cond.initialized RX5 ∈ mj_GW := mj_gw_in (by decide +kernel)
set_option maxRecDepth 100000 in
theorem mw_ol5 : Cond.methodLink (mj_own.getD 5 "") 3 Lib.objectInit ∈ mj_GW := mj_gw_in (by decide +kernel)
set_option maxRecDepth 100000 in
theorem mw_l11_100 : Cond.methodLinkNest (mj_own.getD 11 "") 100 yX5_init "GunLine" ∈ mj_NW := List.mem_filter.mpr ⟨by decide +kernel, rfl⟩
set_option maxRecDepth 100000 in
theorem mw_ol12 : Cond.methodLink (mj_own.getD 12 "") 3 Lib.objectInit ∈ mj_GW := mj_gw_in (by decide +kernel)
set_option maxRecDepth 100000 in
theorem mw_ar1 : Cond.arrayClass (newarray.typeOf (mj_aty 1)) ∈ mj_GW := mj_gw_in (by decide +kernel)
/-- references in the order of their making, the latest first; the memory when n cells and r references are made -/
def mR1 : List ((Nat × Nat) × Nat) := [((91, 43), 119), ((91, 41), 118), ((91, 39), 117), ((91, 38), 116), ((91, 37), 115), ((91, 36), 114), ((91, 35), 113), ((91, 34), 112), ((91, 33), 111), ((91, 30), 110), ((91, 29), 109), ((91, 28), 108), ((91, 27), 107), ((91, 23), 106), ((91, 21), 105), ((91, 20), 104), ((91, 18), 103), ((91, 17), 102), ((91, 16), 101), ((91, 15), 100), ((91, 12), 99), ((91, 11), 98), ((91, 10), 97), ((91, 9), 96), ((91, 8), 95), ((91, 7), 94), ((91, 6), 93), ((91, 1), 92), ((0, 15), 86), ((86, 3), 90), ((86, 2), 89), ((86, 1), 88), ((86, 0), 87), ((0, 14), 82), ((82, 2), 85), ((82, 1), 84), ((82, 0), 83), ((0, 13), 80), ((80, 0), 81), ((0, 12), 79), ((0, 11), 75), ((75, 0), 3), ((75, 3), 78), ((75, 2), 77), ((75, 1), 76), ((0, 10), 66), ((66, 7), 74), ((66, 6), 73), ((66, 5), 72), ((66, 4), 71), ((66, 3), 70), ((66, 2), 69), ((66, 1), 68), ((66, 0), 67), ((0, 9), 57), ((57, 7), 65), ((57, 6), 64), ((57, 5), 63), ((57, 4), 62), ((57, 3), 61), ((57, 2), 60), ((57, 1), 59), ((57, 0), 58), ((0, 8), 48), ((48, 7), 56), ((48, 6), 55), ((48, 5), 54), ((48, 4), 53), ((48, 3), 52), ((48, 2), 51), ((48, 1), 50), ((48, 0), 49), ((0, 7), 39), ((39, 7), 47), ((39, 6), 46), ((39, 5), 45), ((39, 4), 44), ((39, 3), 43), ((39, 2), 42), ((39, 1), 41), ((39, 0), 40), ((0, 6), 30), ((30, 7), 38), ((30, 6), 37), ((30, 5), 36), ((30, 4), 35), ((30, 3), 34), ((30, 2), 33), ((30, 1), 32), ((30, 0), 31), ((0, 5), 28), ((28, 0), 29), ((0, 4), 26), ((26, 0), 27), ((0, 3), 24), ((24, 0), 1), ((24, 1), 25), ((0, 2), 11), ((11, 0), 1), ((11, 4), 15), ((15, 7), 23), ((15, 6), 22), ((15, 5), 21), ((15, 4), 20), ((15, 3), 19), ((15, 2), 18), ((15, 1), 17), ((15, 0), 16), ((11, 3), 13), ((13, 0), 14), ((11, 1), 12), ((0, 1), 3), ((3, 2), 10), ((3, 1), 9), ((3, 0), 4), ((4, 0), 5), ((4, 1), 6), ((4, 2), 7), ((4, 3), 8), ((0, 0), 1), ((1, 0), 2)]
abbrev MM (n r : Nat) (I : Nat → Nat → Int32) : mj_M := (mS0.take n, mR1.drop (121 - r), I, fun _ _ => 0)
theorem mj_four (o : Nat) {S : List (Nat × Nat)} {R : List ((Nat × Nat) × Nat)} {I : (Nat → Nat → Int32) × (Nat → Nat → Int64)} (b : Nat) (h : ∀ b, R.lookup (o, b) = none := by exact fun _ => rfl) : mj_rf (S, (List.range 4).map (fun j => ((o, j), o + 1 + j)) ++ R, I) o b = if b < 4 then some (o + 1 + b) else none := by
  match b with
  | 0 => simp [mj_rf, List.range, List.range.loop, List.lookup]
  | 1 =>
    have h0 : ((o, 1) == (o, 0)) = false := by simp
    simp [mj_rf, List.range, List.range.loop, List.lookup, h0]
  | 2 =>
    have h0 : ((o, 2) == (o, 0)) = false := by simp
    have h1 : ((o, 2) == (o, 1)) = false := by simp
    simp [mj_rf, List.range, List.range.loop, List.lookup, h0, h1]
  | 3 =>
    have h0 : ((o, 3) == (o, 0)) = false := by simp
    have h1 : ((o, 3) == (o, 1)) = false := by simp
    have h2 : ((o, 3) == (o, 2)) = false := by simp
    simp [mj_rf, List.range, List.range.loop, List.lookup, h0, h1, h2]
  | b + 4 =>
    rw [if_neg (by omega)]
    have h1 : ((o, b + 4) == (o, 0)) = false := by simp
    have h2 : ((o, b + 4) == (o, 1)) = false := by simp
    have h3 : ((o, b + 4) == (o, 2)) = false := by simp
    have h4 : ((o, b + 4) == (o, 3)) = false := by simp
    simp only [mj_rf, List.range, List.range.loop, List.map_cons, List.map_nil, List.cons_append, List.nil_append, List.lookup_cons, h1, h2, h3, h4]
    exact h (b + 4)
theorem mj_four_ne (o : Nat) {S : List (Nat × Nat)} {R : List ((Nat × Nat) × Nat)} {I : (Nat → Nat → Int32) × (Nat → Nat → Int64)} {a b : Nat} (h : a ≠ o) : mj_rf (S, (List.range 4).map (fun j => ((o, j), o + 1 + j)) ++ R, I) a b = mj_rf (S, R, I) a b := by
  have h1 : ∀ j, ((a, b) == (o, j)) = false := fun j => by simp [h]
  simp only [mj_rf, List.range, List.range.loop, List.map_cons, List.map_nil, List.cons_append, List.nil_append, List.lookup_cons, h1]
set_option maxRecDepth 100000 in
set_option maxHeartbeats 4000000 in
theorem ctX8_init_1 (Ω : mj_Om) (l : Launch) : mj_Met Ω l true mX8_init 1 1 240 [.ref 1] (MM 2 0 (fun _ _ => 0)) (fun r M' => r = none ∧ M' = MM 3 1 (fun _ _ => 0)) := by
  refine mj_entry (by decide) rfl (fun _ => rfl) (by decide) ?_
  intro p e s m args below meth c F
  show mj_Wg _ _ _ _ _ _ _ _ _ _ _ _ _ 0 0 _ 0 (([some (.ref 1)], [], MM 2 0 (fun _ _ => 0)) : mj_S)
  refine mj_run_ok (pe := 1) (S := _) (K := fun S' => S' = (([some (.ref 1)], [.ref 1], MM 2 0 (fun _ _ => 0)) : mj_S)) F [.aload_n 0] ⟨mj_ade dX8_init 0 rfl, rfl⟩ (show (([some (.ref 1)], [.ref 1], MM 2 0 (fun _ _ => 0)) : mj_S) = ([some (.ref 1)], [.ref 1], MM 2 0 (fun _ _ => 0)) from rfl) (fun S' h => ?_)
  subst h
  refine mj_obj_ok F (mj_ade dX8_init 1 rfl) mw_ol8 mw_oi mw_oc (Nat.le_of_ble_eq_true rfl) (Nat.le_of_ble_eq_true rfl) ?_
  show mj_Wg _ _ _ _ _ _ _ _ _ _ _ _ _ 0 0 _ 4 (([some (.ref 1)], [], MM 2 0 (fun _ _ => 0)) : mj_S)
  refine mj_run_ok (pe := 8) (S := _) (K := fun S' => S' = (([some (.ref 1)], [.int 240, .ref 1], MM 2 0 (fun _ _ => 0)) : mj_S)) F [.aload_n 0, .sipush 240] ⟨mj_ade dX8_init 2 rfl, ⟨mj_ade dX8_init 3 rfl, rfl⟩⟩ (show (([some (.ref 1)], [.int 240, .ref 1], MM 2 0 (fun _ _ => 0)) : mj_S) = ([some (.ref 1)], [.int 240, .ref 1], MM 2 0 (fun _ _ => 0)) from rfl) (fun S' h => ?_)
  subst h
  refine mj_newa_ok (t := 0) (N := 240) F (by decide) (mj_ade dX8_init 4 rfl) mw_ar0 (by decide) (by decide) (by decide) (Nat.le_of_ble_eq_true rfl) (fun _ => rfl) (fun _ => rfl) (Nat.le_of_ble_eq_true rfl) (Nat.le_of_ble_eq_true rfl) ?_
  show mj_Wg _ _ _ _ _ _ _ _ _ _ _ _ _ 1 240 _ 10 (([some (.ref 1)], [.ref 2, .ref 1], MM 3 0 (fun _ _ => 0)) : mj_S)
  refine mj_run_ok (pe := 13) (S := _) (K := fun S' => S' = (([some (.ref 1)], [], MM 3 1 (fun _ _ => 0)) : mj_S)) F [.putfield 11] ⟨mj_ade dX8_init 5 rfl, rfl⟩ (show (([some (.ref 1)], [], MM 3 1 (fun _ _ => 0)) : mj_S) = ([some (.ref 1)], [], MM 3 1 (fun _ _ => 0)) from rfl) (fun S' h => ?_)
  subst h
  exact mj_ret_ok F (mj_ade dX8_init 6 rfl) ⟨rfl, rfl⟩
set_option maxRecDepth 100000 in
set_option maxHeartbeats 4000000 in
theorem ctX6_init_3 (Ω : mj_Om) (l : Launch) : mj_Met Ω l true mX6_init 1 7 1032 [.ref 3] (MM 4 2 (fun _ _ => 0)) (fun r M' => r = none ∧ M' = MM 11 9 (fun _ _ => 0)) := by
  refine mj_entry (by decide) rfl (fun _ => rfl) (by decide) ?_
  intro p e s m args below meth c F
  show mj_Wg _ _ _ _ _ _ _ _ _ _ _ _ _ 0 0 _ 0 (([some (.ref 3)], [], MM 4 2 (fun _ _ => 0)) : mj_S)
  refine mj_run_ok (pe := 1) (S := _) (K := fun S' => S' = (([some (.ref 3)], [.ref 3], MM 4 2 (fun _ _ => 0)) : mj_S)) F [.aload_n 0] ⟨mj_ade dX6_init 0 rfl, rfl⟩ (show (([some (.ref 3)], [.ref 3], MM 4 2 (fun _ _ => 0)) : mj_S) = ([some (.ref 3)], [.ref 3], MM 4 2 (fun _ _ => 0)) from rfl) (fun S' h => ?_)
  subst h
  refine mj_obj_ok F (mj_ade dX6_init 1 rfl) mw_ol6 mw_oi mw_oc (Nat.le_of_ble_eq_true rfl) (Nat.le_of_ble_eq_true rfl) ?_
  show mj_Wg _ _ _ _ _ _ _ _ _ _ _ _ _ 0 0 _ 4 (([some (.ref 3)], [], MM 4 2 (fun _ _ => 0)) : mj_S)
  refine mj_run_ok (pe := 9) (S := _) (K := fun S' => S' = (([some (.ref 3)], [.int 240, .int 4, .ref 3], MM 4 2 (fun _ _ => 0)) : mj_S)) F [.aload_n 0, .iconst 4, .sipush 240] ⟨mj_ade dX6_init 2 rfl, ⟨mj_ade dX6_init 3 rfl, ⟨mj_ade dX6_init 4 rfl, rfl⟩⟩⟩ (show (([some (.ref 3)], [.int 240, .int 4, .ref 3], MM 4 2 (fun _ _ => 0)) : mj_S) = ([some (.ref 3)], [.int 240, .int 4, .ref 3], MM 4 2 (fun _ _ => 0)) from rfl) (fun S' h => ?_)
  subst h
  refine mj_mna_ok (N := 4) (K := 240) F (mj_ade dX6_init 5 rfl) mw_mc mw_mo mw_ar0 (by decide) (by decide) (by decide) (by decide) (by decide) (by decide) (Nat.le_of_ble_eq_true rfl) (fun _ _ _ => rfl) (fun _ => rfl) (fun b => mj_four 4 b) (fun a b h => mj_four_ne 4 h) (Nat.le_of_ble_eq_true rfl) (Nat.le_of_ble_eq_true rfl) ?_
  show mj_Wg _ _ _ _ _ _ _ _ _ _ _ _ _ 5 964 _ 13 (([some (.ref 3)], [.ref 4, .ref 3], MM 9 6 (fun _ _ => 0)) : mj_S)
  refine mj_run_ok (pe := 18) (S := _) (K := fun S' => S' = (([some (.ref 3)], [.int 4, .ref 3], MM 9 7 (fun _ _ => 0)) : mj_S)) F [.putfield 15, .aload_n 0, .iconst 4] ⟨mj_ade dX6_init 6 rfl, ⟨mj_ade dX6_init 7 rfl, ⟨mj_ade dX6_init 8 rfl, rfl⟩⟩⟩ (show (([some (.ref 3)], [.int 4, .ref 3], MM 9 7 (fun _ _ => 0)) : mj_S) = ([some (.ref 3)], [.int 4, .ref 3], MM 9 7 (fun _ _ => 0)) from rfl) (fun S' h => ?_)
  subst h
  refine mj_newa_ok (t := 0) (N := 4) F (by decide) (mj_ade dX6_init 9 rfl) mw_ar0 (by decide) (by decide) (by decide) (Nat.le_of_ble_eq_true rfl) (fun _ => rfl) (fun _ => rfl) (Nat.le_of_ble_eq_true rfl) (Nat.le_of_ble_eq_true rfl) ?_
  show mj_Wg _ _ _ _ _ _ _ _ _ _ _ _ _ 6 968 _ 20 (([some (.ref 3)], [.ref 9, .ref 3], MM 10 7 (fun _ _ => 0)) : mj_S)
  refine mj_run_ok (pe := 26) (S := _) (K := fun S' => S' = (([some (.ref 3)], [.int 64, .ref 3], MM 10 8 (fun _ _ => 0)) : mj_S)) F [.putfield 18, .aload_n 0, .bipush 64] ⟨mj_ade dX6_init 10 rfl, ⟨mj_ade dX6_init 11 rfl, ⟨mj_ade dX6_init 12 rfl, rfl⟩⟩⟩ (show (([some (.ref 3)], [.int 64, .ref 3], MM 10 8 (fun _ _ => 0)) : mj_S) = ([some (.ref 3)], [.int 64, .ref 3], MM 10 8 (fun _ _ => 0)) from rfl) (fun S' h => ?_)
  subst h
  refine mj_newa_ok (t := 0) (N := 64) F (by decide) (mj_ade dX6_init 13 rfl) mw_ar0 (by decide) (by decide) (by decide) (Nat.le_of_ble_eq_true rfl) (fun _ => rfl) (fun _ => rfl) (Nat.le_of_ble_eq_true rfl) (Nat.le_of_ble_eq_true rfl) ?_
  show mj_Wg _ _ _ _ _ _ _ _ _ _ _ _ _ 7 1032 _ 28 (([some (.ref 3)], [.ref 10, .ref 3], MM 11 8 (fun _ _ => 0)) : mj_S)
  refine mj_run_ok (pe := 31) (S := _) (K := fun S' => S' = (([some (.ref 3)], [], MM 11 9 (fun _ _ => 0)) : mj_S)) F [.putfield 22] ⟨mj_ade dX6_init 14 rfl, rfl⟩ (show (([some (.ref 3)], [], MM 11 9 (fun _ _ => 0)) : mj_S) = ([some (.ref 3)], [], MM 11 9 (fun _ _ => 0)) from rfl) (fun S' h => ?_)
  subst h
  exact mj_ret_ok F (mj_ade dX6_init 15 rfl) ⟨rfl, rfl⟩
set_option maxRecDepth 100000 in
set_option maxHeartbeats 4000000 in
theorem ctX1_init_13 (Ω : mj_Om) (l : Launch) : mj_Met Ω l true mX1_init 1 1 7 [.ref 13] (MM 14 11 (fun _ _ => 0)) (fun r M' => r = none ∧ M' = MM 15 12 (fun _ _ => 0)) := by
  refine mj_entry (by decide) rfl (fun _ => rfl) (by decide) ?_
  intro p e s m args below meth c F
  show mj_Wg _ _ _ _ _ _ _ _ _ _ _ _ _ 0 0 _ 0 (([some (.ref 13)], [], MM 14 11 (fun _ _ => 0)) : mj_S)
  refine mj_run_ok (pe := 1) (S := _) (K := fun S' => S' = (([some (.ref 13)], [.ref 13], MM 14 11 (fun _ _ => 0)) : mj_S)) F [.aload_n 0] ⟨mj_ade dX1_init 0 rfl, rfl⟩ (show (([some (.ref 13)], [.ref 13], MM 14 11 (fun _ _ => 0)) : mj_S) = ([some (.ref 13)], [.ref 13], MM 14 11 (fun _ _ => 0)) from rfl) (fun S' h => ?_)
  subst h
  refine mj_obj_ok F (mj_ade dX1_init 1 rfl) mw_ol1 mw_oi mw_oc (Nat.le_of_ble_eq_true rfl) (Nat.le_of_ble_eq_true rfl) ?_
  show mj_Wg _ _ _ _ _ _ _ _ _ _ _ _ _ 0 0 _ 4 (([some (.ref 13)], [], MM 14 11 (fun _ _ => 0)) : mj_S)
  refine mj_run_ok (pe := 7) (S := _) (K := fun S' => S' = (([some (.ref 13)], [.int 7, .ref 13], MM 14 11 (fun _ _ => 0)) : mj_S)) F [.aload_n 0, .bipush 7] ⟨mj_ade dX1_init 2 rfl, ⟨mj_ade dX1_init 3 rfl, rfl⟩⟩ (show (([some (.ref 13)], [.int 7, .ref 13], MM 14 11 (fun _ _ => 0)) : mj_S) = ([some (.ref 13)], [.int 7, .ref 13], MM 14 11 (fun _ _ => 0)) from rfl) (fun S' h => ?_)
  subst h
  refine mj_newa_ok (t := 0) (N := 7) F (by decide) (mj_ade dX1_init 4 rfl) mw_ar0 (by decide) (by decide) (by decide) (Nat.le_of_ble_eq_true rfl) (fun _ => rfl) (fun _ => rfl) (Nat.le_of_ble_eq_true rfl) (Nat.le_of_ble_eq_true rfl) ?_
  show mj_Wg _ _ _ _ _ _ _ _ _ _ _ _ _ 1 7 _ 9 (([some (.ref 13)], [.ref 14, .ref 13], MM 15 11 (fun _ _ => 0)) : mj_S)
  refine mj_run_ok (pe := 12) (S := _) (K := fun S' => S' = (([some (.ref 13)], [], MM 15 12 (fun _ _ => 0)) : mj_S)) F [.putfield 9] ⟨mj_ade dX1_init 5 rfl, rfl⟩ (show (([some (.ref 13)], [], MM 15 12 (fun _ _ => 0)) : mj_S) = ([some (.ref 13)], [], MM 15 12 (fun _ _ => 0)) from rfl) (fun S' h => ?_)
  subst h
  exact mj_ret_ok F (mj_ade dX1_init 6 rfl) ⟨rfl, rfl⟩
set_option maxRecDepth 100000 in
set_option maxHeartbeats 4000000 in
theorem ctX3_init_15 (Ω : mj_Om) (l : Launch) : mj_Met Ω l true mX3_init 1 8 64 [.ref 15] (MM 16 13 (fun _ _ => 0)) (fun r M' => r = none ∧ M' = MM 24 21 (fun _ _ => 0)) := by
  refine mj_entry (by decide) rfl (fun _ => rfl) (by decide) ?_
  intro p e s m args below meth c F
  show mj_Wg _ _ _ _ _ _ _ _ _ _ _ _ _ 0 0 _ 0 (([some (.ref 15)], [], MM 16 13 (fun _ _ => 0)) : mj_S)
  refine mj_run_ok (pe := 1) (S := _) (K := fun S' => S' = (([some (.ref 15)], [.ref 15], MM 16 13 (fun _ _ => 0)) : mj_S)) F [.aload_n 0] ⟨mj_ade dX3_init 0 rfl, rfl⟩ (show (([some (.ref 15)], [.ref 15], MM 16 13 (fun _ _ => 0)) : mj_S) = ([some (.ref 15)], [.ref 15], MM 16 13 (fun _ _ => 0)) from rfl) (fun S' h => ?_)
  subst h
  refine mj_obj_ok F (mj_ade dX3_init 1 rfl) mw_ol3 mw_oi mw_oc (Nat.le_of_ble_eq_true rfl) (Nat.le_of_ble_eq_true rfl) ?_
  show mj_Wg _ _ _ _ _ _ _ _ _ _ _ _ _ 0 0 _ 4 (([some (.ref 15)], [], MM 16 13 (fun _ _ => 0)) : mj_S)
  refine mj_run_ok (pe := 7) (S := _) (K := fun S' => S' = (([some (.ref 15)], [.int 8, .ref 15], MM 16 13 (fun _ _ => 0)) : mj_S)) F [.aload_n 0, .bipush 8] ⟨mj_ade dX3_init 2 rfl, ⟨mj_ade dX3_init 3 rfl, rfl⟩⟩ (show (([some (.ref 15)], [.int 8, .ref 15], MM 16 13 (fun _ _ => 0)) : mj_S) = ([some (.ref 15)], [.int 8, .ref 15], MM 16 13 (fun _ _ => 0)) from rfl) (fun S' h => ?_)
  subst h
  refine mj_newa_ok (t := 0) (N := 8) F (by decide) (mj_ade dX3_init 4 rfl) mw_ar0 (by decide) (by decide) (by decide) (Nat.le_of_ble_eq_true rfl) (fun _ => rfl) (fun _ => rfl) (Nat.le_of_ble_eq_true rfl) (Nat.le_of_ble_eq_true rfl) ?_
  show mj_Wg _ _ _ _ _ _ _ _ _ _ _ _ _ 1 8 _ 9 (([some (.ref 15)], [.ref 16, .ref 15], MM 17 13 (fun _ _ => 0)) : mj_S)
  refine mj_run_ok (pe := 15) (S := _) (K := fun S' => S' = (([some (.ref 15)], [.int 8, .ref 15], MM 17 14 (fun _ _ => 0)) : mj_S)) F [.putfield 9, .aload_n 0, .bipush 8] ⟨mj_ade dX3_init 5 rfl, ⟨mj_ade dX3_init 6 rfl, ⟨mj_ade dX3_init 7 rfl, rfl⟩⟩⟩ (show (([some (.ref 15)], [.int 8, .ref 15], MM 17 14 (fun _ _ => 0)) : mj_S) = ([some (.ref 15)], [.int 8, .ref 15], MM 17 14 (fun _ _ => 0)) from rfl) (fun S' h => ?_)
  subst h
  refine mj_newa_ok (t := 0) (N := 8) F (by decide) (mj_ade dX3_init 8 rfl) mw_ar0 (by decide) (by decide) (by decide) (Nat.le_of_ble_eq_true rfl) (fun _ => rfl) (fun _ => rfl) (Nat.le_of_ble_eq_true rfl) (Nat.le_of_ble_eq_true rfl) ?_
  show mj_Wg _ _ _ _ _ _ _ _ _ _ _ _ _ 2 16 _ 17 (([some (.ref 15)], [.ref 17, .ref 15], MM 18 14 (fun _ _ => 0)) : mj_S)
  refine mj_run_ok (pe := 23) (S := _) (K := fun S' => S' = (([some (.ref 15)], [.int 8, .ref 15], MM 18 15 (fun _ _ => 0)) : mj_S)) F [.putfield 15, .aload_n 0, .bipush 8] ⟨mj_ade dX3_init 9 rfl, ⟨mj_ade dX3_init 10 rfl, ⟨mj_ade dX3_init 11 rfl, rfl⟩⟩⟩ (show (([some (.ref 15)], [.int 8, .ref 15], MM 18 15 (fun _ _ => 0)) : mj_S) = ([some (.ref 15)], [.int 8, .ref 15], MM 18 15 (fun _ _ => 0)) from rfl) (fun S' h => ?_)
  subst h
  refine mj_newa_ok (t := 0) (N := 8) F (by decide) (mj_ade dX3_init 12 rfl) mw_ar0 (by decide) (by decide) (by decide) (Nat.le_of_ble_eq_true rfl) (fun _ => rfl) (fun _ => rfl) (Nat.le_of_ble_eq_true rfl) (Nat.le_of_ble_eq_true rfl) ?_
  show mj_Wg _ _ _ _ _ _ _ _ _ _ _ _ _ 3 24 _ 25 (([some (.ref 15)], [.ref 18, .ref 15], MM 19 15 (fun _ _ => 0)) : mj_S)
  refine mj_run_ok (pe := 31) (S := _) (K := fun S' => S' = (([some (.ref 15)], [.int 8, .ref 15], MM 19 16 (fun _ _ => 0)) : mj_S)) F [.putfield 18, .aload_n 0, .bipush 8] ⟨mj_ade dX3_init 13 rfl, ⟨mj_ade dX3_init 14 rfl, ⟨mj_ade dX3_init 15 rfl, rfl⟩⟩⟩ (show (([some (.ref 15)], [.int 8, .ref 15], MM 19 16 (fun _ _ => 0)) : mj_S) = ([some (.ref 15)], [.int 8, .ref 15], MM 19 16 (fun _ _ => 0)) from rfl) (fun S' h => ?_)
  subst h
  refine mj_newa_ok (t := 0) (N := 8) F (by decide) (mj_ade dX3_init 16 rfl) mw_ar0 (by decide) (by decide) (by decide) (Nat.le_of_ble_eq_true rfl) (fun _ => rfl) (fun _ => rfl) (Nat.le_of_ble_eq_true rfl) (Nat.le_of_ble_eq_true rfl) ?_
  show mj_Wg _ _ _ _ _ _ _ _ _ _ _ _ _ 4 32 _ 33 (([some (.ref 15)], [.ref 19, .ref 15], MM 20 16 (fun _ _ => 0)) : mj_S)
  refine mj_run_ok (pe := 39) (S := _) (K := fun S' => S' = (([some (.ref 15)], [.int 8, .ref 15], MM 20 17 (fun _ _ => 0)) : mj_S)) F [.putfield 21, .aload_n 0, .bipush 8] ⟨mj_ade dX3_init 17 rfl, ⟨mj_ade dX3_init 18 rfl, ⟨mj_ade dX3_init 19 rfl, rfl⟩⟩⟩ (show (([some (.ref 15)], [.int 8, .ref 15], MM 20 17 (fun _ _ => 0)) : mj_S) = ([some (.ref 15)], [.int 8, .ref 15], MM 20 17 (fun _ _ => 0)) from rfl) (fun S' h => ?_)
  subst h
  refine mj_newa_ok (t := 0) (N := 8) F (by decide) (mj_ade dX3_init 20 rfl) mw_ar0 (by decide) (by decide) (by decide) (Nat.le_of_ble_eq_true rfl) (fun _ => rfl) (fun _ => rfl) (Nat.le_of_ble_eq_true rfl) (Nat.le_of_ble_eq_true rfl) ?_
  show mj_Wg _ _ _ _ _ _ _ _ _ _ _ _ _ 5 40 _ 41 (([some (.ref 15)], [.ref 20, .ref 15], MM 21 17 (fun _ _ => 0)) : mj_S)
  refine mj_run_ok (pe := 47) (S := _) (K := fun S' => S' = (([some (.ref 15)], [.int 8, .ref 15], MM 21 18 (fun _ _ => 0)) : mj_S)) F [.putfield 24, .aload_n 0, .bipush 8] ⟨mj_ade dX3_init 21 rfl, ⟨mj_ade dX3_init 22 rfl, ⟨mj_ade dX3_init 23 rfl, rfl⟩⟩⟩ (show (([some (.ref 15)], [.int 8, .ref 15], MM 21 18 (fun _ _ => 0)) : mj_S) = ([some (.ref 15)], [.int 8, .ref 15], MM 21 18 (fun _ _ => 0)) from rfl) (fun S' h => ?_)
  subst h
  refine mj_newa_ok (t := 0) (N := 8) F (by decide) (mj_ade dX3_init 24 rfl) mw_ar0 (by decide) (by decide) (by decide) (Nat.le_of_ble_eq_true rfl) (fun _ => rfl) (fun _ => rfl) (Nat.le_of_ble_eq_true rfl) (Nat.le_of_ble_eq_true rfl) ?_
  show mj_Wg _ _ _ _ _ _ _ _ _ _ _ _ _ 6 48 _ 49 (([some (.ref 15)], [.ref 21, .ref 15], MM 22 18 (fun _ _ => 0)) : mj_S)
  refine mj_run_ok (pe := 55) (S := _) (K := fun S' => S' = (([some (.ref 15)], [.int 8, .ref 15], MM 22 19 (fun _ _ => 0)) : mj_S)) F [.putfield 27, .aload_n 0, .bipush 8] ⟨mj_ade dX3_init 25 rfl, ⟨mj_ade dX3_init 26 rfl, ⟨mj_ade dX3_init 27 rfl, rfl⟩⟩⟩ (show (([some (.ref 15)], [.int 8, .ref 15], MM 22 19 (fun _ _ => 0)) : mj_S) = ([some (.ref 15)], [.int 8, .ref 15], MM 22 19 (fun _ _ => 0)) from rfl) (fun S' h => ?_)
  subst h
  refine mj_newa_ok (t := 0) (N := 8) F (by decide) (mj_ade dX3_init 28 rfl) mw_ar0 (by decide) (by decide) (by decide) (Nat.le_of_ble_eq_true rfl) (fun _ => rfl) (fun _ => rfl) (Nat.le_of_ble_eq_true rfl) (Nat.le_of_ble_eq_true rfl) ?_
  show mj_Wg _ _ _ _ _ _ _ _ _ _ _ _ _ 7 56 _ 57 (([some (.ref 15)], [.ref 22, .ref 15], MM 23 19 (fun _ _ => 0)) : mj_S)
  refine mj_run_ok (pe := 63) (S := _) (K := fun S' => S' = (([some (.ref 15)], [.int 8, .ref 15], MM 23 20 (fun _ _ => 0)) : mj_S)) F [.putfield 30, .aload_n 0, .bipush 8] ⟨mj_ade dX3_init 29 rfl, ⟨mj_ade dX3_init 30 rfl, ⟨mj_ade dX3_init 31 rfl, rfl⟩⟩⟩ (show (([some (.ref 15)], [.int 8, .ref 15], MM 23 20 (fun _ _ => 0)) : mj_S) = ([some (.ref 15)], [.int 8, .ref 15], MM 23 20 (fun _ _ => 0)) from rfl) (fun S' h => ?_)
  subst h
  refine mj_newa_ok (t := 0) (N := 8) F (by decide) (mj_ade dX3_init 32 rfl) mw_ar0 (by decide) (by decide) (by decide) (Nat.le_of_ble_eq_true rfl) (fun _ => rfl) (fun _ => rfl) (Nat.le_of_ble_eq_true rfl) (Nat.le_of_ble_eq_true rfl) ?_
  show mj_Wg _ _ _ _ _ _ _ _ _ _ _ _ _ 8 64 _ 65 (([some (.ref 15)], [.ref 23, .ref 15], MM 24 20 (fun _ _ => 0)) : mj_S)
  refine mj_run_ok (pe := 68) (S := _) (K := fun S' => S' = (([some (.ref 15)], [], MM 24 21 (fun _ _ => 0)) : mj_S)) F [.putfield 33] ⟨mj_ade dX3_init 33 rfl, rfl⟩ (show (([some (.ref 15)], [], MM 24 21 (fun _ _ => 0)) : mj_S) = ([some (.ref 15)], [], MM 24 21 (fun _ _ => 0)) from rfl) (fun S' h => ?_)
  subst h
  exact mj_ret_ok F (mj_ade dX3_init 34 rfl) ⟨rfl, rfl⟩
set_option maxRecDepth 100000 in
set_option maxHeartbeats 4000000 in
theorem ctX10_init_11 (Ω : mj_Om) (l : Launch) : mj_Met Ω l true mX10_init 2 12 89 [.ref 11, .ref 1] (MM 12 10 (fun _ _ => 0)) (fun r M' => r = none ∧ M' = MM 24 23 (fun _ _ => 0)) := by
  refine mj_entry (by decide) rfl (fun _ => rfl) (by decide) ?_
  intro p e s m args below meth c F
  show mj_Wg _ _ _ _ _ _ _ _ _ _ _ _ _ 0 0 _ 0 (([some (.ref 11), some (.ref 1)], [], MM 12 10 (fun _ _ => 0)) : mj_S)
  refine mj_run_ok (pe := 1) (S := _) (K := fun S' => S' = (([some (.ref 11), some (.ref 1)], [.ref 11], MM 12 10 (fun _ _ => 0)) : mj_S)) F [.aload_n 0] ⟨mj_ade dX10_init 0 rfl, rfl⟩ (show (([some (.ref 11), some (.ref 1)], [.ref 11], MM 12 10 (fun _ _ => 0)) : mj_S) = ([some (.ref 11), some (.ref 1)], [.ref 11], MM 12 10 (fun _ _ => 0)) from rfl) (fun S' h => ?_)
  subst h
  refine mj_obj_ok F (mj_ade dX10_init 1 rfl) mw_ol10 mw_oi mw_oc (Nat.le_of_ble_eq_true rfl) (Nat.le_of_ble_eq_true rfl) ?_
  show mj_Wg _ _ _ _ _ _ _ _ _ _ _ _ _ 0 0 _ 4 (([some (.ref 11), some (.ref 1)], [], MM 12 10 (fun _ _ => 0)) : mj_S)
  refine mj_run_ok (pe := 7) (S := _) (K := fun S' => S' = (([some (.ref 11), some (.ref 1)], [.int 7, .ref 11], MM 12 10 (fun _ _ => 0)) : mj_S)) F [.aload_n 0, .bipush 7] ⟨mj_ade dX10_init 2 rfl, ⟨mj_ade dX10_init 3 rfl, rfl⟩⟩ (show (([some (.ref 11), some (.ref 1)], [.int 7, .ref 11], MM 12 10 (fun _ _ => 0)) : mj_S) = ([some (.ref 11), some (.ref 1)], [.int 7, .ref 11], MM 12 10 (fun _ _ => 0)) from rfl) (fun S' h => ?_)
  subst h
  refine mj_newa_ok (t := 0) (N := 7) F (by decide) (mj_ade dX10_init 4 rfl) mw_ar0 (by decide) (by decide) (by decide) (Nat.le_of_ble_eq_true rfl) (fun _ => rfl) (fun _ => rfl) (Nat.le_of_ble_eq_true rfl) (Nat.le_of_ble_eq_true rfl) ?_
  show mj_Wg _ _ _ _ _ _ _ _ _ _ _ _ _ 1 7 _ 9 (([some (.ref 11), some (.ref 1)], [.ref 12, .ref 11], MM 13 10 (fun _ _ => 0)) : mj_S)
  refine mj_run_ok (pe := 13) (S := _) (K := fun S' => S' = (([some (.ref 11), some (.ref 1)], [.ref 11], MM 13 11 (fun _ _ => 0)) : mj_S)) F [.putfield 11, .aload_n 0] ⟨mj_ade dX10_init 5 rfl, ⟨mj_ade dX10_init 6 rfl, rfl⟩⟩ (show (([some (.ref 11), some (.ref 1)], [.ref 11], MM 13 11 (fun _ _ => 0)) : mj_S) = ([some (.ref 11), some (.ref 1)], [.ref 11], MM 13 11 (fun _ _ => 0)) from rfl) (fun S' h => ?_)
  subst h
  refine mj_new_ok (ci := 1) (q := (RX1, TX1, 1)) F (mj_ade dX10_init 7 rfl) rfl mw_cl10_9 mw_in1 mw_iz1 (Nat.le_of_ble_eq_true rfl) (fun _ => rfl) (fun _ => rfl) (fun _ => rfl) (Nat.le_of_ble_eq_true rfl) (Nat.le_of_ble_eq_true rfl) ?_
  show mj_Wg _ _ _ _ _ _ _ _ _ _ _ _ _ 2 8 _ 16 (([some (.ref 11), some (.ref 1)], [.ref 13, .ref 11], MM 14 11 (fun _ _ => 0)) : mj_S)
  refine mj_run_ok (pe := 17) (S := _) (K := fun S' => S' = (([some (.ref 11), some (.ref 1)], [.ref 13, .ref 13, .ref 11], MM 14 11 (fun _ _ => 0)) : mj_S)) F [.dup] ⟨mj_ade dX10_init 8 rfl, rfl⟩ (show (([some (.ref 11), some (.ref 1)], [.ref 13, .ref 13, .ref 11], MM 14 11 (fun _ _ => 0)) : mj_S) = ([some (.ref 11), some (.ref 1)], [.ref 13, .ref 13, .ref 11], MM 14 11 (fun _ _ => 0)) from rfl) (fun S' h => ?_)
  subst h
  refine mj_ctor_ok (d' := 1) (n := 0) (as := []) (a := 13) (host := "GunLine") F (mj_ade dX10_init 9 rfl) (ctX1_init_13 Ω l) fX1_init rfl rfl iX1_init (by decide +kernel) rfl (Or.inr mw_l10_17) ⟨Nat.le_of_ble_eq_true rfl, Nat.le_of_ble_eq_true rfl⟩ ⟨Nat.le_of_ble_eq_true rfl, Nat.le_of_ble_eq_true rfl⟩ (Nat.le_of_ble_eq_true rfl) (fun r M' h => ?_)
  obtain ⟨rfl, rfl⟩ := h
  show mj_Wg _ _ _ _ _ _ _ _ _ _ _ _ _ 3 15 _ 20 (([some (.ref 11), some (.ref 1)], [.ref 13, .ref 11], MM 15 12 (fun _ _ => 0)) : mj_S)
  refine mj_run_ok (pe := 24) (S := _) (K := fun S' => S' = (([some (.ref 11), some (.ref 1)], [.ref 11], MM 15 13 (fun _ _ => 0)) : mj_S)) F [.putfield 18, .aload_n 0] ⟨mj_ade dX10_init 10 rfl, ⟨mj_ade dX10_init 11 rfl, rfl⟩⟩ (show (([some (.ref 11), some (.ref 1)], [.ref 11], MM 15 13 (fun _ _ => 0)) : mj_S) = ([some (.ref 11), some (.ref 1)], [.ref 11], MM 15 13 (fun _ _ => 0)) from rfl) (fun S' h => ?_)
  subst h
  refine mj_new_ok (ci := 3) (q := (RX3, TX3, 10)) F (mj_ade dX10_init 12 rfl) rfl mw_cl10_22 mw_in3 mw_iz3 (Nat.le_of_ble_eq_true rfl) (fun _ => rfl) (fun _ => rfl) (fun _ => rfl) (Nat.le_of_ble_eq_true rfl) (Nat.le_of_ble_eq_true rfl) ?_
  show mj_Wg _ _ _ _ _ _ _ _ _ _ _ _ _ 4 25 _ 27 (([some (.ref 11), some (.ref 1)], [.ref 15, .ref 11], MM 16 13 (fun _ _ => 0)) : mj_S)
  refine mj_run_ok (pe := 28) (S := _) (K := fun S' => S' = (([some (.ref 11), some (.ref 1)], [.ref 15, .ref 15, .ref 11], MM 16 13 (fun _ _ => 0)) : mj_S)) F [.dup] ⟨mj_ade dX10_init 13 rfl, rfl⟩ (show (([some (.ref 11), some (.ref 1)], [.ref 15, .ref 15, .ref 11], MM 16 13 (fun _ _ => 0)) : mj_S) = ([some (.ref 11), some (.ref 1)], [.ref 15, .ref 15, .ref 11], MM 16 13 (fun _ _ => 0)) from rfl) (fun S' h => ?_)
  subst h
  refine mj_ctor_ok (d' := 1) (n := 0) (as := []) (a := 15) (host := "GunLine") F (mj_ade dX10_init 14 rfl) (ctX3_init_15 Ω l) fX3_init rfl rfl iX3_init (by decide +kernel) rfl (Or.inr mw_l10_24) ⟨Nat.le_of_ble_eq_true rfl, Nat.le_of_ble_eq_true rfl⟩ ⟨Nat.le_of_ble_eq_true rfl, Nat.le_of_ble_eq_true rfl⟩ (Nat.le_of_ble_eq_true rfl) (fun r M' h => ?_)
  obtain ⟨rfl, rfl⟩ := h
  show mj_Wg _ _ _ _ _ _ _ _ _ _ _ _ _ 12 89 _ 31 (([some (.ref 11), some (.ref 1)], [.ref 15, .ref 11], MM 24 21 (fun _ _ => 0)) : mj_S)
  refine mj_run_ok (pe := 39) (S := _) (K := fun S' => S' = (([some (.ref 11), some (.ref 1)], [], MM 24 23 (fun _ _ => 0)) : mj_S)) F [.putfield 25, .aload_n 0, .aload_n 1, .putfield 29] ⟨mj_ade dX10_init 15 rfl, ⟨mj_ade dX10_init 16 rfl, ⟨mj_ade dX10_init 17 rfl, ⟨mj_ade dX10_init 18 rfl, rfl⟩⟩⟩⟩ (show (([some (.ref 11), some (.ref 1)], [], MM 24 23 (fun _ _ => 0)) : mj_S) = ([some (.ref 11), some (.ref 1)], [], MM 24 23 (fun _ _ => 0)) from rfl) (fun S' h => ?_)
  subst h
  exact mj_ret_ok F (mj_ade dX10_init 19 rfl) ⟨rfl, rfl⟩
set_option maxRecDepth 100000 in
set_option maxHeartbeats 4000000 in
theorem ctX7_init_24 (Ω : mj_Om) (l : Launch) : mj_Met Ω l true mX7_init 1 1 240 [.ref 24, .ref 1] (MM 25 24 (fun _ _ => 0)) (fun r M' => r = none ∧ M' = MM 26 26 (fun _ _ => 0)) := by
  refine mj_entry (by decide) rfl (fun _ => rfl) (by decide) ?_
  intro p e s m args below meth c F
  show mj_Wg _ _ _ _ _ _ _ _ _ _ _ _ _ 0 0 _ 0 (([some (.ref 24), some (.ref 1)], [], MM 25 24 (fun _ _ => 0)) : mj_S)
  refine mj_run_ok (pe := 1) (S := _) (K := fun S' => S' = (([some (.ref 24), some (.ref 1)], [.ref 24], MM 25 24 (fun _ _ => 0)) : mj_S)) F [.aload_n 0] ⟨mj_ade dX7_init 0 rfl, rfl⟩ (show (([some (.ref 24), some (.ref 1)], [.ref 24], MM 25 24 (fun _ _ => 0)) : mj_S) = ([some (.ref 24), some (.ref 1)], [.ref 24], MM 25 24 (fun _ _ => 0)) from rfl) (fun S' h => ?_)
  subst h
  refine mj_obj_ok F (mj_ade dX7_init 1 rfl) mw_ol7 mw_oi mw_oc (Nat.le_of_ble_eq_true rfl) (Nat.le_of_ble_eq_true rfl) ?_
  show mj_Wg _ _ _ _ _ _ _ _ _ _ _ _ _ 0 0 _ 4 (([some (.ref 24), some (.ref 1)], [], MM 25 24 (fun _ _ => 0)) : mj_S)
  refine mj_run_ok (pe := 8) (S := _) (K := fun S' => S' = (([some (.ref 24), some (.ref 1)], [.int 240, .ref 24], MM 25 24 (fun _ _ => 0)) : mj_S)) F [.aload_n 0, .sipush 240] ⟨mj_ade dX7_init 2 rfl, ⟨mj_ade dX7_init 3 rfl, rfl⟩⟩ (show (([some (.ref 24), some (.ref 1)], [.int 240, .ref 24], MM 25 24 (fun _ _ => 0)) : mj_S) = ([some (.ref 24), some (.ref 1)], [.int 240, .ref 24], MM 25 24 (fun _ _ => 0)) from rfl) (fun S' h => ?_)
  subst h
  refine mj_newa_ok (t := 0) (N := 240) F (by decide) (mj_ade dX7_init 4 rfl) mw_ar0 (by decide) (by decide) (by decide) (Nat.le_of_ble_eq_true rfl) (fun _ => rfl) (fun _ => rfl) (Nat.le_of_ble_eq_true rfl) (Nat.le_of_ble_eq_true rfl) ?_
  show mj_Wg _ _ _ _ _ _ _ _ _ _ _ _ _ 1 240 _ 10 (([some (.ref 24), some (.ref 1)], [.ref 25, .ref 24], MM 26 24 (fun _ _ => 0)) : mj_S)
  refine mj_run_ok (pe := 18) (S := _) (K := fun S' => S' = (([some (.ref 24), some (.ref 1)], [], MM 26 26 (fun _ _ => 0)) : mj_S)) F [.putfield 11, .aload_n 0, .aload_n 1, .putfield 17] ⟨mj_ade dX7_init 5 rfl, ⟨mj_ade dX7_init 6 rfl, ⟨mj_ade dX7_init 7 rfl, ⟨mj_ade dX7_init 8 rfl, rfl⟩⟩⟩⟩ (show (([some (.ref 24), some (.ref 1)], [], MM 26 26 (fun _ _ => 0)) : mj_S) = ([some (.ref 24), some (.ref 1)], [], MM 26 26 (fun _ _ => 0)) from rfl) (fun S' h => ?_)
  subst h
  exact mj_ret_ok F (mj_ade dX7_init 9 rfl) ⟨rfl, rfl⟩
set_option maxRecDepth 100000 in
set_option maxHeartbeats 4000000 in
theorem ctX1_init_26 (Ω : mj_Om) (l : Launch) : mj_Met Ω l true mX1_init 1 1 7 [.ref 26] (MM 27 27 (fun _ _ => 0)) (fun r M' => r = none ∧ M' = MM 28 28 (fun _ _ => 0)) := by
  refine mj_entry (by decide) rfl (fun _ => rfl) (by decide) ?_
  intro p e s m args below meth c F
  show mj_Wg _ _ _ _ _ _ _ _ _ _ _ _ _ 0 0 _ 0 (([some (.ref 26)], [], MM 27 27 (fun _ _ => 0)) : mj_S)
  refine mj_run_ok (pe := 1) (S := _) (K := fun S' => S' = (([some (.ref 26)], [.ref 26], MM 27 27 (fun _ _ => 0)) : mj_S)) F [.aload_n 0] ⟨mj_ade dX1_init 0 rfl, rfl⟩ (show (([some (.ref 26)], [.ref 26], MM 27 27 (fun _ _ => 0)) : mj_S) = ([some (.ref 26)], [.ref 26], MM 27 27 (fun _ _ => 0)) from rfl) (fun S' h => ?_)
  subst h
  refine mj_obj_ok F (mj_ade dX1_init 1 rfl) mw_ol1 mw_oi mw_oc (Nat.le_of_ble_eq_true rfl) (Nat.le_of_ble_eq_true rfl) ?_
  show mj_Wg _ _ _ _ _ _ _ _ _ _ _ _ _ 0 0 _ 4 (([some (.ref 26)], [], MM 27 27 (fun _ _ => 0)) : mj_S)
  refine mj_run_ok (pe := 7) (S := _) (K := fun S' => S' = (([some (.ref 26)], [.int 7, .ref 26], MM 27 27 (fun _ _ => 0)) : mj_S)) F [.aload_n 0, .bipush 7] ⟨mj_ade dX1_init 2 rfl, ⟨mj_ade dX1_init 3 rfl, rfl⟩⟩ (show (([some (.ref 26)], [.int 7, .ref 26], MM 27 27 (fun _ _ => 0)) : mj_S) = ([some (.ref 26)], [.int 7, .ref 26], MM 27 27 (fun _ _ => 0)) from rfl) (fun S' h => ?_)
  subst h
  refine mj_newa_ok (t := 0) (N := 7) F (by decide) (mj_ade dX1_init 4 rfl) mw_ar0 (by decide) (by decide) (by decide) (Nat.le_of_ble_eq_true rfl) (fun _ => rfl) (fun _ => rfl) (Nat.le_of_ble_eq_true rfl) (Nat.le_of_ble_eq_true rfl) ?_
  show mj_Wg _ _ _ _ _ _ _ _ _ _ _ _ _ 1 7 _ 9 (([some (.ref 26)], [.ref 27, .ref 26], MM 28 27 (fun _ _ => 0)) : mj_S)
  refine mj_run_ok (pe := 12) (S := _) (K := fun S' => S' = (([some (.ref 26)], [], MM 28 28 (fun _ _ => 0)) : mj_S)) F [.putfield 9] ⟨mj_ade dX1_init 5 rfl, rfl⟩ (show (([some (.ref 26)], [], MM 28 28 (fun _ _ => 0)) : mj_S) = ([some (.ref 26)], [], MM 28 28 (fun _ _ => 0)) from rfl) (fun S' h => ?_)
  subst h
  exact mj_ret_ok F (mj_ade dX1_init 6 rfl) ⟨rfl, rfl⟩
set_option maxRecDepth 100000 in
set_option maxHeartbeats 4000000 in
theorem ctX1_init_28 (Ω : mj_Om) (l : Launch) : mj_Met Ω l true mX1_init 1 1 7 [.ref 28] (MM 29 29 (fun _ _ => 0)) (fun r M' => r = none ∧ M' = MM 30 30 (fun _ _ => 0)) := by
  refine mj_entry (by decide) rfl (fun _ => rfl) (by decide) ?_
  intro p e s m args below meth c F
  show mj_Wg _ _ _ _ _ _ _ _ _ _ _ _ _ 0 0 _ 0 (([some (.ref 28)], [], MM 29 29 (fun _ _ => 0)) : mj_S)
  refine mj_run_ok (pe := 1) (S := _) (K := fun S' => S' = (([some (.ref 28)], [.ref 28], MM 29 29 (fun _ _ => 0)) : mj_S)) F [.aload_n 0] ⟨mj_ade dX1_init 0 rfl, rfl⟩ (show (([some (.ref 28)], [.ref 28], MM 29 29 (fun _ _ => 0)) : mj_S) = ([some (.ref 28)], [.ref 28], MM 29 29 (fun _ _ => 0)) from rfl) (fun S' h => ?_)
  subst h
  refine mj_obj_ok F (mj_ade dX1_init 1 rfl) mw_ol1 mw_oi mw_oc (Nat.le_of_ble_eq_true rfl) (Nat.le_of_ble_eq_true rfl) ?_
  show mj_Wg _ _ _ _ _ _ _ _ _ _ _ _ _ 0 0 _ 4 (([some (.ref 28)], [], MM 29 29 (fun _ _ => 0)) : mj_S)
  refine mj_run_ok (pe := 7) (S := _) (K := fun S' => S' = (([some (.ref 28)], [.int 7, .ref 28], MM 29 29 (fun _ _ => 0)) : mj_S)) F [.aload_n 0, .bipush 7] ⟨mj_ade dX1_init 2 rfl, ⟨mj_ade dX1_init 3 rfl, rfl⟩⟩ (show (([some (.ref 28)], [.int 7, .ref 28], MM 29 29 (fun _ _ => 0)) : mj_S) = ([some (.ref 28)], [.int 7, .ref 28], MM 29 29 (fun _ _ => 0)) from rfl) (fun S' h => ?_)
  subst h
  refine mj_newa_ok (t := 0) (N := 7) F (by decide) (mj_ade dX1_init 4 rfl) mw_ar0 (by decide) (by decide) (by decide) (Nat.le_of_ble_eq_true rfl) (fun _ => rfl) (fun _ => rfl) (Nat.le_of_ble_eq_true rfl) (Nat.le_of_ble_eq_true rfl) ?_
  show mj_Wg _ _ _ _ _ _ _ _ _ _ _ _ _ 1 7 _ 9 (([some (.ref 28)], [.ref 29, .ref 28], MM 30 29 (fun _ _ => 0)) : mj_S)
  refine mj_run_ok (pe := 12) (S := _) (K := fun S' => S' = (([some (.ref 28)], [], MM 30 30 (fun _ _ => 0)) : mj_S)) F [.putfield 9] ⟨mj_ade dX1_init 5 rfl, rfl⟩ (show (([some (.ref 28)], [], MM 30 30 (fun _ _ => 0)) : mj_S) = ([some (.ref 28)], [], MM 30 30 (fun _ _ => 0)) from rfl) (fun S' h => ?_)
  subst h
  exact mj_ret_ok F (mj_ade dX1_init 6 rfl) ⟨rfl, rfl⟩
set_option maxRecDepth 100000 in
set_option maxHeartbeats 4000000 in
theorem ctX3_init_30 (Ω : mj_Om) (l : Launch) : mj_Met Ω l true mX3_init 1 8 64 [.ref 30] (MM 31 31 (fun _ _ => 0)) (fun r M' => r = none ∧ M' = MM 39 39 (fun _ _ => 0)) := by
  refine mj_entry (by decide) rfl (fun _ => rfl) (by decide) ?_
  intro p e s m args below meth c F
  show mj_Wg _ _ _ _ _ _ _ _ _ _ _ _ _ 0 0 _ 0 (([some (.ref 30)], [], MM 31 31 (fun _ _ => 0)) : mj_S)
  refine mj_run_ok (pe := 1) (S := _) (K := fun S' => S' = (([some (.ref 30)], [.ref 30], MM 31 31 (fun _ _ => 0)) : mj_S)) F [.aload_n 0] ⟨mj_ade dX3_init 0 rfl, rfl⟩ (show (([some (.ref 30)], [.ref 30], MM 31 31 (fun _ _ => 0)) : mj_S) = ([some (.ref 30)], [.ref 30], MM 31 31 (fun _ _ => 0)) from rfl) (fun S' h => ?_)
  subst h
  refine mj_obj_ok F (mj_ade dX3_init 1 rfl) mw_ol3 mw_oi mw_oc (Nat.le_of_ble_eq_true rfl) (Nat.le_of_ble_eq_true rfl) ?_
  show mj_Wg _ _ _ _ _ _ _ _ _ _ _ _ _ 0 0 _ 4 (([some (.ref 30)], [], MM 31 31 (fun _ _ => 0)) : mj_S)
  refine mj_run_ok (pe := 7) (S := _) (K := fun S' => S' = (([some (.ref 30)], [.int 8, .ref 30], MM 31 31 (fun _ _ => 0)) : mj_S)) F [.aload_n 0, .bipush 8] ⟨mj_ade dX3_init 2 rfl, ⟨mj_ade dX3_init 3 rfl, rfl⟩⟩ (show (([some (.ref 30)], [.int 8, .ref 30], MM 31 31 (fun _ _ => 0)) : mj_S) = ([some (.ref 30)], [.int 8, .ref 30], MM 31 31 (fun _ _ => 0)) from rfl) (fun S' h => ?_)
  subst h
  refine mj_newa_ok (t := 0) (N := 8) F (by decide) (mj_ade dX3_init 4 rfl) mw_ar0 (by decide) (by decide) (by decide) (Nat.le_of_ble_eq_true rfl) (fun _ => rfl) (fun _ => rfl) (Nat.le_of_ble_eq_true rfl) (Nat.le_of_ble_eq_true rfl) ?_
  show mj_Wg _ _ _ _ _ _ _ _ _ _ _ _ _ 1 8 _ 9 (([some (.ref 30)], [.ref 31, .ref 30], MM 32 31 (fun _ _ => 0)) : mj_S)
  refine mj_run_ok (pe := 15) (S := _) (K := fun S' => S' = (([some (.ref 30)], [.int 8, .ref 30], MM 32 32 (fun _ _ => 0)) : mj_S)) F [.putfield 9, .aload_n 0, .bipush 8] ⟨mj_ade dX3_init 5 rfl, ⟨mj_ade dX3_init 6 rfl, ⟨mj_ade dX3_init 7 rfl, rfl⟩⟩⟩ (show (([some (.ref 30)], [.int 8, .ref 30], MM 32 32 (fun _ _ => 0)) : mj_S) = ([some (.ref 30)], [.int 8, .ref 30], MM 32 32 (fun _ _ => 0)) from rfl) (fun S' h => ?_)
  subst h
  refine mj_newa_ok (t := 0) (N := 8) F (by decide) (mj_ade dX3_init 8 rfl) mw_ar0 (by decide) (by decide) (by decide) (Nat.le_of_ble_eq_true rfl) (fun _ => rfl) (fun _ => rfl) (Nat.le_of_ble_eq_true rfl) (Nat.le_of_ble_eq_true rfl) ?_
  show mj_Wg _ _ _ _ _ _ _ _ _ _ _ _ _ 2 16 _ 17 (([some (.ref 30)], [.ref 32, .ref 30], MM 33 32 (fun _ _ => 0)) : mj_S)
  refine mj_run_ok (pe := 23) (S := _) (K := fun S' => S' = (([some (.ref 30)], [.int 8, .ref 30], MM 33 33 (fun _ _ => 0)) : mj_S)) F [.putfield 15, .aload_n 0, .bipush 8] ⟨mj_ade dX3_init 9 rfl, ⟨mj_ade dX3_init 10 rfl, ⟨mj_ade dX3_init 11 rfl, rfl⟩⟩⟩ (show (([some (.ref 30)], [.int 8, .ref 30], MM 33 33 (fun _ _ => 0)) : mj_S) = ([some (.ref 30)], [.int 8, .ref 30], MM 33 33 (fun _ _ => 0)) from rfl) (fun S' h => ?_)
  subst h
  refine mj_newa_ok (t := 0) (N := 8) F (by decide) (mj_ade dX3_init 12 rfl) mw_ar0 (by decide) (by decide) (by decide) (Nat.le_of_ble_eq_true rfl) (fun _ => rfl) (fun _ => rfl) (Nat.le_of_ble_eq_true rfl) (Nat.le_of_ble_eq_true rfl) ?_
  show mj_Wg _ _ _ _ _ _ _ _ _ _ _ _ _ 3 24 _ 25 (([some (.ref 30)], [.ref 33, .ref 30], MM 34 33 (fun _ _ => 0)) : mj_S)
  refine mj_run_ok (pe := 31) (S := _) (K := fun S' => S' = (([some (.ref 30)], [.int 8, .ref 30], MM 34 34 (fun _ _ => 0)) : mj_S)) F [.putfield 18, .aload_n 0, .bipush 8] ⟨mj_ade dX3_init 13 rfl, ⟨mj_ade dX3_init 14 rfl, ⟨mj_ade dX3_init 15 rfl, rfl⟩⟩⟩ (show (([some (.ref 30)], [.int 8, .ref 30], MM 34 34 (fun _ _ => 0)) : mj_S) = ([some (.ref 30)], [.int 8, .ref 30], MM 34 34 (fun _ _ => 0)) from rfl) (fun S' h => ?_)
  subst h
  refine mj_newa_ok (t := 0) (N := 8) F (by decide) (mj_ade dX3_init 16 rfl) mw_ar0 (by decide) (by decide) (by decide) (Nat.le_of_ble_eq_true rfl) (fun _ => rfl) (fun _ => rfl) (Nat.le_of_ble_eq_true rfl) (Nat.le_of_ble_eq_true rfl) ?_
  show mj_Wg _ _ _ _ _ _ _ _ _ _ _ _ _ 4 32 _ 33 (([some (.ref 30)], [.ref 34, .ref 30], MM 35 34 (fun _ _ => 0)) : mj_S)
  refine mj_run_ok (pe := 39) (S := _) (K := fun S' => S' = (([some (.ref 30)], [.int 8, .ref 30], MM 35 35 (fun _ _ => 0)) : mj_S)) F [.putfield 21, .aload_n 0, .bipush 8] ⟨mj_ade dX3_init 17 rfl, ⟨mj_ade dX3_init 18 rfl, ⟨mj_ade dX3_init 19 rfl, rfl⟩⟩⟩ (show (([some (.ref 30)], [.int 8, .ref 30], MM 35 35 (fun _ _ => 0)) : mj_S) = ([some (.ref 30)], [.int 8, .ref 30], MM 35 35 (fun _ _ => 0)) from rfl) (fun S' h => ?_)
  subst h
  refine mj_newa_ok (t := 0) (N := 8) F (by decide) (mj_ade dX3_init 20 rfl) mw_ar0 (by decide) (by decide) (by decide) (Nat.le_of_ble_eq_true rfl) (fun _ => rfl) (fun _ => rfl) (Nat.le_of_ble_eq_true rfl) (Nat.le_of_ble_eq_true rfl) ?_
  show mj_Wg _ _ _ _ _ _ _ _ _ _ _ _ _ 5 40 _ 41 (([some (.ref 30)], [.ref 35, .ref 30], MM 36 35 (fun _ _ => 0)) : mj_S)
  refine mj_run_ok (pe := 47) (S := _) (K := fun S' => S' = (([some (.ref 30)], [.int 8, .ref 30], MM 36 36 (fun _ _ => 0)) : mj_S)) F [.putfield 24, .aload_n 0, .bipush 8] ⟨mj_ade dX3_init 21 rfl, ⟨mj_ade dX3_init 22 rfl, ⟨mj_ade dX3_init 23 rfl, rfl⟩⟩⟩ (show (([some (.ref 30)], [.int 8, .ref 30], MM 36 36 (fun _ _ => 0)) : mj_S) = ([some (.ref 30)], [.int 8, .ref 30], MM 36 36 (fun _ _ => 0)) from rfl) (fun S' h => ?_)
  subst h
  refine mj_newa_ok (t := 0) (N := 8) F (by decide) (mj_ade dX3_init 24 rfl) mw_ar0 (by decide) (by decide) (by decide) (Nat.le_of_ble_eq_true rfl) (fun _ => rfl) (fun _ => rfl) (Nat.le_of_ble_eq_true rfl) (Nat.le_of_ble_eq_true rfl) ?_
  show mj_Wg _ _ _ _ _ _ _ _ _ _ _ _ _ 6 48 _ 49 (([some (.ref 30)], [.ref 36, .ref 30], MM 37 36 (fun _ _ => 0)) : mj_S)
  refine mj_run_ok (pe := 55) (S := _) (K := fun S' => S' = (([some (.ref 30)], [.int 8, .ref 30], MM 37 37 (fun _ _ => 0)) : mj_S)) F [.putfield 27, .aload_n 0, .bipush 8] ⟨mj_ade dX3_init 25 rfl, ⟨mj_ade dX3_init 26 rfl, ⟨mj_ade dX3_init 27 rfl, rfl⟩⟩⟩ (show (([some (.ref 30)], [.int 8, .ref 30], MM 37 37 (fun _ _ => 0)) : mj_S) = ([some (.ref 30)], [.int 8, .ref 30], MM 37 37 (fun _ _ => 0)) from rfl) (fun S' h => ?_)
  subst h
  refine mj_newa_ok (t := 0) (N := 8) F (by decide) (mj_ade dX3_init 28 rfl) mw_ar0 (by decide) (by decide) (by decide) (Nat.le_of_ble_eq_true rfl) (fun _ => rfl) (fun _ => rfl) (Nat.le_of_ble_eq_true rfl) (Nat.le_of_ble_eq_true rfl) ?_
  show mj_Wg _ _ _ _ _ _ _ _ _ _ _ _ _ 7 56 _ 57 (([some (.ref 30)], [.ref 37, .ref 30], MM 38 37 (fun _ _ => 0)) : mj_S)
  refine mj_run_ok (pe := 63) (S := _) (K := fun S' => S' = (([some (.ref 30)], [.int 8, .ref 30], MM 38 38 (fun _ _ => 0)) : mj_S)) F [.putfield 30, .aload_n 0, .bipush 8] ⟨mj_ade dX3_init 29 rfl, ⟨mj_ade dX3_init 30 rfl, ⟨mj_ade dX3_init 31 rfl, rfl⟩⟩⟩ (show (([some (.ref 30)], [.int 8, .ref 30], MM 38 38 (fun _ _ => 0)) : mj_S) = ([some (.ref 30)], [.int 8, .ref 30], MM 38 38 (fun _ _ => 0)) from rfl) (fun S' h => ?_)
  subst h
  refine mj_newa_ok (t := 0) (N := 8) F (by decide) (mj_ade dX3_init 32 rfl) mw_ar0 (by decide) (by decide) (by decide) (Nat.le_of_ble_eq_true rfl) (fun _ => rfl) (fun _ => rfl) (Nat.le_of_ble_eq_true rfl) (Nat.le_of_ble_eq_true rfl) ?_
  show mj_Wg _ _ _ _ _ _ _ _ _ _ _ _ _ 8 64 _ 65 (([some (.ref 30)], [.ref 38, .ref 30], MM 39 38 (fun _ _ => 0)) : mj_S)
  refine mj_run_ok (pe := 68) (S := _) (K := fun S' => S' = (([some (.ref 30)], [], MM 39 39 (fun _ _ => 0)) : mj_S)) F [.putfield 33] ⟨mj_ade dX3_init 33 rfl, rfl⟩ (show (([some (.ref 30)], [], MM 39 39 (fun _ _ => 0)) : mj_S) = ([some (.ref 30)], [], MM 39 39 (fun _ _ => 0)) from rfl) (fun S' h => ?_)
  subst h
  exact mj_ret_ok F (mj_ade dX3_init 34 rfl) ⟨rfl, rfl⟩
set_option maxRecDepth 100000 in
set_option maxHeartbeats 4000000 in
theorem ctX3_init_39 (Ω : mj_Om) (l : Launch) : mj_Met Ω l true mX3_init 1 8 64 [.ref 39] (MM 40 40 (fun _ _ => 0)) (fun r M' => r = none ∧ M' = MM 48 48 (fun _ _ => 0)) := by
  refine mj_entry (by decide) rfl (fun _ => rfl) (by decide) ?_
  intro p e s m args below meth c F
  show mj_Wg _ _ _ _ _ _ _ _ _ _ _ _ _ 0 0 _ 0 (([some (.ref 39)], [], MM 40 40 (fun _ _ => 0)) : mj_S)
  refine mj_run_ok (pe := 1) (S := _) (K := fun S' => S' = (([some (.ref 39)], [.ref 39], MM 40 40 (fun _ _ => 0)) : mj_S)) F [.aload_n 0] ⟨mj_ade dX3_init 0 rfl, rfl⟩ (show (([some (.ref 39)], [.ref 39], MM 40 40 (fun _ _ => 0)) : mj_S) = ([some (.ref 39)], [.ref 39], MM 40 40 (fun _ _ => 0)) from rfl) (fun S' h => ?_)
  subst h
  refine mj_obj_ok F (mj_ade dX3_init 1 rfl) mw_ol3 mw_oi mw_oc (Nat.le_of_ble_eq_true rfl) (Nat.le_of_ble_eq_true rfl) ?_
  show mj_Wg _ _ _ _ _ _ _ _ _ _ _ _ _ 0 0 _ 4 (([some (.ref 39)], [], MM 40 40 (fun _ _ => 0)) : mj_S)
  refine mj_run_ok (pe := 7) (S := _) (K := fun S' => S' = (([some (.ref 39)], [.int 8, .ref 39], MM 40 40 (fun _ _ => 0)) : mj_S)) F [.aload_n 0, .bipush 8] ⟨mj_ade dX3_init 2 rfl, ⟨mj_ade dX3_init 3 rfl, rfl⟩⟩ (show (([some (.ref 39)], [.int 8, .ref 39], MM 40 40 (fun _ _ => 0)) : mj_S) = ([some (.ref 39)], [.int 8, .ref 39], MM 40 40 (fun _ _ => 0)) from rfl) (fun S' h => ?_)
  subst h
  refine mj_newa_ok (t := 0) (N := 8) F (by decide) (mj_ade dX3_init 4 rfl) mw_ar0 (by decide) (by decide) (by decide) (Nat.le_of_ble_eq_true rfl) (fun _ => rfl) (fun _ => rfl) (Nat.le_of_ble_eq_true rfl) (Nat.le_of_ble_eq_true rfl) ?_
  show mj_Wg _ _ _ _ _ _ _ _ _ _ _ _ _ 1 8 _ 9 (([some (.ref 39)], [.ref 40, .ref 39], MM 41 40 (fun _ _ => 0)) : mj_S)
  refine mj_run_ok (pe := 15) (S := _) (K := fun S' => S' = (([some (.ref 39)], [.int 8, .ref 39], MM 41 41 (fun _ _ => 0)) : mj_S)) F [.putfield 9, .aload_n 0, .bipush 8] ⟨mj_ade dX3_init 5 rfl, ⟨mj_ade dX3_init 6 rfl, ⟨mj_ade dX3_init 7 rfl, rfl⟩⟩⟩ (show (([some (.ref 39)], [.int 8, .ref 39], MM 41 41 (fun _ _ => 0)) : mj_S) = ([some (.ref 39)], [.int 8, .ref 39], MM 41 41 (fun _ _ => 0)) from rfl) (fun S' h => ?_)
  subst h
  refine mj_newa_ok (t := 0) (N := 8) F (by decide) (mj_ade dX3_init 8 rfl) mw_ar0 (by decide) (by decide) (by decide) (Nat.le_of_ble_eq_true rfl) (fun _ => rfl) (fun _ => rfl) (Nat.le_of_ble_eq_true rfl) (Nat.le_of_ble_eq_true rfl) ?_
  show mj_Wg _ _ _ _ _ _ _ _ _ _ _ _ _ 2 16 _ 17 (([some (.ref 39)], [.ref 41, .ref 39], MM 42 41 (fun _ _ => 0)) : mj_S)
  refine mj_run_ok (pe := 23) (S := _) (K := fun S' => S' = (([some (.ref 39)], [.int 8, .ref 39], MM 42 42 (fun _ _ => 0)) : mj_S)) F [.putfield 15, .aload_n 0, .bipush 8] ⟨mj_ade dX3_init 9 rfl, ⟨mj_ade dX3_init 10 rfl, ⟨mj_ade dX3_init 11 rfl, rfl⟩⟩⟩ (show (([some (.ref 39)], [.int 8, .ref 39], MM 42 42 (fun _ _ => 0)) : mj_S) = ([some (.ref 39)], [.int 8, .ref 39], MM 42 42 (fun _ _ => 0)) from rfl) (fun S' h => ?_)
  subst h
  refine mj_newa_ok (t := 0) (N := 8) F (by decide) (mj_ade dX3_init 12 rfl) mw_ar0 (by decide) (by decide) (by decide) (Nat.le_of_ble_eq_true rfl) (fun _ => rfl) (fun _ => rfl) (Nat.le_of_ble_eq_true rfl) (Nat.le_of_ble_eq_true rfl) ?_
  show mj_Wg _ _ _ _ _ _ _ _ _ _ _ _ _ 3 24 _ 25 (([some (.ref 39)], [.ref 42, .ref 39], MM 43 42 (fun _ _ => 0)) : mj_S)
  refine mj_run_ok (pe := 31) (S := _) (K := fun S' => S' = (([some (.ref 39)], [.int 8, .ref 39], MM 43 43 (fun _ _ => 0)) : mj_S)) F [.putfield 18, .aload_n 0, .bipush 8] ⟨mj_ade dX3_init 13 rfl, ⟨mj_ade dX3_init 14 rfl, ⟨mj_ade dX3_init 15 rfl, rfl⟩⟩⟩ (show (([some (.ref 39)], [.int 8, .ref 39], MM 43 43 (fun _ _ => 0)) : mj_S) = ([some (.ref 39)], [.int 8, .ref 39], MM 43 43 (fun _ _ => 0)) from rfl) (fun S' h => ?_)
  subst h
  refine mj_newa_ok (t := 0) (N := 8) F (by decide) (mj_ade dX3_init 16 rfl) mw_ar0 (by decide) (by decide) (by decide) (Nat.le_of_ble_eq_true rfl) (fun _ => rfl) (fun _ => rfl) (Nat.le_of_ble_eq_true rfl) (Nat.le_of_ble_eq_true rfl) ?_
  show mj_Wg _ _ _ _ _ _ _ _ _ _ _ _ _ 4 32 _ 33 (([some (.ref 39)], [.ref 43, .ref 39], MM 44 43 (fun _ _ => 0)) : mj_S)
  refine mj_run_ok (pe := 39) (S := _) (K := fun S' => S' = (([some (.ref 39)], [.int 8, .ref 39], MM 44 44 (fun _ _ => 0)) : mj_S)) F [.putfield 21, .aload_n 0, .bipush 8] ⟨mj_ade dX3_init 17 rfl, ⟨mj_ade dX3_init 18 rfl, ⟨mj_ade dX3_init 19 rfl, rfl⟩⟩⟩ (show (([some (.ref 39)], [.int 8, .ref 39], MM 44 44 (fun _ _ => 0)) : mj_S) = ([some (.ref 39)], [.int 8, .ref 39], MM 44 44 (fun _ _ => 0)) from rfl) (fun S' h => ?_)
  subst h
  refine mj_newa_ok (t := 0) (N := 8) F (by decide) (mj_ade dX3_init 20 rfl) mw_ar0 (by decide) (by decide) (by decide) (Nat.le_of_ble_eq_true rfl) (fun _ => rfl) (fun _ => rfl) (Nat.le_of_ble_eq_true rfl) (Nat.le_of_ble_eq_true rfl) ?_
  show mj_Wg _ _ _ _ _ _ _ _ _ _ _ _ _ 5 40 _ 41 (([some (.ref 39)], [.ref 44, .ref 39], MM 45 44 (fun _ _ => 0)) : mj_S)
  refine mj_run_ok (pe := 47) (S := _) (K := fun S' => S' = (([some (.ref 39)], [.int 8, .ref 39], MM 45 45 (fun _ _ => 0)) : mj_S)) F [.putfield 24, .aload_n 0, .bipush 8] ⟨mj_ade dX3_init 21 rfl, ⟨mj_ade dX3_init 22 rfl, ⟨mj_ade dX3_init 23 rfl, rfl⟩⟩⟩ (show (([some (.ref 39)], [.int 8, .ref 39], MM 45 45 (fun _ _ => 0)) : mj_S) = ([some (.ref 39)], [.int 8, .ref 39], MM 45 45 (fun _ _ => 0)) from rfl) (fun S' h => ?_)
  subst h
  refine mj_newa_ok (t := 0) (N := 8) F (by decide) (mj_ade dX3_init 24 rfl) mw_ar0 (by decide) (by decide) (by decide) (Nat.le_of_ble_eq_true rfl) (fun _ => rfl) (fun _ => rfl) (Nat.le_of_ble_eq_true rfl) (Nat.le_of_ble_eq_true rfl) ?_
  show mj_Wg _ _ _ _ _ _ _ _ _ _ _ _ _ 6 48 _ 49 (([some (.ref 39)], [.ref 45, .ref 39], MM 46 45 (fun _ _ => 0)) : mj_S)
  refine mj_run_ok (pe := 55) (S := _) (K := fun S' => S' = (([some (.ref 39)], [.int 8, .ref 39], MM 46 46 (fun _ _ => 0)) : mj_S)) F [.putfield 27, .aload_n 0, .bipush 8] ⟨mj_ade dX3_init 25 rfl, ⟨mj_ade dX3_init 26 rfl, ⟨mj_ade dX3_init 27 rfl, rfl⟩⟩⟩ (show (([some (.ref 39)], [.int 8, .ref 39], MM 46 46 (fun _ _ => 0)) : mj_S) = ([some (.ref 39)], [.int 8, .ref 39], MM 46 46 (fun _ _ => 0)) from rfl) (fun S' h => ?_)
  subst h
  refine mj_newa_ok (t := 0) (N := 8) F (by decide) (mj_ade dX3_init 28 rfl) mw_ar0 (by decide) (by decide) (by decide) (Nat.le_of_ble_eq_true rfl) (fun _ => rfl) (fun _ => rfl) (Nat.le_of_ble_eq_true rfl) (Nat.le_of_ble_eq_true rfl) ?_
  show mj_Wg _ _ _ _ _ _ _ _ _ _ _ _ _ 7 56 _ 57 (([some (.ref 39)], [.ref 46, .ref 39], MM 47 46 (fun _ _ => 0)) : mj_S)
  refine mj_run_ok (pe := 63) (S := _) (K := fun S' => S' = (([some (.ref 39)], [.int 8, .ref 39], MM 47 47 (fun _ _ => 0)) : mj_S)) F [.putfield 30, .aload_n 0, .bipush 8] ⟨mj_ade dX3_init 29 rfl, ⟨mj_ade dX3_init 30 rfl, ⟨mj_ade dX3_init 31 rfl, rfl⟩⟩⟩ (show (([some (.ref 39)], [.int 8, .ref 39], MM 47 47 (fun _ _ => 0)) : mj_S) = ([some (.ref 39)], [.int 8, .ref 39], MM 47 47 (fun _ _ => 0)) from rfl) (fun S' h => ?_)
  subst h
  refine mj_newa_ok (t := 0) (N := 8) F (by decide) (mj_ade dX3_init 32 rfl) mw_ar0 (by decide) (by decide) (by decide) (Nat.le_of_ble_eq_true rfl) (fun _ => rfl) (fun _ => rfl) (Nat.le_of_ble_eq_true rfl) (Nat.le_of_ble_eq_true rfl) ?_
  show mj_Wg _ _ _ _ _ _ _ _ _ _ _ _ _ 8 64 _ 65 (([some (.ref 39)], [.ref 47, .ref 39], MM 48 47 (fun _ _ => 0)) : mj_S)
  refine mj_run_ok (pe := 68) (S := _) (K := fun S' => S' = (([some (.ref 39)], [], MM 48 48 (fun _ _ => 0)) : mj_S)) F [.putfield 33] ⟨mj_ade dX3_init 33 rfl, rfl⟩ (show (([some (.ref 39)], [], MM 48 48 (fun _ _ => 0)) : mj_S) = ([some (.ref 39)], [], MM 48 48 (fun _ _ => 0)) from rfl) (fun S' h => ?_)
  subst h
  exact mj_ret_ok F (mj_ade dX3_init 34 rfl) ⟨rfl, rfl⟩
set_option maxRecDepth 100000 in
set_option maxHeartbeats 4000000 in
theorem ctX3_init_48 (Ω : mj_Om) (l : Launch) : mj_Met Ω l true mX3_init 1 8 64 [.ref 48] (MM 49 49 (fun _ _ => 0)) (fun r M' => r = none ∧ M' = MM 57 57 (fun _ _ => 0)) := by
  refine mj_entry (by decide) rfl (fun _ => rfl) (by decide) ?_
  intro p e s m args below meth c F
  show mj_Wg _ _ _ _ _ _ _ _ _ _ _ _ _ 0 0 _ 0 (([some (.ref 48)], [], MM 49 49 (fun _ _ => 0)) : mj_S)
  refine mj_run_ok (pe := 1) (S := _) (K := fun S' => S' = (([some (.ref 48)], [.ref 48], MM 49 49 (fun _ _ => 0)) : mj_S)) F [.aload_n 0] ⟨mj_ade dX3_init 0 rfl, rfl⟩ (show (([some (.ref 48)], [.ref 48], MM 49 49 (fun _ _ => 0)) : mj_S) = ([some (.ref 48)], [.ref 48], MM 49 49 (fun _ _ => 0)) from rfl) (fun S' h => ?_)
  subst h
  refine mj_obj_ok F (mj_ade dX3_init 1 rfl) mw_ol3 mw_oi mw_oc (Nat.le_of_ble_eq_true rfl) (Nat.le_of_ble_eq_true rfl) ?_
  show mj_Wg _ _ _ _ _ _ _ _ _ _ _ _ _ 0 0 _ 4 (([some (.ref 48)], [], MM 49 49 (fun _ _ => 0)) : mj_S)
  refine mj_run_ok (pe := 7) (S := _) (K := fun S' => S' = (([some (.ref 48)], [.int 8, .ref 48], MM 49 49 (fun _ _ => 0)) : mj_S)) F [.aload_n 0, .bipush 8] ⟨mj_ade dX3_init 2 rfl, ⟨mj_ade dX3_init 3 rfl, rfl⟩⟩ (show (([some (.ref 48)], [.int 8, .ref 48], MM 49 49 (fun _ _ => 0)) : mj_S) = ([some (.ref 48)], [.int 8, .ref 48], MM 49 49 (fun _ _ => 0)) from rfl) (fun S' h => ?_)
  subst h
  refine mj_newa_ok (t := 0) (N := 8) F (by decide) (mj_ade dX3_init 4 rfl) mw_ar0 (by decide) (by decide) (by decide) (Nat.le_of_ble_eq_true rfl) (fun _ => rfl) (fun _ => rfl) (Nat.le_of_ble_eq_true rfl) (Nat.le_of_ble_eq_true rfl) ?_
  show mj_Wg _ _ _ _ _ _ _ _ _ _ _ _ _ 1 8 _ 9 (([some (.ref 48)], [.ref 49, .ref 48], MM 50 49 (fun _ _ => 0)) : mj_S)
  refine mj_run_ok (pe := 15) (S := _) (K := fun S' => S' = (([some (.ref 48)], [.int 8, .ref 48], MM 50 50 (fun _ _ => 0)) : mj_S)) F [.putfield 9, .aload_n 0, .bipush 8] ⟨mj_ade dX3_init 5 rfl, ⟨mj_ade dX3_init 6 rfl, ⟨mj_ade dX3_init 7 rfl, rfl⟩⟩⟩ (show (([some (.ref 48)], [.int 8, .ref 48], MM 50 50 (fun _ _ => 0)) : mj_S) = ([some (.ref 48)], [.int 8, .ref 48], MM 50 50 (fun _ _ => 0)) from rfl) (fun S' h => ?_)
  subst h
  refine mj_newa_ok (t := 0) (N := 8) F (by decide) (mj_ade dX3_init 8 rfl) mw_ar0 (by decide) (by decide) (by decide) (Nat.le_of_ble_eq_true rfl) (fun _ => rfl) (fun _ => rfl) (Nat.le_of_ble_eq_true rfl) (Nat.le_of_ble_eq_true rfl) ?_
  show mj_Wg _ _ _ _ _ _ _ _ _ _ _ _ _ 2 16 _ 17 (([some (.ref 48)], [.ref 50, .ref 48], MM 51 50 (fun _ _ => 0)) : mj_S)
  refine mj_run_ok (pe := 23) (S := _) (K := fun S' => S' = (([some (.ref 48)], [.int 8, .ref 48], MM 51 51 (fun _ _ => 0)) : mj_S)) F [.putfield 15, .aload_n 0, .bipush 8] ⟨mj_ade dX3_init 9 rfl, ⟨mj_ade dX3_init 10 rfl, ⟨mj_ade dX3_init 11 rfl, rfl⟩⟩⟩ (show (([some (.ref 48)], [.int 8, .ref 48], MM 51 51 (fun _ _ => 0)) : mj_S) = ([some (.ref 48)], [.int 8, .ref 48], MM 51 51 (fun _ _ => 0)) from rfl) (fun S' h => ?_)
  subst h
  refine mj_newa_ok (t := 0) (N := 8) F (by decide) (mj_ade dX3_init 12 rfl) mw_ar0 (by decide) (by decide) (by decide) (Nat.le_of_ble_eq_true rfl) (fun _ => rfl) (fun _ => rfl) (Nat.le_of_ble_eq_true rfl) (Nat.le_of_ble_eq_true rfl) ?_
  show mj_Wg _ _ _ _ _ _ _ _ _ _ _ _ _ 3 24 _ 25 (([some (.ref 48)], [.ref 51, .ref 48], MM 52 51 (fun _ _ => 0)) : mj_S)
  refine mj_run_ok (pe := 31) (S := _) (K := fun S' => S' = (([some (.ref 48)], [.int 8, .ref 48], MM 52 52 (fun _ _ => 0)) : mj_S)) F [.putfield 18, .aload_n 0, .bipush 8] ⟨mj_ade dX3_init 13 rfl, ⟨mj_ade dX3_init 14 rfl, ⟨mj_ade dX3_init 15 rfl, rfl⟩⟩⟩ (show (([some (.ref 48)], [.int 8, .ref 48], MM 52 52 (fun _ _ => 0)) : mj_S) = ([some (.ref 48)], [.int 8, .ref 48], MM 52 52 (fun _ _ => 0)) from rfl) (fun S' h => ?_)
  subst h
  refine mj_newa_ok (t := 0) (N := 8) F (by decide) (mj_ade dX3_init 16 rfl) mw_ar0 (by decide) (by decide) (by decide) (Nat.le_of_ble_eq_true rfl) (fun _ => rfl) (fun _ => rfl) (Nat.le_of_ble_eq_true rfl) (Nat.le_of_ble_eq_true rfl) ?_
  show mj_Wg _ _ _ _ _ _ _ _ _ _ _ _ _ 4 32 _ 33 (([some (.ref 48)], [.ref 52, .ref 48], MM 53 52 (fun _ _ => 0)) : mj_S)
  refine mj_run_ok (pe := 39) (S := _) (K := fun S' => S' = (([some (.ref 48)], [.int 8, .ref 48], MM 53 53 (fun _ _ => 0)) : mj_S)) F [.putfield 21, .aload_n 0, .bipush 8] ⟨mj_ade dX3_init 17 rfl, ⟨mj_ade dX3_init 18 rfl, ⟨mj_ade dX3_init 19 rfl, rfl⟩⟩⟩ (show (([some (.ref 48)], [.int 8, .ref 48], MM 53 53 (fun _ _ => 0)) : mj_S) = ([some (.ref 48)], [.int 8, .ref 48], MM 53 53 (fun _ _ => 0)) from rfl) (fun S' h => ?_)
  subst h
  refine mj_newa_ok (t := 0) (N := 8) F (by decide) (mj_ade dX3_init 20 rfl) mw_ar0 (by decide) (by decide) (by decide) (Nat.le_of_ble_eq_true rfl) (fun _ => rfl) (fun _ => rfl) (Nat.le_of_ble_eq_true rfl) (Nat.le_of_ble_eq_true rfl) ?_
  show mj_Wg _ _ _ _ _ _ _ _ _ _ _ _ _ 5 40 _ 41 (([some (.ref 48)], [.ref 53, .ref 48], MM 54 53 (fun _ _ => 0)) : mj_S)
  refine mj_run_ok (pe := 47) (S := _) (K := fun S' => S' = (([some (.ref 48)], [.int 8, .ref 48], MM 54 54 (fun _ _ => 0)) : mj_S)) F [.putfield 24, .aload_n 0, .bipush 8] ⟨mj_ade dX3_init 21 rfl, ⟨mj_ade dX3_init 22 rfl, ⟨mj_ade dX3_init 23 rfl, rfl⟩⟩⟩ (show (([some (.ref 48)], [.int 8, .ref 48], MM 54 54 (fun _ _ => 0)) : mj_S) = ([some (.ref 48)], [.int 8, .ref 48], MM 54 54 (fun _ _ => 0)) from rfl) (fun S' h => ?_)
  subst h
  refine mj_newa_ok (t := 0) (N := 8) F (by decide) (mj_ade dX3_init 24 rfl) mw_ar0 (by decide) (by decide) (by decide) (Nat.le_of_ble_eq_true rfl) (fun _ => rfl) (fun _ => rfl) (Nat.le_of_ble_eq_true rfl) (Nat.le_of_ble_eq_true rfl) ?_
  show mj_Wg _ _ _ _ _ _ _ _ _ _ _ _ _ 6 48 _ 49 (([some (.ref 48)], [.ref 54, .ref 48], MM 55 54 (fun _ _ => 0)) : mj_S)
  refine mj_run_ok (pe := 55) (S := _) (K := fun S' => S' = (([some (.ref 48)], [.int 8, .ref 48], MM 55 55 (fun _ _ => 0)) : mj_S)) F [.putfield 27, .aload_n 0, .bipush 8] ⟨mj_ade dX3_init 25 rfl, ⟨mj_ade dX3_init 26 rfl, ⟨mj_ade dX3_init 27 rfl, rfl⟩⟩⟩ (show (([some (.ref 48)], [.int 8, .ref 48], MM 55 55 (fun _ _ => 0)) : mj_S) = ([some (.ref 48)], [.int 8, .ref 48], MM 55 55 (fun _ _ => 0)) from rfl) (fun S' h => ?_)
  subst h
  refine mj_newa_ok (t := 0) (N := 8) F (by decide) (mj_ade dX3_init 28 rfl) mw_ar0 (by decide) (by decide) (by decide) (Nat.le_of_ble_eq_true rfl) (fun _ => rfl) (fun _ => rfl) (Nat.le_of_ble_eq_true rfl) (Nat.le_of_ble_eq_true rfl) ?_
  show mj_Wg _ _ _ _ _ _ _ _ _ _ _ _ _ 7 56 _ 57 (([some (.ref 48)], [.ref 55, .ref 48], MM 56 55 (fun _ _ => 0)) : mj_S)
  refine mj_run_ok (pe := 63) (S := _) (K := fun S' => S' = (([some (.ref 48)], [.int 8, .ref 48], MM 56 56 (fun _ _ => 0)) : mj_S)) F [.putfield 30, .aload_n 0, .bipush 8] ⟨mj_ade dX3_init 29 rfl, ⟨mj_ade dX3_init 30 rfl, ⟨mj_ade dX3_init 31 rfl, rfl⟩⟩⟩ (show (([some (.ref 48)], [.int 8, .ref 48], MM 56 56 (fun _ _ => 0)) : mj_S) = ([some (.ref 48)], [.int 8, .ref 48], MM 56 56 (fun _ _ => 0)) from rfl) (fun S' h => ?_)
  subst h
  refine mj_newa_ok (t := 0) (N := 8) F (by decide) (mj_ade dX3_init 32 rfl) mw_ar0 (by decide) (by decide) (by decide) (Nat.le_of_ble_eq_true rfl) (fun _ => rfl) (fun _ => rfl) (Nat.le_of_ble_eq_true rfl) (Nat.le_of_ble_eq_true rfl) ?_
  show mj_Wg _ _ _ _ _ _ _ _ _ _ _ _ _ 8 64 _ 65 (([some (.ref 48)], [.ref 56, .ref 48], MM 57 56 (fun _ _ => 0)) : mj_S)
  refine mj_run_ok (pe := 68) (S := _) (K := fun S' => S' = (([some (.ref 48)], [], MM 57 57 (fun _ _ => 0)) : mj_S)) F [.putfield 33] ⟨mj_ade dX3_init 33 rfl, rfl⟩ (show (([some (.ref 48)], [], MM 57 57 (fun _ _ => 0)) : mj_S) = ([some (.ref 48)], [], MM 57 57 (fun _ _ => 0)) from rfl) (fun S' h => ?_)
  subst h
  exact mj_ret_ok F (mj_ade dX3_init 34 rfl) ⟨rfl, rfl⟩
set_option maxRecDepth 100000 in
set_option maxHeartbeats 4000000 in
theorem ctX3_init_57 (Ω : mj_Om) (l : Launch) : mj_Met Ω l true mX3_init 1 8 64 [.ref 57] (MM 58 58 (fun _ _ => 0)) (fun r M' => r = none ∧ M' = MM 66 66 (fun _ _ => 0)) := by
  refine mj_entry (by decide) rfl (fun _ => rfl) (by decide) ?_
  intro p e s m args below meth c F
  show mj_Wg _ _ _ _ _ _ _ _ _ _ _ _ _ 0 0 _ 0 (([some (.ref 57)], [], MM 58 58 (fun _ _ => 0)) : mj_S)
  refine mj_run_ok (pe := 1) (S := _) (K := fun S' => S' = (([some (.ref 57)], [.ref 57], MM 58 58 (fun _ _ => 0)) : mj_S)) F [.aload_n 0] ⟨mj_ade dX3_init 0 rfl, rfl⟩ (show (([some (.ref 57)], [.ref 57], MM 58 58 (fun _ _ => 0)) : mj_S) = ([some (.ref 57)], [.ref 57], MM 58 58 (fun _ _ => 0)) from rfl) (fun S' h => ?_)
  subst h
  refine mj_obj_ok F (mj_ade dX3_init 1 rfl) mw_ol3 mw_oi mw_oc (Nat.le_of_ble_eq_true rfl) (Nat.le_of_ble_eq_true rfl) ?_
  show mj_Wg _ _ _ _ _ _ _ _ _ _ _ _ _ 0 0 _ 4 (([some (.ref 57)], [], MM 58 58 (fun _ _ => 0)) : mj_S)
  refine mj_run_ok (pe := 7) (S := _) (K := fun S' => S' = (([some (.ref 57)], [.int 8, .ref 57], MM 58 58 (fun _ _ => 0)) : mj_S)) F [.aload_n 0, .bipush 8] ⟨mj_ade dX3_init 2 rfl, ⟨mj_ade dX3_init 3 rfl, rfl⟩⟩ (show (([some (.ref 57)], [.int 8, .ref 57], MM 58 58 (fun _ _ => 0)) : mj_S) = ([some (.ref 57)], [.int 8, .ref 57], MM 58 58 (fun _ _ => 0)) from rfl) (fun S' h => ?_)
  subst h
  refine mj_newa_ok (t := 0) (N := 8) F (by decide) (mj_ade dX3_init 4 rfl) mw_ar0 (by decide) (by decide) (by decide) (Nat.le_of_ble_eq_true rfl) (fun _ => rfl) (fun _ => rfl) (Nat.le_of_ble_eq_true rfl) (Nat.le_of_ble_eq_true rfl) ?_
  show mj_Wg _ _ _ _ _ _ _ _ _ _ _ _ _ 1 8 _ 9 (([some (.ref 57)], [.ref 58, .ref 57], MM 59 58 (fun _ _ => 0)) : mj_S)
  refine mj_run_ok (pe := 15) (S := _) (K := fun S' => S' = (([some (.ref 57)], [.int 8, .ref 57], MM 59 59 (fun _ _ => 0)) : mj_S)) F [.putfield 9, .aload_n 0, .bipush 8] ⟨mj_ade dX3_init 5 rfl, ⟨mj_ade dX3_init 6 rfl, ⟨mj_ade dX3_init 7 rfl, rfl⟩⟩⟩ (show (([some (.ref 57)], [.int 8, .ref 57], MM 59 59 (fun _ _ => 0)) : mj_S) = ([some (.ref 57)], [.int 8, .ref 57], MM 59 59 (fun _ _ => 0)) from rfl) (fun S' h => ?_)
  subst h
  refine mj_newa_ok (t := 0) (N := 8) F (by decide) (mj_ade dX3_init 8 rfl) mw_ar0 (by decide) (by decide) (by decide) (Nat.le_of_ble_eq_true rfl) (fun _ => rfl) (fun _ => rfl) (Nat.le_of_ble_eq_true rfl) (Nat.le_of_ble_eq_true rfl) ?_
  show mj_Wg _ _ _ _ _ _ _ _ _ _ _ _ _ 2 16 _ 17 (([some (.ref 57)], [.ref 59, .ref 57], MM 60 59 (fun _ _ => 0)) : mj_S)
  refine mj_run_ok (pe := 23) (S := _) (K := fun S' => S' = (([some (.ref 57)], [.int 8, .ref 57], MM 60 60 (fun _ _ => 0)) : mj_S)) F [.putfield 15, .aload_n 0, .bipush 8] ⟨mj_ade dX3_init 9 rfl, ⟨mj_ade dX3_init 10 rfl, ⟨mj_ade dX3_init 11 rfl, rfl⟩⟩⟩ (show (([some (.ref 57)], [.int 8, .ref 57], MM 60 60 (fun _ _ => 0)) : mj_S) = ([some (.ref 57)], [.int 8, .ref 57], MM 60 60 (fun _ _ => 0)) from rfl) (fun S' h => ?_)
  subst h
  refine mj_newa_ok (t := 0) (N := 8) F (by decide) (mj_ade dX3_init 12 rfl) mw_ar0 (by decide) (by decide) (by decide) (Nat.le_of_ble_eq_true rfl) (fun _ => rfl) (fun _ => rfl) (Nat.le_of_ble_eq_true rfl) (Nat.le_of_ble_eq_true rfl) ?_
  show mj_Wg _ _ _ _ _ _ _ _ _ _ _ _ _ 3 24 _ 25 (([some (.ref 57)], [.ref 60, .ref 57], MM 61 60 (fun _ _ => 0)) : mj_S)
  refine mj_run_ok (pe := 31) (S := _) (K := fun S' => S' = (([some (.ref 57)], [.int 8, .ref 57], MM 61 61 (fun _ _ => 0)) : mj_S)) F [.putfield 18, .aload_n 0, .bipush 8] ⟨mj_ade dX3_init 13 rfl, ⟨mj_ade dX3_init 14 rfl, ⟨mj_ade dX3_init 15 rfl, rfl⟩⟩⟩ (show (([some (.ref 57)], [.int 8, .ref 57], MM 61 61 (fun _ _ => 0)) : mj_S) = ([some (.ref 57)], [.int 8, .ref 57], MM 61 61 (fun _ _ => 0)) from rfl) (fun S' h => ?_)
  subst h
  refine mj_newa_ok (t := 0) (N := 8) F (by decide) (mj_ade dX3_init 16 rfl) mw_ar0 (by decide) (by decide) (by decide) (Nat.le_of_ble_eq_true rfl) (fun _ => rfl) (fun _ => rfl) (Nat.le_of_ble_eq_true rfl) (Nat.le_of_ble_eq_true rfl) ?_
  show mj_Wg _ _ _ _ _ _ _ _ _ _ _ _ _ 4 32 _ 33 (([some (.ref 57)], [.ref 61, .ref 57], MM 62 61 (fun _ _ => 0)) : mj_S)
  refine mj_run_ok (pe := 39) (S := _) (K := fun S' => S' = (([some (.ref 57)], [.int 8, .ref 57], MM 62 62 (fun _ _ => 0)) : mj_S)) F [.putfield 21, .aload_n 0, .bipush 8] ⟨mj_ade dX3_init 17 rfl, ⟨mj_ade dX3_init 18 rfl, ⟨mj_ade dX3_init 19 rfl, rfl⟩⟩⟩ (show (([some (.ref 57)], [.int 8, .ref 57], MM 62 62 (fun _ _ => 0)) : mj_S) = ([some (.ref 57)], [.int 8, .ref 57], MM 62 62 (fun _ _ => 0)) from rfl) (fun S' h => ?_)
  subst h
  refine mj_newa_ok (t := 0) (N := 8) F (by decide) (mj_ade dX3_init 20 rfl) mw_ar0 (by decide) (by decide) (by decide) (Nat.le_of_ble_eq_true rfl) (fun _ => rfl) (fun _ => rfl) (Nat.le_of_ble_eq_true rfl) (Nat.le_of_ble_eq_true rfl) ?_
  show mj_Wg _ _ _ _ _ _ _ _ _ _ _ _ _ 5 40 _ 41 (([some (.ref 57)], [.ref 62, .ref 57], MM 63 62 (fun _ _ => 0)) : mj_S)
  refine mj_run_ok (pe := 47) (S := _) (K := fun S' => S' = (([some (.ref 57)], [.int 8, .ref 57], MM 63 63 (fun _ _ => 0)) : mj_S)) F [.putfield 24, .aload_n 0, .bipush 8] ⟨mj_ade dX3_init 21 rfl, ⟨mj_ade dX3_init 22 rfl, ⟨mj_ade dX3_init 23 rfl, rfl⟩⟩⟩ (show (([some (.ref 57)], [.int 8, .ref 57], MM 63 63 (fun _ _ => 0)) : mj_S) = ([some (.ref 57)], [.int 8, .ref 57], MM 63 63 (fun _ _ => 0)) from rfl) (fun S' h => ?_)
  subst h
  refine mj_newa_ok (t := 0) (N := 8) F (by decide) (mj_ade dX3_init 24 rfl) mw_ar0 (by decide) (by decide) (by decide) (Nat.le_of_ble_eq_true rfl) (fun _ => rfl) (fun _ => rfl) (Nat.le_of_ble_eq_true rfl) (Nat.le_of_ble_eq_true rfl) ?_
  show mj_Wg _ _ _ _ _ _ _ _ _ _ _ _ _ 6 48 _ 49 (([some (.ref 57)], [.ref 63, .ref 57], MM 64 63 (fun _ _ => 0)) : mj_S)
  refine mj_run_ok (pe := 55) (S := _) (K := fun S' => S' = (([some (.ref 57)], [.int 8, .ref 57], MM 64 64 (fun _ _ => 0)) : mj_S)) F [.putfield 27, .aload_n 0, .bipush 8] ⟨mj_ade dX3_init 25 rfl, ⟨mj_ade dX3_init 26 rfl, ⟨mj_ade dX3_init 27 rfl, rfl⟩⟩⟩ (show (([some (.ref 57)], [.int 8, .ref 57], MM 64 64 (fun _ _ => 0)) : mj_S) = ([some (.ref 57)], [.int 8, .ref 57], MM 64 64 (fun _ _ => 0)) from rfl) (fun S' h => ?_)
  subst h
  refine mj_newa_ok (t := 0) (N := 8) F (by decide) (mj_ade dX3_init 28 rfl) mw_ar0 (by decide) (by decide) (by decide) (Nat.le_of_ble_eq_true rfl) (fun _ => rfl) (fun _ => rfl) (Nat.le_of_ble_eq_true rfl) (Nat.le_of_ble_eq_true rfl) ?_
  show mj_Wg _ _ _ _ _ _ _ _ _ _ _ _ _ 7 56 _ 57 (([some (.ref 57)], [.ref 64, .ref 57], MM 65 64 (fun _ _ => 0)) : mj_S)
  refine mj_run_ok (pe := 63) (S := _) (K := fun S' => S' = (([some (.ref 57)], [.int 8, .ref 57], MM 65 65 (fun _ _ => 0)) : mj_S)) F [.putfield 30, .aload_n 0, .bipush 8] ⟨mj_ade dX3_init 29 rfl, ⟨mj_ade dX3_init 30 rfl, ⟨mj_ade dX3_init 31 rfl, rfl⟩⟩⟩ (show (([some (.ref 57)], [.int 8, .ref 57], MM 65 65 (fun _ _ => 0)) : mj_S) = ([some (.ref 57)], [.int 8, .ref 57], MM 65 65 (fun _ _ => 0)) from rfl) (fun S' h => ?_)
  subst h
  refine mj_newa_ok (t := 0) (N := 8) F (by decide) (mj_ade dX3_init 32 rfl) mw_ar0 (by decide) (by decide) (by decide) (Nat.le_of_ble_eq_true rfl) (fun _ => rfl) (fun _ => rfl) (Nat.le_of_ble_eq_true rfl) (Nat.le_of_ble_eq_true rfl) ?_
  show mj_Wg _ _ _ _ _ _ _ _ _ _ _ _ _ 8 64 _ 65 (([some (.ref 57)], [.ref 65, .ref 57], MM 66 65 (fun _ _ => 0)) : mj_S)
  refine mj_run_ok (pe := 68) (S := _) (K := fun S' => S' = (([some (.ref 57)], [], MM 66 66 (fun _ _ => 0)) : mj_S)) F [.putfield 33] ⟨mj_ade dX3_init 33 rfl, rfl⟩ (show (([some (.ref 57)], [], MM 66 66 (fun _ _ => 0)) : mj_S) = ([some (.ref 57)], [], MM 66 66 (fun _ _ => 0)) from rfl) (fun S' h => ?_)
  subst h
  exact mj_ret_ok F (mj_ade dX3_init 34 rfl) ⟨rfl, rfl⟩
set_option maxRecDepth 100000 in
set_option maxHeartbeats 4000000 in
theorem ctX3_init_66 (Ω : mj_Om) (l : Launch) : mj_Met Ω l true mX3_init 1 8 64 [.ref 66] (MM 67 67 (fun _ _ => 0)) (fun r M' => r = none ∧ M' = MM 75 75 (fun _ _ => 0)) := by
  refine mj_entry (by decide) rfl (fun _ => rfl) (by decide) ?_
  intro p e s m args below meth c F
  show mj_Wg _ _ _ _ _ _ _ _ _ _ _ _ _ 0 0 _ 0 (([some (.ref 66)], [], MM 67 67 (fun _ _ => 0)) : mj_S)
  refine mj_run_ok (pe := 1) (S := _) (K := fun S' => S' = (([some (.ref 66)], [.ref 66], MM 67 67 (fun _ _ => 0)) : mj_S)) F [.aload_n 0] ⟨mj_ade dX3_init 0 rfl, rfl⟩ (show (([some (.ref 66)], [.ref 66], MM 67 67 (fun _ _ => 0)) : mj_S) = ([some (.ref 66)], [.ref 66], MM 67 67 (fun _ _ => 0)) from rfl) (fun S' h => ?_)
  subst h
  refine mj_obj_ok F (mj_ade dX3_init 1 rfl) mw_ol3 mw_oi mw_oc (Nat.le_of_ble_eq_true rfl) (Nat.le_of_ble_eq_true rfl) ?_
  show mj_Wg _ _ _ _ _ _ _ _ _ _ _ _ _ 0 0 _ 4 (([some (.ref 66)], [], MM 67 67 (fun _ _ => 0)) : mj_S)
  refine mj_run_ok (pe := 7) (S := _) (K := fun S' => S' = (([some (.ref 66)], [.int 8, .ref 66], MM 67 67 (fun _ _ => 0)) : mj_S)) F [.aload_n 0, .bipush 8] ⟨mj_ade dX3_init 2 rfl, ⟨mj_ade dX3_init 3 rfl, rfl⟩⟩ (show (([some (.ref 66)], [.int 8, .ref 66], MM 67 67 (fun _ _ => 0)) : mj_S) = ([some (.ref 66)], [.int 8, .ref 66], MM 67 67 (fun _ _ => 0)) from rfl) (fun S' h => ?_)
  subst h
  refine mj_newa_ok (t := 0) (N := 8) F (by decide) (mj_ade dX3_init 4 rfl) mw_ar0 (by decide) (by decide) (by decide) (Nat.le_of_ble_eq_true rfl) (fun _ => rfl) (fun _ => rfl) (Nat.le_of_ble_eq_true rfl) (Nat.le_of_ble_eq_true rfl) ?_
  show mj_Wg _ _ _ _ _ _ _ _ _ _ _ _ _ 1 8 _ 9 (([some (.ref 66)], [.ref 67, .ref 66], MM 68 67 (fun _ _ => 0)) : mj_S)
  refine mj_run_ok (pe := 15) (S := _) (K := fun S' => S' = (([some (.ref 66)], [.int 8, .ref 66], MM 68 68 (fun _ _ => 0)) : mj_S)) F [.putfield 9, .aload_n 0, .bipush 8] ⟨mj_ade dX3_init 5 rfl, ⟨mj_ade dX3_init 6 rfl, ⟨mj_ade dX3_init 7 rfl, rfl⟩⟩⟩ (show (([some (.ref 66)], [.int 8, .ref 66], MM 68 68 (fun _ _ => 0)) : mj_S) = ([some (.ref 66)], [.int 8, .ref 66], MM 68 68 (fun _ _ => 0)) from rfl) (fun S' h => ?_)
  subst h
  refine mj_newa_ok (t := 0) (N := 8) F (by decide) (mj_ade dX3_init 8 rfl) mw_ar0 (by decide) (by decide) (by decide) (Nat.le_of_ble_eq_true rfl) (fun _ => rfl) (fun _ => rfl) (Nat.le_of_ble_eq_true rfl) (Nat.le_of_ble_eq_true rfl) ?_
  show mj_Wg _ _ _ _ _ _ _ _ _ _ _ _ _ 2 16 _ 17 (([some (.ref 66)], [.ref 68, .ref 66], MM 69 68 (fun _ _ => 0)) : mj_S)
  refine mj_run_ok (pe := 23) (S := _) (K := fun S' => S' = (([some (.ref 66)], [.int 8, .ref 66], MM 69 69 (fun _ _ => 0)) : mj_S)) F [.putfield 15, .aload_n 0, .bipush 8] ⟨mj_ade dX3_init 9 rfl, ⟨mj_ade dX3_init 10 rfl, ⟨mj_ade dX3_init 11 rfl, rfl⟩⟩⟩ (show (([some (.ref 66)], [.int 8, .ref 66], MM 69 69 (fun _ _ => 0)) : mj_S) = ([some (.ref 66)], [.int 8, .ref 66], MM 69 69 (fun _ _ => 0)) from rfl) (fun S' h => ?_)
  subst h
  refine mj_newa_ok (t := 0) (N := 8) F (by decide) (mj_ade dX3_init 12 rfl) mw_ar0 (by decide) (by decide) (by decide) (Nat.le_of_ble_eq_true rfl) (fun _ => rfl) (fun _ => rfl) (Nat.le_of_ble_eq_true rfl) (Nat.le_of_ble_eq_true rfl) ?_
  show mj_Wg _ _ _ _ _ _ _ _ _ _ _ _ _ 3 24 _ 25 (([some (.ref 66)], [.ref 69, .ref 66], MM 70 69 (fun _ _ => 0)) : mj_S)
  refine mj_run_ok (pe := 31) (S := _) (K := fun S' => S' = (([some (.ref 66)], [.int 8, .ref 66], MM 70 70 (fun _ _ => 0)) : mj_S)) F [.putfield 18, .aload_n 0, .bipush 8] ⟨mj_ade dX3_init 13 rfl, ⟨mj_ade dX3_init 14 rfl, ⟨mj_ade dX3_init 15 rfl, rfl⟩⟩⟩ (show (([some (.ref 66)], [.int 8, .ref 66], MM 70 70 (fun _ _ => 0)) : mj_S) = ([some (.ref 66)], [.int 8, .ref 66], MM 70 70 (fun _ _ => 0)) from rfl) (fun S' h => ?_)
  subst h
  refine mj_newa_ok (t := 0) (N := 8) F (by decide) (mj_ade dX3_init 16 rfl) mw_ar0 (by decide) (by decide) (by decide) (Nat.le_of_ble_eq_true rfl) (fun _ => rfl) (fun _ => rfl) (Nat.le_of_ble_eq_true rfl) (Nat.le_of_ble_eq_true rfl) ?_
  show mj_Wg _ _ _ _ _ _ _ _ _ _ _ _ _ 4 32 _ 33 (([some (.ref 66)], [.ref 70, .ref 66], MM 71 70 (fun _ _ => 0)) : mj_S)
  refine mj_run_ok (pe := 39) (S := _) (K := fun S' => S' = (([some (.ref 66)], [.int 8, .ref 66], MM 71 71 (fun _ _ => 0)) : mj_S)) F [.putfield 21, .aload_n 0, .bipush 8] ⟨mj_ade dX3_init 17 rfl, ⟨mj_ade dX3_init 18 rfl, ⟨mj_ade dX3_init 19 rfl, rfl⟩⟩⟩ (show (([some (.ref 66)], [.int 8, .ref 66], MM 71 71 (fun _ _ => 0)) : mj_S) = ([some (.ref 66)], [.int 8, .ref 66], MM 71 71 (fun _ _ => 0)) from rfl) (fun S' h => ?_)
  subst h
  refine mj_newa_ok (t := 0) (N := 8) F (by decide) (mj_ade dX3_init 20 rfl) mw_ar0 (by decide) (by decide) (by decide) (Nat.le_of_ble_eq_true rfl) (fun _ => rfl) (fun _ => rfl) (Nat.le_of_ble_eq_true rfl) (Nat.le_of_ble_eq_true rfl) ?_
  show mj_Wg _ _ _ _ _ _ _ _ _ _ _ _ _ 5 40 _ 41 (([some (.ref 66)], [.ref 71, .ref 66], MM 72 71 (fun _ _ => 0)) : mj_S)
  refine mj_run_ok (pe := 47) (S := _) (K := fun S' => S' = (([some (.ref 66)], [.int 8, .ref 66], MM 72 72 (fun _ _ => 0)) : mj_S)) F [.putfield 24, .aload_n 0, .bipush 8] ⟨mj_ade dX3_init 21 rfl, ⟨mj_ade dX3_init 22 rfl, ⟨mj_ade dX3_init 23 rfl, rfl⟩⟩⟩ (show (([some (.ref 66)], [.int 8, .ref 66], MM 72 72 (fun _ _ => 0)) : mj_S) = ([some (.ref 66)], [.int 8, .ref 66], MM 72 72 (fun _ _ => 0)) from rfl) (fun S' h => ?_)
  subst h
  refine mj_newa_ok (t := 0) (N := 8) F (by decide) (mj_ade dX3_init 24 rfl) mw_ar0 (by decide) (by decide) (by decide) (Nat.le_of_ble_eq_true rfl) (fun _ => rfl) (fun _ => rfl) (Nat.le_of_ble_eq_true rfl) (Nat.le_of_ble_eq_true rfl) ?_
  show mj_Wg _ _ _ _ _ _ _ _ _ _ _ _ _ 6 48 _ 49 (([some (.ref 66)], [.ref 72, .ref 66], MM 73 72 (fun _ _ => 0)) : mj_S)
  refine mj_run_ok (pe := 55) (S := _) (K := fun S' => S' = (([some (.ref 66)], [.int 8, .ref 66], MM 73 73 (fun _ _ => 0)) : mj_S)) F [.putfield 27, .aload_n 0, .bipush 8] ⟨mj_ade dX3_init 25 rfl, ⟨mj_ade dX3_init 26 rfl, ⟨mj_ade dX3_init 27 rfl, rfl⟩⟩⟩ (show (([some (.ref 66)], [.int 8, .ref 66], MM 73 73 (fun _ _ => 0)) : mj_S) = ([some (.ref 66)], [.int 8, .ref 66], MM 73 73 (fun _ _ => 0)) from rfl) (fun S' h => ?_)
  subst h
  refine mj_newa_ok (t := 0) (N := 8) F (by decide) (mj_ade dX3_init 28 rfl) mw_ar0 (by decide) (by decide) (by decide) (Nat.le_of_ble_eq_true rfl) (fun _ => rfl) (fun _ => rfl) (Nat.le_of_ble_eq_true rfl) (Nat.le_of_ble_eq_true rfl) ?_
  show mj_Wg _ _ _ _ _ _ _ _ _ _ _ _ _ 7 56 _ 57 (([some (.ref 66)], [.ref 73, .ref 66], MM 74 73 (fun _ _ => 0)) : mj_S)
  refine mj_run_ok (pe := 63) (S := _) (K := fun S' => S' = (([some (.ref 66)], [.int 8, .ref 66], MM 74 74 (fun _ _ => 0)) : mj_S)) F [.putfield 30, .aload_n 0, .bipush 8] ⟨mj_ade dX3_init 29 rfl, ⟨mj_ade dX3_init 30 rfl, ⟨mj_ade dX3_init 31 rfl, rfl⟩⟩⟩ (show (([some (.ref 66)], [.int 8, .ref 66], MM 74 74 (fun _ _ => 0)) : mj_S) = ([some (.ref 66)], [.int 8, .ref 66], MM 74 74 (fun _ _ => 0)) from rfl) (fun S' h => ?_)
  subst h
  refine mj_newa_ok (t := 0) (N := 8) F (by decide) (mj_ade dX3_init 32 rfl) mw_ar0 (by decide) (by decide) (by decide) (Nat.le_of_ble_eq_true rfl) (fun _ => rfl) (fun _ => rfl) (Nat.le_of_ble_eq_true rfl) (Nat.le_of_ble_eq_true rfl) ?_
  show mj_Wg _ _ _ _ _ _ _ _ _ _ _ _ _ 8 64 _ 65 (([some (.ref 66)], [.ref 74, .ref 66], MM 75 74 (fun _ _ => 0)) : mj_S)
  refine mj_run_ok (pe := 68) (S := _) (K := fun S' => S' = (([some (.ref 66)], [], MM 75 75 (fun _ _ => 0)) : mj_S)) F [.putfield 33] ⟨mj_ade dX3_init 33 rfl, rfl⟩ (show (([some (.ref 66)], [], MM 75 75 (fun _ _ => 0)) : mj_S) = ([some (.ref 66)], [], MM 75 75 (fun _ _ => 0)) from rfl) (fun S' h => ?_)
  subst h
  exact mj_ret_ok F (mj_ade dX3_init 34 rfl) ⟨rfl, rfl⟩
set_option maxRecDepth 100000 in
set_option maxHeartbeats 4000000 in
theorem ctX4_init_75 (Ω : mj_Om) (l : Launch) : mj_Met Ω l true mX4_init 1 3 23 [.ref 75, .ref 3] (MM 76 76 (fun _ _ => 0)) (fun r M' => r = none ∧ M' = MM 79 80 (fun _ _ => 0)) := by
  refine mj_entry (by decide) rfl (fun _ => rfl) (by decide) ?_
  intro p e s m args below meth c F
  show mj_Wg _ _ _ _ _ _ _ _ _ _ _ _ _ 0 0 _ 0 (([some (.ref 75), some (.ref 3)], [], MM 76 76 (fun _ _ => 0)) : mj_S)
  refine mj_run_ok (pe := 1) (S := _) (K := fun S' => S' = (([some (.ref 75), some (.ref 3)], [.ref 75], MM 76 76 (fun _ _ => 0)) : mj_S)) F [.aload_n 0] ⟨mj_ade dX4_init 0 rfl, rfl⟩ (show (([some (.ref 75), some (.ref 3)], [.ref 75], MM 76 76 (fun _ _ => 0)) : mj_S) = ([some (.ref 75), some (.ref 3)], [.ref 75], MM 76 76 (fun _ _ => 0)) from rfl) (fun S' h => ?_)
  subst h
  refine mj_obj_ok F (mj_ade dX4_init 1 rfl) mw_ol4 mw_oi mw_oc (Nat.le_of_ble_eq_true rfl) (Nat.le_of_ble_eq_true rfl) ?_
  show mj_Wg _ _ _ _ _ _ _ _ _ _ _ _ _ 0 0 _ 4 (([some (.ref 75), some (.ref 3)], [], MM 76 76 (fun _ _ => 0)) : mj_S)
  refine mj_run_ok (pe := 7) (S := _) (K := fun S' => S' = (([some (.ref 75), some (.ref 3)], [.int 7, .ref 75], MM 76 76 (fun _ _ => 0)) : mj_S)) F [.aload_n 0, .bipush 7] ⟨mj_ade dX4_init 2 rfl, ⟨mj_ade dX4_init 3 rfl, rfl⟩⟩ (show (([some (.ref 75), some (.ref 3)], [.int 7, .ref 75], MM 76 76 (fun _ _ => 0)) : mj_S) = ([some (.ref 75), some (.ref 3)], [.int 7, .ref 75], MM 76 76 (fun _ _ => 0)) from rfl) (fun S' h => ?_)
  subst h
  refine mj_newa_ok (t := 0) (N := 7) F (by decide) (mj_ade dX4_init 4 rfl) mw_ar0 (by decide) (by decide) (by decide) (Nat.le_of_ble_eq_true rfl) (fun _ => rfl) (fun _ => rfl) (Nat.le_of_ble_eq_true rfl) (Nat.le_of_ble_eq_true rfl) ?_
  show mj_Wg _ _ _ _ _ _ _ _ _ _ _ _ _ 1 7 _ 9 (([some (.ref 75), some (.ref 3)], [.ref 76, .ref 75], MM 77 76 (fun _ _ => 0)) : mj_S)
  refine mj_run_ok (pe := 15) (S := _) (K := fun S' => S' = (([some (.ref 75), some (.ref 3)], [.int 8, .ref 75], MM 77 77 (fun _ _ => 0)) : mj_S)) F [.putfield 11, .aload_n 0, .bipush 8] ⟨mj_ade dX4_init 5 rfl, ⟨mj_ade dX4_init 6 rfl, ⟨mj_ade dX4_init 7 rfl, rfl⟩⟩⟩ (show (([some (.ref 75), some (.ref 3)], [.int 8, .ref 75], MM 77 77 (fun _ _ => 0)) : mj_S) = ([some (.ref 75), some (.ref 3)], [.int 8, .ref 75], MM 77 77 (fun _ _ => 0)) from rfl) (fun S' h => ?_)
  subst h
  refine mj_newa_ok (t := 0) (N := 8) F (by decide) (mj_ade dX4_init 8 rfl) mw_ar0 (by decide) (by decide) (by decide) (Nat.le_of_ble_eq_true rfl) (fun _ => rfl) (fun _ => rfl) (Nat.le_of_ble_eq_true rfl) (Nat.le_of_ble_eq_true rfl) ?_
  show mj_Wg _ _ _ _ _ _ _ _ _ _ _ _ _ 2 15 _ 17 (([some (.ref 75), some (.ref 3)], [.ref 77, .ref 75], MM 78 77 (fun _ _ => 0)) : mj_S)
  refine mj_run_ok (pe := 23) (S := _) (K := fun S' => S' = (([some (.ref 75), some (.ref 3)], [.int 8, .ref 75], MM 78 78 (fun _ _ => 0)) : mj_S)) F [.putfield 17, .aload_n 0, .bipush 8] ⟨mj_ade dX4_init 9 rfl, ⟨mj_ade dX4_init 10 rfl, ⟨mj_ade dX4_init 11 rfl, rfl⟩⟩⟩ (show (([some (.ref 75), some (.ref 3)], [.int 8, .ref 75], MM 78 78 (fun _ _ => 0)) : mj_S) = ([some (.ref 75), some (.ref 3)], [.int 8, .ref 75], MM 78 78 (fun _ _ => 0)) from rfl) (fun S' h => ?_)
  subst h
  refine mj_newa_ok (t := 0) (N := 8) F (by decide) (mj_ade dX4_init 12 rfl) mw_ar0 (by decide) (by decide) (by decide) (Nat.le_of_ble_eq_true rfl) (fun _ => rfl) (fun _ => rfl) (Nat.le_of_ble_eq_true rfl) (Nat.le_of_ble_eq_true rfl) ?_
  show mj_Wg _ _ _ _ _ _ _ _ _ _ _ _ _ 3 23 _ 25 (([some (.ref 75), some (.ref 3)], [.ref 78, .ref 75], MM 79 78 (fun _ _ => 0)) : mj_S)
  refine mj_run_ok (pe := 33) (S := _) (K := fun S' => S' = (([some (.ref 75), some (.ref 3)], [], MM 79 80 (fun _ _ => 0)) : mj_S)) F [.putfield 20, .aload_n 0, .aload_n 1, .putfield 23] ⟨mj_ade dX4_init 13 rfl, ⟨mj_ade dX4_init 14 rfl, ⟨mj_ade dX4_init 15 rfl, ⟨mj_ade dX4_init 16 rfl, rfl⟩⟩⟩⟩ (show (([some (.ref 75), some (.ref 3)], [], MM 79 80 (fun _ _ => 0)) : mj_S) = ([some (.ref 75), some (.ref 3)], [], MM 79 80 (fun _ _ => 0)) from rfl) (fun S' h => ?_)
  subst h
  exact mj_ret_ok F (mj_ade dX4_init 17 rfl) ⟨rfl, rfl⟩
set_option maxRecDepth 100000 in
set_option maxHeartbeats 4000000 in
theorem ctX2_init_79 (Ω : mj_Om) (l : Launch) : mj_Met Ω l true mX2_init 1 0 0 [.ref 79] (MM 80 81 (fun _ _ => 0)) (fun r M' => r = none ∧ M' = MM 80 81 (fun _ _ => 0)) := by
  refine mj_entry (by decide) rfl (fun _ => rfl) (by decide) ?_
  intro p e s m args below meth c F
  show mj_Wg _ _ _ _ _ _ _ _ _ _ _ _ _ 0 0 _ 0 (([some (.ref 79)], [], MM 80 81 (fun _ _ => 0)) : mj_S)
  refine mj_run_ok (pe := 1) (S := _) (K := fun S' => S' = (([some (.ref 79)], [.ref 79], MM 80 81 (fun _ _ => 0)) : mj_S)) F [.aload_n 0] ⟨mj_ade dX2_init 0 rfl, rfl⟩ (show (([some (.ref 79)], [.ref 79], MM 80 81 (fun _ _ => 0)) : mj_S) = ([some (.ref 79)], [.ref 79], MM 80 81 (fun _ _ => 0)) from rfl) (fun S' h => ?_)
  subst h
  refine mj_obj_ok F (mj_ade dX2_init 1 rfl) mw_ol2 mw_oi mw_oc (Nat.le_of_ble_eq_true rfl) (Nat.le_of_ble_eq_true rfl) ?_
  show mj_Wg _ _ _ _ _ _ _ _ _ _ _ _ _ 0 0 _ 4 (([some (.ref 79)], [], MM 80 81 (fun _ _ => 0)) : mj_S)
  exact mj_ret_ok F (mj_ade dX2_init 2 rfl) ⟨rfl, rfl⟩
set_option maxRecDepth 100000 in
set_option maxHeartbeats 4000000 in
theorem ctX0_init_80 (Ω : mj_Om) (l : Launch) : mj_Met Ω l true mX0_init 1 1 1960 [.ref 80] (MM 81 82 (fun _ _ => 0)) (fun r M' => r = none ∧ M' = MM 82 83 (fun _ _ => 0)) := by
  refine mj_entry (by decide) rfl (fun _ => rfl) (by decide) ?_
  intro p e s m args below meth c F
  show mj_Wg _ _ _ _ _ _ _ _ _ _ _ _ _ 0 0 _ 0 (([some (.ref 80)], [], MM 81 82 (fun _ _ => 0)) : mj_S)
  refine mj_run_ok (pe := 1) (S := _) (K := fun S' => S' = (([some (.ref 80)], [.ref 80], MM 81 82 (fun _ _ => 0)) : mj_S)) F [.aload_n 0] ⟨mj_ade dX0_init 0 rfl, rfl⟩ (show (([some (.ref 80)], [.ref 80], MM 81 82 (fun _ _ => 0)) : mj_S) = ([some (.ref 80)], [.ref 80], MM 81 82 (fun _ _ => 0)) from rfl) (fun S' h => ?_)
  subst h
  refine mj_obj_ok F (mj_ade dX0_init 1 rfl) mw_ol0 mw_oi mw_oc (Nat.le_of_ble_eq_true rfl) (Nat.le_of_ble_eq_true rfl) ?_
  show mj_Wg _ _ _ _ _ _ _ _ _ _ _ _ _ 0 0 _ 4 (([some (.ref 80)], [], MM 81 82 (fun _ _ => 0)) : mj_S)
  refine mj_run_ok (pe := 8) (S := _) (K := fun S' => S' = (([some (.ref 80)], [.int 1960, .ref 80], MM 81 82 (fun _ _ => 0)) : mj_S)) F [.aload_n 0, .sipush 1960] ⟨mj_ade dX0_init 2 rfl, ⟨mj_ade dX0_init 3 rfl, rfl⟩⟩ (show (([some (.ref 80)], [.int 1960, .ref 80], MM 81 82 (fun _ _ => 0)) : mj_S) = ([some (.ref 80)], [.int 1960, .ref 80], MM 81 82 (fun _ _ => 0)) from rfl) (fun S' h => ?_)
  subst h
  refine mj_newa_ok (t := 0) (N := 1960) F (by decide) (mj_ade dX0_init 4 rfl) mw_ar0 (by decide) (by decide) (by decide) (Nat.le_of_ble_eq_true rfl) (fun _ => rfl) (fun _ => rfl) (Nat.le_of_ble_eq_true rfl) (Nat.le_of_ble_eq_true rfl) ?_
  show mj_Wg _ _ _ _ _ _ _ _ _ _ _ _ _ 1 1960 _ 10 (([some (.ref 80)], [.ref 81, .ref 80], MM 82 82 (fun _ _ => 0)) : mj_S)
  refine mj_run_ok (pe := 13) (S := _) (K := fun S' => S' = (([some (.ref 80)], [], MM 82 83 (fun _ _ => 0)) : mj_S)) F [.putfield 11] ⟨mj_ade dX0_init 5 rfl, rfl⟩ (show (([some (.ref 80)], [], MM 82 83 (fun _ _ => 0)) : mj_S) = ([some (.ref 80)], [], MM 82 83 (fun _ _ => 0)) from rfl) (fun S' h => ?_)
  subst h
  exact mj_ret_ok F (mj_ade dX0_init 6 rfl) ⟨rfl, rfl⟩
set_option maxRecDepth 100000 in
set_option maxHeartbeats 4000000 in
theorem ctX9_init_82 (Ω : mj_Om) (l : Launch) : mj_Met Ω l true mX9_init 1 3 11 [.ref 82] (MM 83 84 (fun _ _ => 0)) (fun r M' => r = none ∧ M' = MM 86 87 (fun _ _ => 0)) := by
  refine mj_entry (by decide) rfl (fun _ => rfl) (by decide) ?_
  intro p e s m args below meth c F
  show mj_Wg _ _ _ _ _ _ _ _ _ _ _ _ _ 0 0 _ 0 (([some (.ref 82)], [], MM 83 84 (fun _ _ => 0)) : mj_S)
  refine mj_run_ok (pe := 1) (S := _) (K := fun S' => S' = (([some (.ref 82)], [.ref 82], MM 83 84 (fun _ _ => 0)) : mj_S)) F [.aload_n 0] ⟨mj_ade dX9_init 0 rfl, rfl⟩ (show (([some (.ref 82)], [.ref 82], MM 83 84 (fun _ _ => 0)) : mj_S) = ([some (.ref 82)], [.ref 82], MM 83 84 (fun _ _ => 0)) from rfl) (fun S' h => ?_)
  subst h
  refine mj_obj_ok F (mj_ade dX9_init 1 rfl) mw_ol9 mw_oi mw_oc (Nat.le_of_ble_eq_true rfl) (Nat.le_of_ble_eq_true rfl) ?_
  show mj_Wg _ _ _ _ _ _ _ _ _ _ _ _ _ 0 0 _ 4 (([some (.ref 82)], [], MM 83 84 (fun _ _ => 0)) : mj_S)
  refine mj_run_ok (pe := 6) (S := _) (K := fun S' => S' = (([some (.ref 82)], [.int 5, .ref 82], MM 83 84 (fun _ _ => 0)) : mj_S)) F [.aload_n 0, .iconst 5] ⟨mj_ade dX9_init 2 rfl, ⟨mj_ade dX9_init 3 rfl, rfl⟩⟩ (show (([some (.ref 82)], [.int 5, .ref 82], MM 83 84 (fun _ _ => 0)) : mj_S) = ([some (.ref 82)], [.int 5, .ref 82], MM 83 84 (fun _ _ => 0)) from rfl) (fun S' h => ?_)
  subst h
  refine mj_newa_ok (t := 0) (N := 5) F (by decide) (mj_ade dX9_init 4 rfl) mw_ar0 (by decide) (by decide) (by decide) (Nat.le_of_ble_eq_true rfl) (fun _ => rfl) (fun _ => rfl) (Nat.le_of_ble_eq_true rfl) (Nat.le_of_ble_eq_true rfl) ?_
  show mj_Wg _ _ _ _ _ _ _ _ _ _ _ _ _ 1 5 _ 8 (([some (.ref 82)], [.ref 83, .ref 82], MM 84 84 (fun _ _ => 0)) : mj_S)
  refine mj_run_ok (pe := 13) (S := _) (K := fun S' => S' = (([some (.ref 82)], [.int 3, .ref 82], MM 84 85 (fun _ _ => 0)) : mj_S)) F [.putfield 11, .aload_n 0, .iconst 3] ⟨mj_ade dX9_init 5 rfl, ⟨mj_ade dX9_init 6 rfl, ⟨mj_ade dX9_init 7 rfl, rfl⟩⟩⟩ (show (([some (.ref 82)], [.int 3, .ref 82], MM 84 85 (fun _ _ => 0)) : mj_S) = ([some (.ref 82)], [.int 3, .ref 82], MM 84 85 (fun _ _ => 0)) from rfl) (fun S' h => ?_)
  subst h
  refine mj_newa_ok (t := 0) (N := 3) F (by decide) (mj_ade dX9_init 8 rfl) mw_ar0 (by decide) (by decide) (by decide) (Nat.le_of_ble_eq_true rfl) (fun _ => rfl) (fun _ => rfl) (Nat.le_of_ble_eq_true rfl) (Nat.le_of_ble_eq_true rfl) ?_
  show mj_Wg _ _ _ _ _ _ _ _ _ _ _ _ _ 2 8 _ 15 (([some (.ref 82)], [.ref 84, .ref 82], MM 85 85 (fun _ _ => 0)) : mj_S)
  refine mj_run_ok (pe := 20) (S := _) (K := fun S' => S' = (([some (.ref 82)], [.int 3, .ref 82], MM 85 86 (fun _ _ => 0)) : mj_S)) F [.putfield 15, .aload_n 0, .iconst 3] ⟨mj_ade dX9_init 9 rfl, ⟨mj_ade dX9_init 10 rfl, ⟨mj_ade dX9_init 11 rfl, rfl⟩⟩⟩ (show (([some (.ref 82)], [.int 3, .ref 82], MM 85 86 (fun _ _ => 0)) : mj_S) = ([some (.ref 82)], [.int 3, .ref 82], MM 85 86 (fun _ _ => 0)) from rfl) (fun S' h => ?_)
  subst h
  refine mj_newa_ok (t := 0) (N := 3) F (by decide) (mj_ade dX9_init 12 rfl) mw_ar0 (by decide) (by decide) (by decide) (Nat.le_of_ble_eq_true rfl) (fun _ => rfl) (fun _ => rfl) (Nat.le_of_ble_eq_true rfl) (Nat.le_of_ble_eq_true rfl) ?_
  show mj_Wg _ _ _ _ _ _ _ _ _ _ _ _ _ 3 11 _ 22 (([some (.ref 82)], [.ref 85, .ref 82], MM 86 86 (fun _ _ => 0)) : mj_S)
  refine mj_run_ok (pe := 25) (S := _) (K := fun S' => S' = (([some (.ref 82)], [], MM 86 87 (fun _ _ => 0)) : mj_S)) F [.putfield 18] ⟨mj_ade dX9_init 13 rfl, rfl⟩ (show (([some (.ref 82)], [], MM 86 87 (fun _ _ => 0)) : mj_S) = ([some (.ref 82)], [], MM 86 87 (fun _ _ => 0)) from rfl) (fun S' h => ?_)
  subst h
  exact mj_ret_ok F (mj_ade dX9_init 14 rfl) ⟨rfl, rfl⟩
set_option maxRecDepth 100000 in
set_option maxHeartbeats 4000000 in
theorem ctX5_init_86 (Ω : mj_Om) (l : Launch) : mj_Met Ω l true mX5_init 1 4 32 [.ref 86] (MM 87 88 (fun _ _ => 0)) (fun r M' => r = none ∧ M' = MM 91 92 (fun _ _ => 0)) := by
  refine mj_entry (by decide) rfl (fun _ => rfl) (by decide) ?_
  intro p e s m args below meth c F
  show mj_Wg _ _ _ _ _ _ _ _ _ _ _ _ _ 0 0 _ 0 (([some (.ref 86)], [], MM 87 88 (fun _ _ => 0)) : mj_S)
  refine mj_run_ok (pe := 1) (S := _) (K := fun S' => S' = (([some (.ref 86)], [.ref 86], MM 87 88 (fun _ _ => 0)) : mj_S)) F [.aload_n 0] ⟨mj_ade dX5_init 0 rfl, rfl⟩ (show (([some (.ref 86)], [.ref 86], MM 87 88 (fun _ _ => 0)) : mj_S) = ([some (.ref 86)], [.ref 86], MM 87 88 (fun _ _ => 0)) from rfl) (fun S' h => ?_)
  subst h
  refine mj_obj_ok F (mj_ade dX5_init 1 rfl) mw_ol5 mw_oi mw_oc (Nat.le_of_ble_eq_true rfl) (Nat.le_of_ble_eq_true rfl) ?_
  show mj_Wg _ _ _ _ _ _ _ _ _ _ _ _ _ 0 0 _ 4 (([some (.ref 86)], [], MM 87 88 (fun _ _ => 0)) : mj_S)
  refine mj_run_ok (pe := 7) (S := _) (K := fun S' => S' = (([some (.ref 86)], [.int 8, .ref 86], MM 87 88 (fun _ _ => 0)) : mj_S)) F [.aload_n 0, .bipush 8] ⟨mj_ade dX5_init 2 rfl, ⟨mj_ade dX5_init 3 rfl, rfl⟩⟩ (show (([some (.ref 86)], [.int 8, .ref 86], MM 87 88 (fun _ _ => 0)) : mj_S) = ([some (.ref 86)], [.int 8, .ref 86], MM 87 88 (fun _ _ => 0)) from rfl) (fun S' h => ?_)
  subst h
  refine mj_newa_ok (t := 0) (N := 8) F (by decide) (mj_ade dX5_init 4 rfl) mw_ar0 (by decide) (by decide) (by decide) (Nat.le_of_ble_eq_true rfl) (fun _ => rfl) (fun _ => rfl) (Nat.le_of_ble_eq_true rfl) (Nat.le_of_ble_eq_true rfl) ?_
  show mj_Wg _ _ _ _ _ _ _ _ _ _ _ _ _ 1 8 _ 9 (([some (.ref 86)], [.ref 87, .ref 86], MM 88 88 (fun _ _ => 0)) : mj_S)
  refine mj_run_ok (pe := 15) (S := _) (K := fun S' => S' = (([some (.ref 86)], [.int 8, .ref 86], MM 88 89 (fun _ _ => 0)) : mj_S)) F [.putfield 9, .aload_n 0, .bipush 8] ⟨mj_ade dX5_init 5 rfl, ⟨mj_ade dX5_init 6 rfl, ⟨mj_ade dX5_init 7 rfl, rfl⟩⟩⟩ (show (([some (.ref 86)], [.int 8, .ref 86], MM 88 89 (fun _ _ => 0)) : mj_S) = ([some (.ref 86)], [.int 8, .ref 86], MM 88 89 (fun _ _ => 0)) from rfl) (fun S' h => ?_)
  subst h
  refine mj_newa_ok (t := 0) (N := 8) F (by decide) (mj_ade dX5_init 8 rfl) mw_ar0 (by decide) (by decide) (by decide) (Nat.le_of_ble_eq_true rfl) (fun _ => rfl) (fun _ => rfl) (Nat.le_of_ble_eq_true rfl) (Nat.le_of_ble_eq_true rfl) ?_
  show mj_Wg _ _ _ _ _ _ _ _ _ _ _ _ _ 2 16 _ 17 (([some (.ref 86)], [.ref 88, .ref 86], MM 89 89 (fun _ _ => 0)) : mj_S)
  refine mj_run_ok (pe := 23) (S := _) (K := fun S' => S' = (([some (.ref 86)], [.int 8, .ref 86], MM 89 90 (fun _ _ => 0)) : mj_S)) F [.putfield 15, .aload_n 0, .bipush 8] ⟨mj_ade dX5_init 9 rfl, ⟨mj_ade dX5_init 10 rfl, ⟨mj_ade dX5_init 11 rfl, rfl⟩⟩⟩ (show (([some (.ref 86)], [.int 8, .ref 86], MM 89 90 (fun _ _ => 0)) : mj_S) = ([some (.ref 86)], [.int 8, .ref 86], MM 89 90 (fun _ _ => 0)) from rfl) (fun S' h => ?_)
  subst h
  refine mj_newa_ok (t := 0) (N := 8) F (by decide) (mj_ade dX5_init 12 rfl) mw_ar0 (by decide) (by decide) (by decide) (Nat.le_of_ble_eq_true rfl) (fun _ => rfl) (fun _ => rfl) (Nat.le_of_ble_eq_true rfl) (Nat.le_of_ble_eq_true rfl) ?_
  show mj_Wg _ _ _ _ _ _ _ _ _ _ _ _ _ 3 24 _ 25 (([some (.ref 86)], [.ref 89, .ref 86], MM 90 90 (fun _ _ => 0)) : mj_S)
  refine mj_run_ok (pe := 31) (S := _) (K := fun S' => S' = (([some (.ref 86)], [.int 8, .ref 86], MM 90 91 (fun _ _ => 0)) : mj_S)) F [.putfield 18, .aload_n 0, .bipush 8] ⟨mj_ade dX5_init 13 rfl, ⟨mj_ade dX5_init 14 rfl, ⟨mj_ade dX5_init 15 rfl, rfl⟩⟩⟩ (show (([some (.ref 86)], [.int 8, .ref 86], MM 90 91 (fun _ _ => 0)) : mj_S) = ([some (.ref 86)], [.int 8, .ref 86], MM 90 91 (fun _ _ => 0)) from rfl) (fun S' h => ?_)
  subst h
  refine mj_newa_ok (t := 0) (N := 8) F (by decide) (mj_ade dX5_init 16 rfl) mw_ar0 (by decide) (by decide) (by decide) (Nat.le_of_ble_eq_true rfl) (fun _ => rfl) (fun _ => rfl) (Nat.le_of_ble_eq_true rfl) (Nat.le_of_ble_eq_true rfl) ?_
  show mj_Wg _ _ _ _ _ _ _ _ _ _ _ _ _ 4 32 _ 33 (([some (.ref 86)], [.ref 90, .ref 86], MM 91 91 (fun _ _ => 0)) : mj_S)
  refine mj_run_ok (pe := 36) (S := _) (K := fun S' => S' = (([some (.ref 86)], [], MM 91 92 (fun _ _ => 0)) : mj_S)) F [.putfield 21] ⟨mj_ade dX5_init 17 rfl, rfl⟩ (show (([some (.ref 86)], [], MM 91 92 (fun _ _ => 0)) : mj_S) = ([some (.ref 86)], [], MM 91 92 (fun _ _ => 0)) from rfl) (fun S' h => ?_)
  subst h
  exact mj_ret_ok F (mj_ade dX5_init 18 rfl) ⟨rfl, rfl⟩
set_option maxRecDepth 100000 in
set_option maxHeartbeats 4000000 in
theorem ctX11_init_0 (Ω : mj_Om) (l : Launch) : mj_Met Ω l true mX11_init 3 90 4047 [.ref 0] (MM 1 0 (fun _ _ => 0)) (fun r M' => r = none ∧ M' = MM 91 93 (fun _ _ => 0)) := by
  refine mj_entry (by decide) rfl (fun _ => rfl) (by decide) ?_
  intro p e s m args below meth c F
  show mj_Wg _ _ _ _ _ _ _ _ _ _ _ _ _ 0 0 _ 0 (([some (.ref 0)], [], MM 1 0 (fun _ _ => 0)) : mj_S)
  refine mj_run_ok (pe := 1) (S := _) (K := fun S' => S' = (([some (.ref 0)], [.ref 0], MM 1 0 (fun _ _ => 0)) : mj_S)) F [.aload_n 0] ⟨mj_ade dX11_init 0 rfl, rfl⟩ (show (([some (.ref 0)], [.ref 0], MM 1 0 (fun _ _ => 0)) : mj_S) = ([some (.ref 0)], [.ref 0], MM 1 0 (fun _ _ => 0)) from rfl) (fun S' h => ?_)
  subst h
  refine mj_obj_ok F (mj_ade dX11_init 1 rfl) mw_ol11 mw_oi mw_oc (Nat.le_of_ble_eq_true rfl) (Nat.le_of_ble_eq_true rfl) ?_
  show mj_Wg _ _ _ _ _ _ _ _ _ _ _ _ _ 0 0 _ 4 (([some (.ref 0)], [], MM 1 0 (fun _ _ => 0)) : mj_S)
  refine mj_run_ok (pe := 5) (S := _) (K := fun S' => S' = (([some (.ref 0)], [.ref 0], MM 1 0 (fun _ _ => 0)) : mj_S)) F [.aload_n 0] ⟨mj_ade dX11_init 2 rfl, rfl⟩ (show (([some (.ref 0)], [.ref 0], MM 1 0 (fun _ _ => 0)) : mj_S) = ([some (.ref 0)], [.ref 0], MM 1 0 (fun _ _ => 0)) from rfl) (fun S' h => ?_)
  subst h
  refine mj_new_ok (ci := 8) (q := (RX8, TX8, 3)) F (mj_ade dX11_init 3 rfl) rfl mw_cl11_7 mw_in8 mw_iz8 (Nat.le_of_ble_eq_true rfl) (fun _ => rfl) (fun _ => rfl) (fun _ => rfl) (Nat.le_of_ble_eq_true rfl) (Nat.le_of_ble_eq_true rfl) ?_
  show mj_Wg _ _ _ _ _ _ _ _ _ _ _ _ _ 1 3 _ 8 (([some (.ref 0)], [.ref 1, .ref 0], MM 2 0 (fun _ _ => 0)) : mj_S)
  refine mj_run_ok (pe := 9) (S := _) (K := fun S' => S' = (([some (.ref 0)], [.ref 1, .ref 1, .ref 0], MM 2 0 (fun _ _ => 0)) : mj_S)) F [.dup] ⟨mj_ade dX11_init 4 rfl, rfl⟩ (show (([some (.ref 0)], [.ref 1, .ref 1, .ref 0], MM 2 0 (fun _ _ => 0)) : mj_S) = ([some (.ref 0)], [.ref 1, .ref 1, .ref 0], MM 2 0 (fun _ _ => 0)) from rfl) (fun S' h => ?_)
  subst h
  refine mj_ctor_ok (d' := 1) (n := 0) (as := []) (a := 1) (host := "GunLine") F (mj_ade dX11_init 5 rfl) (ctX8_init_1 Ω l) fX8_init rfl rfl iX8_init (by decide +kernel) rfl (Or.inr mw_l11_9) ⟨Nat.le_of_ble_eq_true rfl, Nat.le_of_ble_eq_true rfl⟩ ⟨Nat.le_of_ble_eq_true rfl, Nat.le_of_ble_eq_true rfl⟩ (Nat.le_of_ble_eq_true rfl) (fun r M' h => ?_)
  obtain ⟨rfl, rfl⟩ := h
  show mj_Wg _ _ _ _ _ _ _ _ _ _ _ _ _ 2 243 _ 12 (([some (.ref 0)], [.ref 1, .ref 0], MM 3 1 (fun _ _ => 0)) : mj_S)
  refine mj_run_ok (pe := 16) (S := _) (K := fun S' => S' = (([some (.ref 0)], [.ref 0], MM 3 2 (fun _ _ => 0)) : mj_S)) F [.putfield 10, .aload_n 0] ⟨mj_ade dX11_init 6 rfl, ⟨mj_ade dX11_init 7 rfl, rfl⟩⟩ (show (([some (.ref 0)], [.ref 0], MM 3 2 (fun _ _ => 0)) : mj_S) = ([some (.ref 0)], [.ref 0], MM 3 2 (fun _ _ => 0)) from rfl) (fun S' h => ?_)
  subst h
  refine mj_new_ok (ci := 6) (q := (RX6, TX6, 4)) F (mj_ade dX11_init 8 rfl) rfl mw_cl11_16 mw_in6 mw_iz6 (Nat.le_of_ble_eq_true rfl) (fun _ => rfl) (fun _ => rfl) (fun _ => rfl) (Nat.le_of_ble_eq_true rfl) (Nat.le_of_ble_eq_true rfl) ?_
  show mj_Wg _ _ _ _ _ _ _ _ _ _ _ _ _ 3 247 _ 19 (([some (.ref 0)], [.ref 3, .ref 0], MM 4 2 (fun _ _ => 0)) : mj_S)
  refine mj_run_ok (pe := 20) (S := _) (K := fun S' => S' = (([some (.ref 0)], [.ref 3, .ref 3, .ref 0], MM 4 2 (fun _ _ => 0)) : mj_S)) F [.dup] ⟨mj_ade dX11_init 9 rfl, rfl⟩ (show (([some (.ref 0)], [.ref 3, .ref 3, .ref 0], MM 4 2 (fun _ _ => 0)) : mj_S) = ([some (.ref 0)], [.ref 3, .ref 3, .ref 0], MM 4 2 (fun _ _ => 0)) from rfl) (fun S' h => ?_)
  subst h
  refine mj_ctor_ok (d' := 1) (n := 0) (as := []) (a := 3) (host := "GunLine") F (mj_ade dX11_init 10 rfl) (ctX6_init_3 Ω l) fX6_init rfl rfl iX6_init (by decide +kernel) rfl (Or.inr mw_l11_18) ⟨Nat.le_of_ble_eq_true rfl, Nat.le_of_ble_eq_true rfl⟩ ⟨Nat.le_of_ble_eq_true rfl, Nat.le_of_ble_eq_true rfl⟩ (Nat.le_of_ble_eq_true rfl) (fun r M' h => ?_)
  obtain ⟨rfl, rfl⟩ := h
  show mj_Wg _ _ _ _ _ _ _ _ _ _ _ _ _ 10 1279 _ 23 (([some (.ref 0)], [.ref 3, .ref 0], MM 11 9 (fun _ _ => 0)) : mj_S)
  refine mj_run_ok (pe := 27) (S := _) (K := fun S' => S' = (([some (.ref 0)], [.ref 0], MM 11 10 (fun _ _ => 0)) : mj_S)) F [.putfield 19, .aload_n 0] ⟨mj_ade dX11_init 11 rfl, ⟨mj_ade dX11_init 12 rfl, rfl⟩⟩ (show (([some (.ref 0)], [.ref 0], MM 11 10 (fun _ _ => 0)) : mj_S) = ([some (.ref 0)], [.ref 0], MM 11 10 (fun _ _ => 0)) from rfl) (fun S' h => ?_)
  subst h
  refine mj_new_ok (ci := 10) (q := (RX10, TX10, 5)) F (mj_ade dX11_init 13 rfl) rfl mw_cl11_23 mw_in10 mw_iz10 (Nat.le_of_ble_eq_true rfl) (fun _ => rfl) (fun _ => rfl) (fun _ => rfl) (Nat.le_of_ble_eq_true rfl) (Nat.le_of_ble_eq_true rfl) ?_
  show mj_Wg _ _ _ _ _ _ _ _ _ _ _ _ _ 11 1284 _ 30 (([some (.ref 0)], [.ref 11, .ref 0], MM 12 10 (fun _ _ => 0)) : mj_S)
  refine mj_run_ok (pe := 35) (S := _) (K := fun S' => S' = (([some (.ref 0)], [.ref 1, .ref 11, .ref 11, .ref 0], MM 12 10 (fun _ _ => 0)) : mj_S)) F [.dup, .aload_n 0, .getfield 10] ⟨mj_ade dX11_init 14 rfl, ⟨mj_ade dX11_init 15 rfl, ⟨mj_ade dX11_init 16 rfl, rfl⟩⟩⟩ (show (([some (.ref 0)], [.ref 1, .ref 11, .ref 11, .ref 0], MM 12 10 (fun _ _ => 0)) : mj_S) = ([some (.ref 0)], [.ref 1, .ref 11, .ref 11, .ref 0], MM 12 10 (fun _ _ => 0)) from rfl) (fun S' h => ?_)
  subst h
  refine mj_ctor_ok (d' := 2) (n := 1) (as := [.ref 1]) (a := 11) (host := "GunLine") F (mj_ade dX11_init 17 rfl) (ctX10_init_11 Ω l) fX10_init rfl rfl iX10_init (by decide +kernel) rfl (Or.inl mw_l11_25) ⟨Nat.le_of_ble_eq_true rfl, Nat.le_of_ble_eq_true rfl⟩ ⟨Nat.le_of_ble_eq_true rfl, Nat.le_of_ble_eq_true rfl⟩ (Nat.le_of_ble_eq_true rfl) (fun r M' h => ?_)
  obtain ⟨rfl, rfl⟩ := h
  show mj_Wg _ _ _ _ _ _ _ _ _ _ _ _ _ 23 1373 _ 38 (([some (.ref 0)], [.ref 11, .ref 0], MM 24 23 (fun _ _ => 0)) : mj_S)
  refine mj_run_ok (pe := 42) (S := _) (K := fun S' => S' = (([some (.ref 0)], [.ref 0], MM 24 24 (fun _ _ => 0)) : mj_S)) F [.putfield 28, .aload_n 0] ⟨mj_ade dX11_init 18 rfl, ⟨mj_ade dX11_init 19 rfl, rfl⟩⟩ (show (([some (.ref 0)], [.ref 0], MM 24 24 (fun _ _ => 0)) : mj_S) = ([some (.ref 0)], [.ref 0], MM 24 24 (fun _ _ => 0)) from rfl) (fun S' h => ?_)
  subst h
  refine mj_new_ok (ci := 7) (q := (RX7, TX7, 3)) F (mj_ade dX11_init 20 rfl) rfl mw_cl11_32 mw_in7 mw_iz7 (Nat.le_of_ble_eq_true rfl) (fun _ => rfl) (fun _ => rfl) (fun _ => rfl) (Nat.le_of_ble_eq_true rfl) (Nat.le_of_ble_eq_true rfl) ?_
  show mj_Wg _ _ _ _ _ _ _ _ _ _ _ _ _ 24 1376 _ 45 (([some (.ref 0)], [.ref 24, .ref 0], MM 25 24 (fun _ _ => 0)) : mj_S)
  refine mj_run_ok (pe := 50) (S := _) (K := fun S' => S' = (([some (.ref 0)], [.ref 1, .ref 24, .ref 24, .ref 0], MM 25 24 (fun _ _ => 0)) : mj_S)) F [.dup, .aload_n 0, .getfield 10] ⟨mj_ade dX11_init 21 rfl, ⟨mj_ade dX11_init 22 rfl, ⟨mj_ade dX11_init 23 rfl, rfl⟩⟩⟩ (show (([some (.ref 0)], [.ref 1, .ref 24, .ref 24, .ref 0], MM 25 24 (fun _ _ => 0)) : mj_S) = ([some (.ref 0)], [.ref 1, .ref 24, .ref 24, .ref 0], MM 25 24 (fun _ _ => 0)) from rfl) (fun S' h => ?_)
  subst h
  refine mj_ctor_ok (d' := 1) (n := 1) (as := [.ref 1]) (a := 24) (host := "GunLine") F (mj_ade dX11_init 24 rfl) (ctX7_init_24 Ω l) fX7_init rfl rfl iX7_init (by decide +kernel) rfl (Or.inl mw_l11_34) ⟨Nat.le_of_ble_eq_true rfl, Nat.le_of_ble_eq_true rfl⟩ ⟨Nat.le_of_ble_eq_true rfl, Nat.le_of_ble_eq_true rfl⟩ (Nat.le_of_ble_eq_true rfl) (fun r M' h => ?_)
  obtain ⟨rfl, rfl⟩ := h
  show mj_Wg _ _ _ _ _ _ _ _ _ _ _ _ _ 25 1616 _ 53 (([some (.ref 0)], [.ref 24, .ref 0], MM 26 26 (fun _ _ => 0)) : mj_S)
  refine mj_run_ok (pe := 57) (S := _) (K := fun S' => S' = (([some (.ref 0)], [.ref 0], MM 26 27 (fun _ _ => 0)) : mj_S)) F [.putfield 35, .aload_n 0] ⟨mj_ade dX11_init 25 rfl, ⟨mj_ade dX11_init 26 rfl, rfl⟩⟩ (show (([some (.ref 0)], [.ref 0], MM 26 27 (fun _ _ => 0)) : mj_S) = ([some (.ref 0)], [.ref 0], MM 26 27 (fun _ _ => 0)) from rfl) (fun S' h => ?_)
  subst h
  refine mj_new_ok (ci := 1) (q := (RX1, TX1, 1)) F (mj_ade dX11_init 27 rfl) rfl mw_cl11_39 mw_in1 mw_iz1 (Nat.le_of_ble_eq_true rfl) (fun _ => rfl) (fun _ => rfl) (fun _ => rfl) (Nat.le_of_ble_eq_true rfl) (Nat.le_of_ble_eq_true rfl) ?_
  show mj_Wg _ _ _ _ _ _ _ _ _ _ _ _ _ 26 1617 _ 60 (([some (.ref 0)], [.ref 26, .ref 0], MM 27 27 (fun _ _ => 0)) : mj_S)
  refine mj_run_ok (pe := 61) (S := _) (K := fun S' => S' = (([some (.ref 0)], [.ref 26, .ref 26, .ref 0], MM 27 27 (fun _ _ => 0)) : mj_S)) F [.dup] ⟨mj_ade dX11_init 28 rfl, rfl⟩ (show (([some (.ref 0)], [.ref 26, .ref 26, .ref 0], MM 27 27 (fun _ _ => 0)) : mj_S) = ([some (.ref 0)], [.ref 26, .ref 26, .ref 0], MM 27 27 (fun _ _ => 0)) from rfl) (fun S' h => ?_)
  subst h
  refine mj_ctor_ok (d' := 1) (n := 0) (as := []) (a := 26) (host := "GunLine") F (mj_ade dX11_init 29 rfl) (ctX1_init_26 Ω l) fX1_init rfl rfl iX1_init (by decide +kernel) rfl (Or.inr mw_l11_41) ⟨Nat.le_of_ble_eq_true rfl, Nat.le_of_ble_eq_true rfl⟩ ⟨Nat.le_of_ble_eq_true rfl, Nat.le_of_ble_eq_true rfl⟩ (Nat.le_of_ble_eq_true rfl) (fun r M' h => ?_)
  obtain ⟨rfl, rfl⟩ := h
  show mj_Wg _ _ _ _ _ _ _ _ _ _ _ _ _ 27 1624 _ 64 (([some (.ref 0)], [.ref 26, .ref 0], MM 28 28 (fun _ _ => 0)) : mj_S)
  refine mj_run_ok (pe := 68) (S := _) (K := fun S' => S' = (([some (.ref 0)], [.ref 0], MM 28 29 (fun _ _ => 0)) : mj_S)) F [.putfield 42, .aload_n 0] ⟨mj_ade dX11_init 30 rfl, ⟨mj_ade dX11_init 31 rfl, rfl⟩⟩ (show (([some (.ref 0)], [.ref 0], MM 28 29 (fun _ _ => 0)) : mj_S) = ([some (.ref 0)], [.ref 0], MM 28 29 (fun _ _ => 0)) from rfl) (fun S' h => ?_)
  subst h
  refine mj_new_ok (ci := 1) (q := (RX1, TX1, 1)) F (mj_ade dX11_init 32 rfl) rfl mw_cl11_39 mw_in1 mw_iz1 (Nat.le_of_ble_eq_true rfl) (fun _ => rfl) (fun _ => rfl) (fun _ => rfl) (Nat.le_of_ble_eq_true rfl) (Nat.le_of_ble_eq_true rfl) ?_
  show mj_Wg _ _ _ _ _ _ _ _ _ _ _ _ _ 28 1625 _ 71 (([some (.ref 0)], [.ref 28, .ref 0], MM 29 29 (fun _ _ => 0)) : mj_S)
  refine mj_run_ok (pe := 72) (S := _) (K := fun S' => S' = (([some (.ref 0)], [.ref 28, .ref 28, .ref 0], MM 29 29 (fun _ _ => 0)) : mj_S)) F [.dup] ⟨mj_ade dX11_init 33 rfl, rfl⟩ (show (([some (.ref 0)], [.ref 28, .ref 28, .ref 0], MM 29 29 (fun _ _ => 0)) : mj_S) = ([some (.ref 0)], [.ref 28, .ref 28, .ref 0], MM 29 29 (fun _ _ => 0)) from rfl) (fun S' h => ?_)
  subst h
  refine mj_ctor_ok (d' := 1) (n := 0) (as := []) (a := 28) (host := "GunLine") F (mj_ade dX11_init 34 rfl) (ctX1_init_28 Ω l) fX1_init rfl rfl iX1_init (by decide +kernel) rfl (Or.inr mw_l11_41) ⟨Nat.le_of_ble_eq_true rfl, Nat.le_of_ble_eq_true rfl⟩ ⟨Nat.le_of_ble_eq_true rfl, Nat.le_of_ble_eq_true rfl⟩ (Nat.le_of_ble_eq_true rfl) (fun r M' h => ?_)
  obtain ⟨rfl, rfl⟩ := h
  show mj_Wg _ _ _ _ _ _ _ _ _ _ _ _ _ 29 1632 _ 75 (([some (.ref 0)], [.ref 28, .ref 0], MM 30 30 (fun _ _ => 0)) : mj_S)
  refine mj_run_ok (pe := 79) (S := _) (K := fun S' => S' = (([some (.ref 0)], [.ref 0], MM 30 31 (fun _ _ => 0)) : mj_S)) F [.putfield 46, .aload_n 0] ⟨mj_ade dX11_init 35 rfl, ⟨mj_ade dX11_init 36 rfl, rfl⟩⟩ (show (([some (.ref 0)], [.ref 0], MM 30 31 (fun _ _ => 0)) : mj_S) = ([some (.ref 0)], [.ref 0], MM 30 31 (fun _ _ => 0)) from rfl) (fun S' h => ?_)
  subst h
  refine mj_new_ok (ci := 3) (q := (RX3, TX3, 10)) F (mj_ade dX11_init 37 rfl) rfl mw_cl11_49 mw_in3 mw_iz3 (Nat.le_of_ble_eq_true rfl) (fun _ => rfl) (fun _ => rfl) (fun _ => rfl) (Nat.le_of_ble_eq_true rfl) (Nat.le_of_ble_eq_true rfl) ?_
  show mj_Wg _ _ _ _ _ _ _ _ _ _ _ _ _ 30 1642 _ 82 (([some (.ref 0)], [.ref 30, .ref 0], MM 31 31 (fun _ _ => 0)) : mj_S)
  refine mj_run_ok (pe := 83) (S := _) (K := fun S' => S' = (([some (.ref 0)], [.ref 30, .ref 30, .ref 0], MM 31 31 (fun _ _ => 0)) : mj_S)) F [.dup] ⟨mj_ade dX11_init 38 rfl, rfl⟩ (show (([some (.ref 0)], [.ref 30, .ref 30, .ref 0], MM 31 31 (fun _ _ => 0)) : mj_S) = ([some (.ref 0)], [.ref 30, .ref 30, .ref 0], MM 31 31 (fun _ _ => 0)) from rfl) (fun S' h => ?_)
  subst h
  refine mj_ctor_ok (d' := 1) (n := 0) (as := []) (a := 30) (host := "GunLine") F (mj_ade dX11_init 39 rfl) (ctX3_init_30 Ω l) fX3_init rfl rfl iX3_init (by decide +kernel) rfl (Or.inr mw_l11_51) ⟨Nat.le_of_ble_eq_true rfl, Nat.le_of_ble_eq_true rfl⟩ ⟨Nat.le_of_ble_eq_true rfl, Nat.le_of_ble_eq_true rfl⟩ (Nat.le_of_ble_eq_true rfl) (fun r M' h => ?_)
  obtain ⟨rfl, rfl⟩ := h
  show mj_Wg _ _ _ _ _ _ _ _ _ _ _ _ _ 38 1706 _ 86 (([some (.ref 0)], [.ref 30, .ref 0], MM 39 39 (fun _ _ => 0)) : mj_S)
  refine mj_run_ok (pe := 90) (S := _) (K := fun S' => S' = (([some (.ref 0)], [.ref 0], MM 39 40 (fun _ _ => 0)) : mj_S)) F [.putfield 52, .aload_n 0] ⟨mj_ade dX11_init 40 rfl, ⟨mj_ade dX11_init 41 rfl, rfl⟩⟩ (show (([some (.ref 0)], [.ref 0], MM 39 40 (fun _ _ => 0)) : mj_S) = ([some (.ref 0)], [.ref 0], MM 39 40 (fun _ _ => 0)) from rfl) (fun S' h => ?_)
  subst h
  refine mj_new_ok (ci := 3) (q := (RX3, TX3, 10)) F (mj_ade dX11_init 42 rfl) rfl mw_cl11_49 mw_in3 mw_iz3 (Nat.le_of_ble_eq_true rfl) (fun _ => rfl) (fun _ => rfl) (fun _ => rfl) (Nat.le_of_ble_eq_true rfl) (Nat.le_of_ble_eq_true rfl) ?_
  show mj_Wg _ _ _ _ _ _ _ _ _ _ _ _ _ 39 1716 _ 93 (([some (.ref 0)], [.ref 39, .ref 0], MM 40 40 (fun _ _ => 0)) : mj_S)
  refine mj_run_ok (pe := 94) (S := _) (K := fun S' => S' = (([some (.ref 0)], [.ref 39, .ref 39, .ref 0], MM 40 40 (fun _ _ => 0)) : mj_S)) F [.dup] ⟨mj_ade dX11_init 43 rfl, rfl⟩ (show (([some (.ref 0)], [.ref 39, .ref 39, .ref 0], MM 40 40 (fun _ _ => 0)) : mj_S) = ([some (.ref 0)], [.ref 39, .ref 39, .ref 0], MM 40 40 (fun _ _ => 0)) from rfl) (fun S' h => ?_)
  subst h
  refine mj_ctor_ok (d' := 1) (n := 0) (as := []) (a := 39) (host := "GunLine") F (mj_ade dX11_init 44 rfl) (ctX3_init_39 Ω l) fX3_init rfl rfl iX3_init (by decide +kernel) rfl (Or.inr mw_l11_51) ⟨Nat.le_of_ble_eq_true rfl, Nat.le_of_ble_eq_true rfl⟩ ⟨Nat.le_of_ble_eq_true rfl, Nat.le_of_ble_eq_true rfl⟩ (Nat.le_of_ble_eq_true rfl) (fun r M' h => ?_)
  obtain ⟨rfl, rfl⟩ := h
  show mj_Wg _ _ _ _ _ _ _ _ _ _ _ _ _ 47 1780 _ 97 (([some (.ref 0)], [.ref 39, .ref 0], MM 48 48 (fun _ _ => 0)) : mj_S)
  refine mj_run_ok (pe := 101) (S := _) (K := fun S' => S' = (([some (.ref 0)], [.ref 0], MM 48 49 (fun _ _ => 0)) : mj_S)) F [.putfield 56, .aload_n 0] ⟨mj_ade dX11_init 45 rfl, ⟨mj_ade dX11_init 46 rfl, rfl⟩⟩ (show (([some (.ref 0)], [.ref 0], MM 48 49 (fun _ _ => 0)) : mj_S) = ([some (.ref 0)], [.ref 0], MM 48 49 (fun _ _ => 0)) from rfl) (fun S' h => ?_)
  subst h
  refine mj_new_ok (ci := 3) (q := (RX3, TX3, 10)) F (mj_ade dX11_init 47 rfl) rfl mw_cl11_49 mw_in3 mw_iz3 (Nat.le_of_ble_eq_true rfl) (fun _ => rfl) (fun _ => rfl) (fun _ => rfl) (Nat.le_of_ble_eq_true rfl) (Nat.le_of_ble_eq_true rfl) ?_
  show mj_Wg _ _ _ _ _ _ _ _ _ _ _ _ _ 48 1790 _ 104 (([some (.ref 0)], [.ref 48, .ref 0], MM 49 49 (fun _ _ => 0)) : mj_S)
  refine mj_run_ok (pe := 105) (S := _) (K := fun S' => S' = (([some (.ref 0)], [.ref 48, .ref 48, .ref 0], MM 49 49 (fun _ _ => 0)) : mj_S)) F [.dup] ⟨mj_ade dX11_init 48 rfl, rfl⟩ (show (([some (.ref 0)], [.ref 48, .ref 48, .ref 0], MM 49 49 (fun _ _ => 0)) : mj_S) = ([some (.ref 0)], [.ref 48, .ref 48, .ref 0], MM 49 49 (fun _ _ => 0)) from rfl) (fun S' h => ?_)
  subst h
  refine mj_ctor_ok (d' := 1) (n := 0) (as := []) (a := 48) (host := "GunLine") F (mj_ade dX11_init 49 rfl) (ctX3_init_48 Ω l) fX3_init rfl rfl iX3_init (by decide +kernel) rfl (Or.inr mw_l11_51) ⟨Nat.le_of_ble_eq_true rfl, Nat.le_of_ble_eq_true rfl⟩ ⟨Nat.le_of_ble_eq_true rfl, Nat.le_of_ble_eq_true rfl⟩ (Nat.le_of_ble_eq_true rfl) (fun r M' h => ?_)
  obtain ⟨rfl, rfl⟩ := h
  show mj_Wg _ _ _ _ _ _ _ _ _ _ _ _ _ 56 1854 _ 108 (([some (.ref 0)], [.ref 48, .ref 0], MM 57 57 (fun _ _ => 0)) : mj_S)
  refine mj_run_ok (pe := 112) (S := _) (K := fun S' => S' = (([some (.ref 0)], [.ref 0], MM 57 58 (fun _ _ => 0)) : mj_S)) F [.putfield 59, .aload_n 0] ⟨mj_ade dX11_init 50 rfl, ⟨mj_ade dX11_init 51 rfl, rfl⟩⟩ (show (([some (.ref 0)], [.ref 0], MM 57 58 (fun _ _ => 0)) : mj_S) = ([some (.ref 0)], [.ref 0], MM 57 58 (fun _ _ => 0)) from rfl) (fun S' h => ?_)
  subst h
  refine mj_new_ok (ci := 3) (q := (RX3, TX3, 10)) F (mj_ade dX11_init 52 rfl) rfl mw_cl11_49 mw_in3 mw_iz3 (Nat.le_of_ble_eq_true rfl) (fun _ => rfl) (fun _ => rfl) (fun _ => rfl) (Nat.le_of_ble_eq_true rfl) (Nat.le_of_ble_eq_true rfl) ?_
  show mj_Wg _ _ _ _ _ _ _ _ _ _ _ _ _ 57 1864 _ 115 (([some (.ref 0)], [.ref 57, .ref 0], MM 58 58 (fun _ _ => 0)) : mj_S)
  refine mj_run_ok (pe := 116) (S := _) (K := fun S' => S' = (([some (.ref 0)], [.ref 57, .ref 57, .ref 0], MM 58 58 (fun _ _ => 0)) : mj_S)) F [.dup] ⟨mj_ade dX11_init 53 rfl, rfl⟩ (show (([some (.ref 0)], [.ref 57, .ref 57, .ref 0], MM 58 58 (fun _ _ => 0)) : mj_S) = ([some (.ref 0)], [.ref 57, .ref 57, .ref 0], MM 58 58 (fun _ _ => 0)) from rfl) (fun S' h => ?_)
  subst h
  refine mj_ctor_ok (d' := 1) (n := 0) (as := []) (a := 57) (host := "GunLine") F (mj_ade dX11_init 54 rfl) (ctX3_init_57 Ω l) fX3_init rfl rfl iX3_init (by decide +kernel) rfl (Or.inr mw_l11_51) ⟨Nat.le_of_ble_eq_true rfl, Nat.le_of_ble_eq_true rfl⟩ ⟨Nat.le_of_ble_eq_true rfl, Nat.le_of_ble_eq_true rfl⟩ (Nat.le_of_ble_eq_true rfl) (fun r M' h => ?_)
  obtain ⟨rfl, rfl⟩ := h
  show mj_Wg _ _ _ _ _ _ _ _ _ _ _ _ _ 65 1928 _ 119 (([some (.ref 0)], [.ref 57, .ref 0], MM 66 66 (fun _ _ => 0)) : mj_S)
  refine mj_run_ok (pe := 123) (S := _) (K := fun S' => S' = (([some (.ref 0)], [.ref 0], MM 66 67 (fun _ _ => 0)) : mj_S)) F [.putfield 62, .aload_n 0] ⟨mj_ade dX11_init 55 rfl, ⟨mj_ade dX11_init 56 rfl, rfl⟩⟩ (show (([some (.ref 0)], [.ref 0], MM 66 67 (fun _ _ => 0)) : mj_S) = ([some (.ref 0)], [.ref 0], MM 66 67 (fun _ _ => 0)) from rfl) (fun S' h => ?_)
  subst h
  refine mj_new_ok (ci := 3) (q := (RX3, TX3, 10)) F (mj_ade dX11_init 57 rfl) rfl mw_cl11_49 mw_in3 mw_iz3 (Nat.le_of_ble_eq_true rfl) (fun _ => rfl) (fun _ => rfl) (fun _ => rfl) (Nat.le_of_ble_eq_true rfl) (Nat.le_of_ble_eq_true rfl) ?_
  show mj_Wg _ _ _ _ _ _ _ _ _ _ _ _ _ 66 1938 _ 126 (([some (.ref 0)], [.ref 66, .ref 0], MM 67 67 (fun _ _ => 0)) : mj_S)
  refine mj_run_ok (pe := 127) (S := _) (K := fun S' => S' = (([some (.ref 0)], [.ref 66, .ref 66, .ref 0], MM 67 67 (fun _ _ => 0)) : mj_S)) F [.dup] ⟨mj_ade dX11_init 58 rfl, rfl⟩ (show (([some (.ref 0)], [.ref 66, .ref 66, .ref 0], MM 67 67 (fun _ _ => 0)) : mj_S) = ([some (.ref 0)], [.ref 66, .ref 66, .ref 0], MM 67 67 (fun _ _ => 0)) from rfl) (fun S' h => ?_)
  subst h
  refine mj_ctor_ok (d' := 1) (n := 0) (as := []) (a := 66) (host := "GunLine") F (mj_ade dX11_init 59 rfl) (ctX3_init_66 Ω l) fX3_init rfl rfl iX3_init (by decide +kernel) rfl (Or.inr mw_l11_51) ⟨Nat.le_of_ble_eq_true rfl, Nat.le_of_ble_eq_true rfl⟩ ⟨Nat.le_of_ble_eq_true rfl, Nat.le_of_ble_eq_true rfl⟩ (Nat.le_of_ble_eq_true rfl) (fun r M' h => ?_)
  obtain ⟨rfl, rfl⟩ := h
  show mj_Wg _ _ _ _ _ _ _ _ _ _ _ _ _ 74 2002 _ 130 (([some (.ref 0)], [.ref 66, .ref 0], MM 75 75 (fun _ _ => 0)) : mj_S)
  refine mj_run_ok (pe := 134) (S := _) (K := fun S' => S' = (([some (.ref 0)], [.ref 0], MM 75 76 (fun _ _ => 0)) : mj_S)) F [.putfield 65, .aload_n 0] ⟨mj_ade dX11_init 60 rfl, ⟨mj_ade dX11_init 61 rfl, rfl⟩⟩ (show (([some (.ref 0)], [.ref 0], MM 75 76 (fun _ _ => 0)) : mj_S) = ([some (.ref 0)], [.ref 0], MM 75 76 (fun _ _ => 0)) from rfl) (fun S' h => ?_)
  subst h
  refine mj_new_ok (ci := 4) (q := (RX4, TX4, 4)) F (mj_ade dX11_init 62 rfl) rfl mw_cl11_68 mw_in4 mw_iz4 (Nat.le_of_ble_eq_true rfl) (fun _ => rfl) (fun _ => rfl) (fun _ => rfl) (Nat.le_of_ble_eq_true rfl) (Nat.le_of_ble_eq_true rfl) ?_
  show mj_Wg _ _ _ _ _ _ _ _ _ _ _ _ _ 75 2006 _ 137 (([some (.ref 0)], [.ref 75, .ref 0], MM 76 76 (fun _ _ => 0)) : mj_S)
  refine mj_run_ok (pe := 142) (S := _) (K := fun S' => S' = (([some (.ref 0)], [.ref 3, .ref 75, .ref 75, .ref 0], MM 76 76 (fun _ _ => 0)) : mj_S)) F [.dup, .aload_n 0, .getfield 19] ⟨mj_ade dX11_init 63 rfl, ⟨mj_ade dX11_init 64 rfl, ⟨mj_ade dX11_init 65 rfl, rfl⟩⟩⟩ (show (([some (.ref 0)], [.ref 3, .ref 75, .ref 75, .ref 0], MM 76 76 (fun _ _ => 0)) : mj_S) = ([some (.ref 0)], [.ref 3, .ref 75, .ref 75, .ref 0], MM 76 76 (fun _ _ => 0)) from rfl) (fun S' h => ?_)
  subst h
  refine mj_ctor_ok (d' := 1) (n := 1) (as := [.ref 3]) (a := 75) (host := "GunLine") F (mj_ade dX11_init 66 rfl) (ctX4_init_75 Ω l) fX4_init rfl rfl iX4_init (by decide +kernel) rfl (Or.inl mw_l11_70) ⟨Nat.le_of_ble_eq_true rfl, Nat.le_of_ble_eq_true rfl⟩ ⟨Nat.le_of_ble_eq_true rfl, Nat.le_of_ble_eq_true rfl⟩ (Nat.le_of_ble_eq_true rfl) (fun r M' h => ?_)
  obtain ⟨rfl, rfl⟩ := h
  show mj_Wg _ _ _ _ _ _ _ _ _ _ _ _ _ 78 2029 _ 145 (([some (.ref 0)], [.ref 75, .ref 0], MM 79 80 (fun _ _ => 0)) : mj_S)
  refine mj_run_ok (pe := 149) (S := _) (K := fun S' => S' = (([some (.ref 0)], [.ref 0], MM 79 81 (fun _ _ => 0)) : mj_S)) F [.putfield 73, .aload_n 0] ⟨mj_ade dX11_init 67 rfl, ⟨mj_ade dX11_init 68 rfl, rfl⟩⟩ (show (([some (.ref 0)], [.ref 0], MM 79 81 (fun _ _ => 0)) : mj_S) = ([some (.ref 0)], [.ref 0], MM 79 81 (fun _ _ => 0)) from rfl) (fun S' h => ?_)
  subst h
  refine mj_new_ok (ci := 2) (q := (RX2, TX2, 1)) F (mj_ade dX11_init 69 rfl) rfl mw_cl11_77 mw_in2 mw_iz2 (Nat.le_of_ble_eq_true rfl) (fun _ => rfl) (fun _ => rfl) (fun _ => rfl) (Nat.le_of_ble_eq_true rfl) (Nat.le_of_ble_eq_true rfl) ?_
  show mj_Wg _ _ _ _ _ _ _ _ _ _ _ _ _ 79 2030 _ 152 (([some (.ref 0)], [.ref 79, .ref 0], MM 80 81 (fun _ _ => 0)) : mj_S)
  refine mj_run_ok (pe := 153) (S := _) (K := fun S' => S' = (([some (.ref 0)], [.ref 79, .ref 79, .ref 0], MM 80 81 (fun _ _ => 0)) : mj_S)) F [.dup] ⟨mj_ade dX11_init 70 rfl, rfl⟩ (show (([some (.ref 0)], [.ref 79, .ref 79, .ref 0], MM 80 81 (fun _ _ => 0)) : mj_S) = ([some (.ref 0)], [.ref 79, .ref 79, .ref 0], MM 80 81 (fun _ _ => 0)) from rfl) (fun S' h => ?_)
  subst h
  refine mj_ctor_ok (d' := 1) (n := 0) (as := []) (a := 79) (host := "GunLine") F (mj_ade dX11_init 71 rfl) (ctX2_init_79 Ω l) fX2_init rfl rfl iX2_init (by decide +kernel) rfl (Or.inr mw_l11_79) ⟨Nat.le_of_ble_eq_true rfl, Nat.le_of_ble_eq_true rfl⟩ ⟨Nat.le_of_ble_eq_true rfl, Nat.le_of_ble_eq_true rfl⟩ (Nat.le_of_ble_eq_true rfl) (fun r M' h => ?_)
  obtain ⟨rfl, rfl⟩ := h
  show mj_Wg _ _ _ _ _ _ _ _ _ _ _ _ _ 79 2030 _ 156 (([some (.ref 0)], [.ref 79, .ref 0], MM 80 81 (fun _ _ => 0)) : mj_S)
  refine mj_run_ok (pe := 160) (S := _) (K := fun S' => S' = (([some (.ref 0)], [.ref 0], MM 80 82 (fun _ _ => 0)) : mj_S)) F [.putfield 80, .aload_n 0] ⟨mj_ade dX11_init 72 rfl, ⟨mj_ade dX11_init 73 rfl, rfl⟩⟩ (show (([some (.ref 0)], [.ref 0], MM 80 82 (fun _ _ => 0)) : mj_S) = ([some (.ref 0)], [.ref 0], MM 80 82 (fun _ _ => 0)) from rfl) (fun S' h => ?_)
  subst h
  refine mj_new_ok (ci := 0) (q := (RX0, TX0, 3)) F (mj_ade dX11_init 74 rfl) rfl mw_cl11_84 mw_in0 mw_iz0 (Nat.le_of_ble_eq_true rfl) (fun _ => rfl) (fun _ => rfl) (fun _ => rfl) (Nat.le_of_ble_eq_true rfl) (Nat.le_of_ble_eq_true rfl) ?_
  show mj_Wg _ _ _ _ _ _ _ _ _ _ _ _ _ 80 2033 _ 163 (([some (.ref 0)], [.ref 80, .ref 0], MM 81 82 (fun _ _ => 0)) : mj_S)
  refine mj_run_ok (pe := 164) (S := _) (K := fun S' => S' = (([some (.ref 0)], [.ref 80, .ref 80, .ref 0], MM 81 82 (fun _ _ => 0)) : mj_S)) F [.dup] ⟨mj_ade dX11_init 75 rfl, rfl⟩ (show (([some (.ref 0)], [.ref 80, .ref 80, .ref 0], MM 81 82 (fun _ _ => 0)) : mj_S) = ([some (.ref 0)], [.ref 80, .ref 80, .ref 0], MM 81 82 (fun _ _ => 0)) from rfl) (fun S' h => ?_)
  subst h
  refine mj_ctor_ok (d' := 1) (n := 0) (as := []) (a := 80) (host := "GunLine") F (mj_ade dX11_init 76 rfl) (ctX0_init_80 Ω l) fX0_init rfl rfl iX0_init (by decide +kernel) rfl (Or.inr mw_l11_86) ⟨Nat.le_of_ble_eq_true rfl, Nat.le_of_ble_eq_true rfl⟩ ⟨Nat.le_of_ble_eq_true rfl, Nat.le_of_ble_eq_true rfl⟩ (Nat.le_of_ble_eq_true rfl) (fun r M' h => ?_)
  obtain ⟨rfl, rfl⟩ := h
  show mj_Wg _ _ _ _ _ _ _ _ _ _ _ _ _ 81 3993 _ 167 (([some (.ref 0)], [.ref 80, .ref 0], MM 82 83 (fun _ _ => 0)) : mj_S)
  refine mj_run_ok (pe := 171) (S := _) (K := fun S' => S' = (([some (.ref 0)], [.ref 0], MM 82 84 (fun _ _ => 0)) : mj_S)) F [.putfield 87, .aload_n 0] ⟨mj_ade dX11_init 77 rfl, ⟨mj_ade dX11_init 78 rfl, rfl⟩⟩ (show (([some (.ref 0)], [.ref 0], MM 82 84 (fun _ _ => 0)) : mj_S) = ([some (.ref 0)], [.ref 0], MM 82 84 (fun _ _ => 0)) from rfl) (fun S' h => ?_)
  subst h
  refine mj_new_ok (ci := 9) (q := (RX9, TX9, 5)) F (mj_ade dX11_init 79 rfl) rfl mw_cl11_91 mw_in9 mw_iz9 (Nat.le_of_ble_eq_true rfl) (fun _ => rfl) (fun _ => rfl) (fun _ => rfl) (Nat.le_of_ble_eq_true rfl) (Nat.le_of_ble_eq_true rfl) ?_
  show mj_Wg _ _ _ _ _ _ _ _ _ _ _ _ _ 82 3998 _ 174 (([some (.ref 0)], [.ref 82, .ref 0], MM 83 84 (fun _ _ => 0)) : mj_S)
  refine mj_run_ok (pe := 175) (S := _) (K := fun S' => S' = (([some (.ref 0)], [.ref 82, .ref 82, .ref 0], MM 83 84 (fun _ _ => 0)) : mj_S)) F [.dup] ⟨mj_ade dX11_init 80 rfl, rfl⟩ (show (([some (.ref 0)], [.ref 82, .ref 82, .ref 0], MM 83 84 (fun _ _ => 0)) : mj_S) = ([some (.ref 0)], [.ref 82, .ref 82, .ref 0], MM 83 84 (fun _ _ => 0)) from rfl) (fun S' h => ?_)
  subst h
  refine mj_ctor_ok (d' := 1) (n := 0) (as := []) (a := 82) (host := "GunLine") F (mj_ade dX11_init 81 rfl) (ctX9_init_82 Ω l) fX9_init rfl rfl iX9_init (by decide +kernel) rfl (Or.inr mw_l11_93) ⟨Nat.le_of_ble_eq_true rfl, Nat.le_of_ble_eq_true rfl⟩ ⟨Nat.le_of_ble_eq_true rfl, Nat.le_of_ble_eq_true rfl⟩ (Nat.le_of_ble_eq_true rfl) (fun r M' h => ?_)
  obtain ⟨rfl, rfl⟩ := h
  show mj_Wg _ _ _ _ _ _ _ _ _ _ _ _ _ 85 4009 _ 178 (([some (.ref 0)], [.ref 82, .ref 0], MM 86 87 (fun _ _ => 0)) : mj_S)
  refine mj_run_ok (pe := 182) (S := _) (K := fun S' => S' = (([some (.ref 0)], [.ref 0], MM 86 88 (fun _ _ => 0)) : mj_S)) F [.putfield 94, .aload_n 0] ⟨mj_ade dX11_init 82 rfl, ⟨mj_ade dX11_init 83 rfl, rfl⟩⟩ (show (([some (.ref 0)], [.ref 0], MM 86 88 (fun _ _ => 0)) : mj_S) = ([some (.ref 0)], [.ref 0], MM 86 88 (fun _ _ => 0)) from rfl) (fun S' h => ?_)
  subst h
  refine mj_new_ok (ci := 5) (q := (RX5, TX5, 6)) F (mj_ade dX11_init 84 rfl) rfl mw_cl11_98 mw_in5 mw_iz5 (Nat.le_of_ble_eq_true rfl) (fun _ => rfl) (fun _ => rfl) (fun _ => rfl) (Nat.le_of_ble_eq_true rfl) (Nat.le_of_ble_eq_true rfl) ?_
  show mj_Wg _ _ _ _ _ _ _ _ _ _ _ _ _ 86 4015 _ 185 (([some (.ref 0)], [.ref 86, .ref 0], MM 87 88 (fun _ _ => 0)) : mj_S)
  refine mj_run_ok (pe := 186) (S := _) (K := fun S' => S' = (([some (.ref 0)], [.ref 86, .ref 86, .ref 0], MM 87 88 (fun _ _ => 0)) : mj_S)) F [.dup] ⟨mj_ade dX11_init 85 rfl, rfl⟩ (show (([some (.ref 0)], [.ref 86, .ref 86, .ref 0], MM 87 88 (fun _ _ => 0)) : mj_S) = ([some (.ref 0)], [.ref 86, .ref 86, .ref 0], MM 87 88 (fun _ _ => 0)) from rfl) (fun S' h => ?_)
  subst h
  refine mj_ctor_ok (d' := 1) (n := 0) (as := []) (a := 86) (host := "GunLine") F (mj_ade dX11_init 86 rfl) (ctX5_init_86 Ω l) fX5_init rfl rfl iX5_init (by decide +kernel) rfl (Or.inr mw_l11_100) ⟨Nat.le_of_ble_eq_true rfl, Nat.le_of_ble_eq_true rfl⟩ ⟨Nat.le_of_ble_eq_true rfl, Nat.le_of_ble_eq_true rfl⟩ (Nat.le_of_ble_eq_true rfl) (fun r M' h => ?_)
  obtain ⟨rfl, rfl⟩ := h
  show mj_Wg _ _ _ _ _ _ _ _ _ _ _ _ _ 90 4047 _ 189 (([some (.ref 0)], [.ref 86, .ref 0], MM 91 92 (fun _ _ => 0)) : mj_S)
  refine mj_run_ok (pe := 192) (S := _) (K := fun S' => S' = (([some (.ref 0)], [], MM 91 93 (fun _ _ => 0)) : mj_S)) F [.putfield 101] ⟨mj_ade dX11_init 87 rfl, rfl⟩ (show (([some (.ref 0)], [], MM 91 93 (fun _ _ => 0)) : mj_S) = ([some (.ref 0)], [], MM 91 93 (fun _ _ => 0)) from rfl) (fun S' h => ?_)
  subst h
  exact mj_ret_ok F (mj_ade dX11_init 88 rfl) ⟨rfl, rfl⟩
set_option maxRecDepth 100000 in
set_option maxHeartbeats 4000000 in
theorem ctX12_init_91 (Ω : mj_Om) (l : Launch) : mj_Met Ω l true mX12_init 1 28 10261 [.ref 91] (MM 92 93 (fun _ _ => 0)) (fun r M' => r = none ∧ M' = MM 120 121 (mj_ui (fun _ _ => 0) 91 25 (-1))) := by
  refine mj_entry (by decide) rfl (fun _ => rfl) (by decide) ?_
  intro p e s m args below meth c F
  show mj_Wg _ _ _ _ _ _ _ _ _ _ _ _ _ 0 0 _ 0 (([some (.ref 91)], [], MM 92 93 (fun _ _ => 0)) : mj_S)
  refine mj_run_ok (pe := 1) (S := _) (K := fun S' => S' = (([some (.ref 91)], [.ref 91], MM 92 93 (fun _ _ => 0)) : mj_S)) F [.aload_n 0] ⟨mj_ade dX12_init 0 rfl, rfl⟩ (show (([some (.ref 91)], [.ref 91], MM 92 93 (fun _ _ => 0)) : mj_S) = ([some (.ref 91)], [.ref 91], MM 92 93 (fun _ _ => 0)) from rfl) (fun S' h => ?_)
  subst h
  refine mj_obj_ok F (mj_ade dX12_init 1 rfl) mw_ol12 mw_oi mw_oc (Nat.le_of_ble_eq_true rfl) (Nat.le_of_ble_eq_true rfl) ?_
  show mj_Wg _ _ _ _ _ _ _ _ _ _ _ _ _ 0 0 _ 4 (([some (.ref 91)], [], MM 92 93 (fun _ _ => 0)) : mj_S)
  refine mj_run_ok (pe := 8) (S := _) (K := fun S' => S' = (([some (.ref 91)], [.int 240, .ref 91], MM 92 93 (fun _ _ => 0)) : mj_S)) F [.aload_n 0, .sipush 240] ⟨mj_ade dX12_init 2 rfl, ⟨mj_ade dX12_init 3 rfl, rfl⟩⟩ (show (([some (.ref 91)], [.int 240, .ref 91], MM 92 93 (fun _ _ => 0)) : mj_S) = ([some (.ref 91)], [.int 240, .ref 91], MM 92 93 (fun _ _ => 0)) from rfl) (fun S' h => ?_)
  subst h
  refine mj_newa_ok (t := 0) (N := 240) F (by decide) (mj_ade dX12_init 4 rfl) mw_ar0 (by decide) (by decide) (by decide) (Nat.le_of_ble_eq_true rfl) (fun _ => rfl) (fun _ => rfl) (Nat.le_of_ble_eq_true rfl) (Nat.le_of_ble_eq_true rfl) ?_
  show mj_Wg _ _ _ _ _ _ _ _ _ _ _ _ _ 1 240 _ 10 (([some (.ref 91)], [.ref 92, .ref 91], MM 93 93 (fun _ _ => 0)) : mj_S)
  refine mj_run_ok (pe := 17) (S := _) (K := fun S' => S' = (([some (.ref 91)], [.int 2600, .ref 91], MM 93 94 (fun _ _ => 0)) : mj_S)) F [.putfield 9, .aload_n 0, .sipush 2600] ⟨mj_ade dX12_init 5 rfl, ⟨mj_ade dX12_init 6 rfl, ⟨mj_ade dX12_init 7 rfl, rfl⟩⟩⟩ (show (([some (.ref 91)], [.int 2600, .ref 91], MM 93 94 (fun _ _ => 0)) : mj_S) = ([some (.ref 91)], [.int 2600, .ref 91], MM 93 94 (fun _ _ => 0)) from rfl) (fun S' h => ?_)
  subst h
  refine mj_newa_ok (t := 0) (N := 2600) F (by decide) (mj_ade dX12_init 8 rfl) mw_ar0 (by decide) (by decide) (by decide) (Nat.le_of_ble_eq_true rfl) (fun _ => rfl) (fun _ => rfl) (Nat.le_of_ble_eq_true rfl) (Nat.le_of_ble_eq_true rfl) ?_
  show mj_Wg _ _ _ _ _ _ _ _ _ _ _ _ _ 2 2840 _ 19 (([some (.ref 91)], [.ref 93, .ref 91], MM 94 94 (fun _ _ => 0)) : mj_S)
  refine mj_run_ok (pe := 26) (S := _) (K := fun S' => S' = (([some (.ref 91)], [.int 2600, .ref 91], MM 94 95 (fun _ _ => 0)) : mj_S)) F [.putfield 13, .aload_n 0, .sipush 2600] ⟨mj_ade dX12_init 9 rfl, ⟨mj_ade dX12_init 10 rfl, ⟨mj_ade dX12_init 11 rfl, rfl⟩⟩⟩ (show (([some (.ref 91)], [.int 2600, .ref 91], MM 94 95 (fun _ _ => 0)) : mj_S) = ([some (.ref 91)], [.int 2600, .ref 91], MM 94 95 (fun _ _ => 0)) from rfl) (fun S' h => ?_)
  subst h
  refine mj_newa_ok (t := 0) (N := 2600) F (by decide) (mj_ade dX12_init 12 rfl) mw_ar0 (by decide) (by decide) (by decide) (Nat.le_of_ble_eq_true rfl) (fun _ => rfl) (fun _ => rfl) (Nat.le_of_ble_eq_true rfl) (Nat.le_of_ble_eq_true rfl) ?_
  show mj_Wg _ _ _ _ _ _ _ _ _ _ _ _ _ 3 5440 _ 28 (([some (.ref 91)], [.ref 94, .ref 91], MM 95 95 (fun _ _ => 0)) : mj_S)
  refine mj_run_ok (pe := 33) (S := _) (K := fun S' => S' = (([some (.ref 91)], [.int 5, .ref 91], MM 95 96 (fun _ _ => 0)) : mj_S)) F [.putfield 16, .aload_n 0, .iconst 5] ⟨mj_ade dX12_init 13 rfl, ⟨mj_ade dX12_init 14 rfl, ⟨mj_ade dX12_init 15 rfl, rfl⟩⟩⟩ (show (([some (.ref 91)], [.int 5, .ref 91], MM 95 96 (fun _ _ => 0)) : mj_S) = ([some (.ref 91)], [.int 5, .ref 91], MM 95 96 (fun _ _ => 0)) from rfl) (fun S' h => ?_)
  subst h
  refine mj_newa_ok (t := 0) (N := 5) F (by decide) (mj_ade dX12_init 16 rfl) mw_ar0 (by decide) (by decide) (by decide) (Nat.le_of_ble_eq_true rfl) (fun _ => rfl) (fun _ => rfl) (Nat.le_of_ble_eq_true rfl) (Nat.le_of_ble_eq_true rfl) ?_
  show mj_Wg _ _ _ _ _ _ _ _ _ _ _ _ _ 4 5445 _ 35 (([some (.ref 91)], [.ref 95, .ref 91], MM 96 96 (fun _ _ => 0)) : mj_S)
  refine mj_run_ok (pe := 40) (S := _) (K := fun S' => S' = (([some (.ref 91)], [.int 5, .ref 91], MM 96 97 (fun _ _ => 0)) : mj_S)) F [.putfield 19, .aload_n 0, .iconst 5] ⟨mj_ade dX12_init 17 rfl, ⟨mj_ade dX12_init 18 rfl, ⟨mj_ade dX12_init 19 rfl, rfl⟩⟩⟩ (show (([some (.ref 91)], [.int 5, .ref 91], MM 96 97 (fun _ _ => 0)) : mj_S) = ([some (.ref 91)], [.int 5, .ref 91], MM 96 97 (fun _ _ => 0)) from rfl) (fun S' h => ?_)
  subst h
  refine mj_newa_ok (t := 0) (N := 5) F (by decide) (mj_ade dX12_init 20 rfl) mw_ar0 (by decide) (by decide) (by decide) (Nat.le_of_ble_eq_true rfl) (fun _ => rfl) (fun _ => rfl) (Nat.le_of_ble_eq_true rfl) (Nat.le_of_ble_eq_true rfl) ?_
  show mj_Wg _ _ _ _ _ _ _ _ _ _ _ _ _ 5 5450 _ 42 (([some (.ref 91)], [.ref 96, .ref 91], MM 97 97 (fun _ _ => 0)) : mj_S)
  refine mj_run_ok (pe := 49) (S := _) (K := fun S' => S' = (([some (.ref 91)], [.int 700, .ref 91], MM 97 98 (fun _ _ => 0)) : mj_S)) F [.putfield 22, .aload_n 0, .sipush 700] ⟨mj_ade dX12_init 21 rfl, ⟨mj_ade dX12_init 22 rfl, ⟨mj_ade dX12_init 23 rfl, rfl⟩⟩⟩ (show (([some (.ref 91)], [.int 700, .ref 91], MM 97 98 (fun _ _ => 0)) : mj_S) = ([some (.ref 91)], [.int 700, .ref 91], MM 97 98 (fun _ _ => 0)) from rfl) (fun S' h => ?_)
  subst h
  refine mj_newa_ok (t := 0) (N := 700) F (by decide) (mj_ade dX12_init 24 rfl) mw_ar0 (by decide) (by decide) (by decide) (Nat.le_of_ble_eq_true rfl) (fun _ => rfl) (fun _ => rfl) (Nat.le_of_ble_eq_true rfl) (Nat.le_of_ble_eq_true rfl) ?_
  show mj_Wg _ _ _ _ _ _ _ _ _ _ _ _ _ 6 6150 _ 51 (([some (.ref 91)], [.ref 97, .ref 91], MM 98 98 (fun _ _ => 0)) : mj_S)
  refine mj_run_ok (pe := 58) (S := _) (K := fun S' => S' = (([some (.ref 91)], [.int 700, .ref 91], MM 98 99 (fun _ _ => 0)) : mj_S)) F [.putfield 25, .aload_n 0, .sipush 700] ⟨mj_ade dX12_init 25 rfl, ⟨mj_ade dX12_init 26 rfl, ⟨mj_ade dX12_init 27 rfl, rfl⟩⟩⟩ (show (([some (.ref 91)], [.int 700, .ref 91], MM 98 99 (fun _ _ => 0)) : mj_S) = ([some (.ref 91)], [.int 700, .ref 91], MM 98 99 (fun _ _ => 0)) from rfl) (fun S' h => ?_)
  subst h
  refine mj_newa_ok (t := 0) (N := 700) F (by decide) (mj_ade dX12_init 28 rfl) mw_ar0 (by decide) (by decide) (by decide) (Nat.le_of_ble_eq_true rfl) (fun _ => rfl) (fun _ => rfl) (Nat.le_of_ble_eq_true rfl) (Nat.le_of_ble_eq_true rfl) ?_
  show mj_Wg _ _ _ _ _ _ _ _ _ _ _ _ _ 7 6850 _ 60 (([some (.ref 91)], [.ref 98, .ref 91], MM 99 99 (fun _ _ => 0)) : mj_S)
  refine mj_run_ok (pe := 67) (S := _) (K := fun S' => S' = (([some (.ref 91)], [.int 700, .ref 91], MM 99 100 (fun _ _ => 0)) : mj_S)) F [.putfield 28, .aload_n 0, .sipush 700] ⟨mj_ade dX12_init 29 rfl, ⟨mj_ade dX12_init 30 rfl, ⟨mj_ade dX12_init 31 rfl, rfl⟩⟩⟩ (show (([some (.ref 91)], [.int 700, .ref 91], MM 99 100 (fun _ _ => 0)) : mj_S) = ([some (.ref 91)], [.int 700, .ref 91], MM 99 100 (fun _ _ => 0)) from rfl) (fun S' h => ?_)
  subst h
  refine mj_newa_ok (t := 0) (N := 700) F (by decide) (mj_ade dX12_init 32 rfl) mw_ar0 (by decide) (by decide) (by decide) (Nat.le_of_ble_eq_true rfl) (fun _ => rfl) (fun _ => rfl) (Nat.le_of_ble_eq_true rfl) (Nat.le_of_ble_eq_true rfl) ?_
  show mj_Wg _ _ _ _ _ _ _ _ _ _ _ _ _ 8 7550 _ 69 (([some (.ref 91)], [.ref 99, .ref 91], MM 100 100 (fun _ _ => 0)) : mj_S)
  refine mj_run_ok (pe := 75) (S := _) (K := fun S' => S' = (([some (.ref 91)], [.int 7, .ref 91], MM 100 101 (fun _ _ => 0)) : mj_S)) F [.putfield 31, .aload_n 0, .bipush 7] ⟨mj_ade dX12_init 33 rfl, ⟨mj_ade dX12_init 34 rfl, ⟨mj_ade dX12_init 35 rfl, rfl⟩⟩⟩ (show (([some (.ref 91)], [.int 7, .ref 91], MM 100 101 (fun _ _ => 0)) : mj_S) = ([some (.ref 91)], [.int 7, .ref 91], MM 100 101 (fun _ _ => 0)) from rfl) (fun S' h => ?_)
  subst h
  refine mj_newa_ok (t := 0) (N := 7) F (by decide) (mj_ade dX12_init 36 rfl) mw_ar0 (by decide) (by decide) (by decide) (Nat.le_of_ble_eq_true rfl) (fun _ => rfl) (fun _ => rfl) (Nat.le_of_ble_eq_true rfl) (Nat.le_of_ble_eq_true rfl) ?_
  show mj_Wg _ _ _ _ _ _ _ _ _ _ _ _ _ 9 7557 _ 77 (([some (.ref 91)], [.ref 100, .ref 91], MM 101 101 (fun _ _ => 0)) : mj_S)
  refine mj_run_ok (pe := 83) (S := _) (K := fun S' => S' = (([some (.ref 91)], [.int 80, .ref 91], MM 101 102 (fun _ _ => 0)) : mj_S)) F [.putfield 34, .aload_n 0, .bipush 80] ⟨mj_ade dX12_init 37 rfl, ⟨mj_ade dX12_init 38 rfl, ⟨mj_ade dX12_init 39 rfl, rfl⟩⟩⟩ (show (([some (.ref 91)], [.int 80, .ref 91], MM 101 102 (fun _ _ => 0)) : mj_S) = ([some (.ref 91)], [.int 80, .ref 91], MM 101 102 (fun _ _ => 0)) from rfl) (fun S' h => ?_)
  subst h
  refine mj_newa_ok (t := 0) (N := 80) F (by decide) (mj_ade dX12_init 40 rfl) mw_ar0 (by decide) (by decide) (by decide) (Nat.le_of_ble_eq_true rfl) (fun _ => rfl) (fun _ => rfl) (Nat.le_of_ble_eq_true rfl) (Nat.le_of_ble_eq_true rfl) ?_
  show mj_Wg _ _ _ _ _ _ _ _ _ _ _ _ _ 10 7637 _ 85 (([some (.ref 91)], [.ref 101, .ref 91], MM 102 102 (fun _ _ => 0)) : mj_S)
  refine mj_run_ok (pe := 91) (S := _) (K := fun S' => S' = (([some (.ref 91)], [.int 7, .ref 91], MM 102 103 (fun _ _ => 0)) : mj_S)) F [.putfield 37, .aload_n 0, .bipush 7] ⟨mj_ade dX12_init 41 rfl, ⟨mj_ade dX12_init 42 rfl, ⟨mj_ade dX12_init 43 rfl, rfl⟩⟩⟩ (show (([some (.ref 91)], [.int 7, .ref 91], MM 102 103 (fun _ _ => 0)) : mj_S) = ([some (.ref 91)], [.int 7, .ref 91], MM 102 103 (fun _ _ => 0)) from rfl) (fun S' h => ?_)
  subst h
  refine mj_newa_ok (t := 0) (N := 7) F (by decide) (mj_ade dX12_init 44 rfl) mw_ar0 (by decide) (by decide) (by decide) (Nat.le_of_ble_eq_true rfl) (fun _ => rfl) (fun _ => rfl) (Nat.le_of_ble_eq_true rfl) (Nat.le_of_ble_eq_true rfl) ?_
  show mj_Wg _ _ _ _ _ _ _ _ _ _ _ _ _ 11 7644 _ 93 (([some (.ref 91)], [.ref 102, .ref 91], MM 103 103 (fun _ _ => 0)) : mj_S)
  refine mj_run_ok (pe := 99) (S := _) (K := fun S' => S' = (([some (.ref 91)], [.int 48, .ref 91], MM 103 104 (fun _ _ => 0)) : mj_S)) F [.putfield 40, .aload_n 0, .bipush 48] ⟨mj_ade dX12_init 45 rfl, ⟨mj_ade dX12_init 46 rfl, ⟨mj_ade dX12_init 47 rfl, rfl⟩⟩⟩ (show (([some (.ref 91)], [.int 48, .ref 91], MM 103 104 (fun _ _ => 0)) : mj_S) = ([some (.ref 91)], [.int 48, .ref 91], MM 103 104 (fun _ _ => 0)) from rfl) (fun S' h => ?_)
  subst h
  refine mj_newa_ok (t := 0) (N := 48) F (by decide) (mj_ade dX12_init 48 rfl) mw_ar0 (by decide) (by decide) (by decide) (Nat.le_of_ble_eq_true rfl) (fun _ => rfl) (fun _ => rfl) (Nat.le_of_ble_eq_true rfl) (Nat.le_of_ble_eq_true rfl) ?_
  show mj_Wg _ _ _ _ _ _ _ _ _ _ _ _ _ 12 7692 _ 101 (([some (.ref 91)], [.ref 103, .ref 91], MM 104 104 (fun _ _ => 0)) : mj_S)
  refine mj_run_ok (pe := 107) (S := _) (K := fun S' => S' = (([some (.ref 91)], [.int 7, .ref 91], MM 104 105 (fun _ _ => 0)) : mj_S)) F [.putfield 43, .aload_n 0, .bipush 7] ⟨mj_ade dX12_init 49 rfl, ⟨mj_ade dX12_init 50 rfl, ⟨mj_ade dX12_init 51 rfl, rfl⟩⟩⟩ (show (([some (.ref 91)], [.int 7, .ref 91], MM 104 105 (fun _ _ => 0)) : mj_S) = ([some (.ref 91)], [.int 7, .ref 91], MM 104 105 (fun _ _ => 0)) from rfl) (fun S' h => ?_)
  subst h
  refine mj_newa_ok (t := 0) (N := 7) F (by decide) (mj_ade dX12_init 52 rfl) mw_ar0 (by decide) (by decide) (by decide) (Nat.le_of_ble_eq_true rfl) (fun _ => rfl) (fun _ => rfl) (Nat.le_of_ble_eq_true rfl) (Nat.le_of_ble_eq_true rfl) ?_
  show mj_Wg _ _ _ _ _ _ _ _ _ _ _ _ _ 13 7699 _ 109 (([some (.ref 91)], [.ref 104, .ref 91], MM 105 105 (fun _ _ => 0)) : mj_S)
  refine mj_run_ok (pe := 115) (S := _) (K := fun S' => S' = (([some (.ref 91)], [.int 48, .ref 91], MM 105 106 (fun _ _ => 0)) : mj_S)) F [.putfield 46, .aload_n 0, .bipush 48] ⟨mj_ade dX12_init 53 rfl, ⟨mj_ade dX12_init 54 rfl, ⟨mj_ade dX12_init 55 rfl, rfl⟩⟩⟩ (show (([some (.ref 91)], [.int 48, .ref 91], MM 105 106 (fun _ _ => 0)) : mj_S) = ([some (.ref 91)], [.int 48, .ref 91], MM 105 106 (fun _ _ => 0)) from rfl) (fun S' h => ?_)
  subst h
  refine mj_newa_ok (t := 0) (N := 48) F (by decide) (mj_ade dX12_init 56 rfl) mw_ar0 (by decide) (by decide) (by decide) (Nat.le_of_ble_eq_true rfl) (fun _ => rfl) (fun _ => rfl) (Nat.le_of_ble_eq_true rfl) (Nat.le_of_ble_eq_true rfl) ?_
  show mj_Wg _ _ _ _ _ _ _ _ _ _ _ _ _ 14 7747 _ 117 (([some (.ref 91)], [.ref 105, .ref 91], MM 106 106 (fun _ _ => 0)) : mj_S)
  refine mj_run_ok (pe := 123) (S := _) (K := fun S' => S' = (([some (.ref 91)], [.int 49, .ref 91], MM 106 107 (fun _ _ => 0)) : mj_S)) F [.putfield 49, .aload_n 0, .bipush 49] ⟨mj_ade dX12_init 57 rfl, ⟨mj_ade dX12_init 58 rfl, ⟨mj_ade dX12_init 59 rfl, rfl⟩⟩⟩ (show (([some (.ref 91)], [.int 49, .ref 91], MM 106 107 (fun _ _ => 0)) : mj_S) = ([some (.ref 91)], [.int 49, .ref 91], MM 106 107 (fun _ _ => 0)) from rfl) (fun S' h => ?_)
  subst h
  refine mj_newa_ok (t := 0) (N := 49) F (by decide) (mj_ade dX12_init 60 rfl) mw_ar0 (by decide) (by decide) (by decide) (Nat.le_of_ble_eq_true rfl) (fun _ => rfl) (fun _ => rfl) (Nat.le_of_ble_eq_true rfl) (Nat.le_of_ble_eq_true rfl) ?_
  show mj_Wg _ _ _ _ _ _ _ _ _ _ _ _ _ 15 7796 _ 125 (([some (.ref 91)], [.ref 106, .ref 91], MM 107 107 (fun _ _ => 0)) : mj_S)
  refine mj_run_ok (pe := 136) (S := _) (K := fun S' => S' = (([some (.ref 91)], [.int 8, .ref 91], MM 107 108 (mj_ui (fun _ _ => 0) 91 25 (-1))) : mj_S)) F [.putfield 52, .aload_n 0, .iconst (-1), .putfield 55, .aload_n 0, .bipush 8] ⟨mj_ade dX12_init 61 rfl, ⟨mj_ade dX12_init 62 rfl, ⟨mj_ade dX12_init 63 rfl, ⟨mj_ade dX12_init 64 rfl, ⟨mj_ade dX12_init 65 rfl, ⟨mj_ade dX12_init 66 rfl, rfl⟩⟩⟩⟩⟩⟩ (show (([some (.ref 91)], [.int 8, .ref 91], MM 107 108 (mj_ui (fun _ _ => 0) 91 25 (-1))) : mj_S) = ([some (.ref 91)], [.int 8, .ref 91], MM 107 108 (mj_ui (fun _ _ => 0) 91 25 (-1))) from rfl) (fun S' h => ?_)
  subst h
  refine mj_newa_ok (t := 1) (N := 8) F (by decide) (mj_ade dX12_init 67 rfl) mw_ar1 (by decide) (by decide) (by decide) (Nat.le_of_ble_eq_true rfl) (fun _ => rfl) (fun _ => rfl) (Nat.le_of_ble_eq_true rfl) (Nat.le_of_ble_eq_true rfl) ?_
  show mj_Wg _ _ _ _ _ _ _ _ _ _ _ _ _ 16 7804 _ 138 (([some (.ref 91)], [.ref 107, .ref 91], MM 108 108 (mj_ui (fun _ _ => 0) 91 25 (-1))) : mj_S)
  refine mj_run_ok (pe := 144) (S := _) (K := fun S' => S' = (([some (.ref 91)], [.int 8, .ref 91], MM 108 109 (mj_ui (fun _ _ => 0) 91 25 (-1))) : mj_S)) F [.putfield 59, .aload_n 0, .bipush 8] ⟨mj_ade dX12_init 68 rfl, ⟨mj_ade dX12_init 69 rfl, ⟨mj_ade dX12_init 70 rfl, rfl⟩⟩⟩ (show (([some (.ref 91)], [.int 8, .ref 91], MM 108 109 (mj_ui (fun _ _ => 0) 91 25 (-1))) : mj_S) = ([some (.ref 91)], [.int 8, .ref 91], MM 108 109 (mj_ui (fun _ _ => 0) 91 25 (-1))) from rfl) (fun S' h => ?_)
  subst h
  refine mj_newa_ok (t := 0) (N := 8) F (by decide) (mj_ade dX12_init 71 rfl) mw_ar0 (by decide) (by decide) (by decide) (Nat.le_of_ble_eq_true rfl) (fun _ => rfl) (fun _ => rfl) (Nat.le_of_ble_eq_true rfl) (Nat.le_of_ble_eq_true rfl) ?_
  show mj_Wg _ _ _ _ _ _ _ _ _ _ _ _ _ 17 7812 _ 146 (([some (.ref 91)], [.ref 108, .ref 91], MM 109 109 (mj_ui (fun _ _ => 0) 91 25 (-1))) : mj_S)
  refine mj_run_ok (pe := 152) (S := _) (K := fun S' => S' = (([some (.ref 91)], [.int 8, .ref 91], MM 109 110 (mj_ui (fun _ _ => 0) 91 25 (-1))) : mj_S)) F [.putfield 63, .aload_n 0, .bipush 8] ⟨mj_ade dX12_init 72 rfl, ⟨mj_ade dX12_init 73 rfl, ⟨mj_ade dX12_init 74 rfl, rfl⟩⟩⟩ (show (([some (.ref 91)], [.int 8, .ref 91], MM 109 110 (mj_ui (fun _ _ => 0) 91 25 (-1))) : mj_S) = ([some (.ref 91)], [.int 8, .ref 91], MM 109 110 (mj_ui (fun _ _ => 0) 91 25 (-1))) from rfl) (fun S' h => ?_)
  subst h
  refine mj_newa_ok (t := 0) (N := 8) F (by decide) (mj_ade dX12_init 75 rfl) mw_ar0 (by decide) (by decide) (by decide) (Nat.le_of_ble_eq_true rfl) (fun _ => rfl) (fun _ => rfl) (Nat.le_of_ble_eq_true rfl) (Nat.le_of_ble_eq_true rfl) ?_
  show mj_Wg _ _ _ _ _ _ _ _ _ _ _ _ _ 18 7820 _ 154 (([some (.ref 91)], [.ref 109, .ref 91], MM 110 110 (mj_ui (fun _ _ => 0) 91 25 (-1))) : mj_S)
  refine mj_run_ok (pe := 161) (S := _) (K := fun S' => S' = (([some (.ref 91)], [.int 1960, .ref 91], MM 110 111 (mj_ui (fun _ _ => 0) 91 25 (-1))) : mj_S)) F [.putfield 66, .aload_n 0, .sipush 1960] ⟨mj_ade dX12_init 76 rfl, ⟨mj_ade dX12_init 77 rfl, ⟨mj_ade dX12_init 78 rfl, rfl⟩⟩⟩ (show (([some (.ref 91)], [.int 1960, .ref 91], MM 110 111 (mj_ui (fun _ _ => 0) 91 25 (-1))) : mj_S) = ([some (.ref 91)], [.int 1960, .ref 91], MM 110 111 (mj_ui (fun _ _ => 0) 91 25 (-1))) from rfl) (fun S' h => ?_)
  subst h
  refine mj_newa_ok (t := 0) (N := 1960) F (by decide) (mj_ade dX12_init 79 rfl) mw_ar0 (by decide) (by decide) (by decide) (Nat.le_of_ble_eq_true rfl) (fun _ => rfl) (fun _ => rfl) (Nat.le_of_ble_eq_true rfl) (Nat.le_of_ble_eq_true rfl) ?_
  show mj_Wg _ _ _ _ _ _ _ _ _ _ _ _ _ 19 9780 _ 163 (([some (.ref 91)], [.ref 110, .ref 91], MM 111 111 (mj_ui (fun _ _ => 0) 91 25 (-1))) : mj_S)
  refine mj_run_ok (pe := 169) (S := _) (K := fun S' => S' = (([some (.ref 91)], [.int 49, .ref 91], MM 111 112 (mj_ui (fun _ _ => 0) 91 25 (-1))) : mj_S)) F [.putfield 69, .aload_n 0, .bipush 49] ⟨mj_ade dX12_init 80 rfl, ⟨mj_ade dX12_init 81 rfl, ⟨mj_ade dX12_init 82 rfl, rfl⟩⟩⟩ (show (([some (.ref 91)], [.int 49, .ref 91], MM 111 112 (mj_ui (fun _ _ => 0) 91 25 (-1))) : mj_S) = ([some (.ref 91)], [.int 49, .ref 91], MM 111 112 (mj_ui (fun _ _ => 0) 91 25 (-1))) from rfl) (fun S' h => ?_)
  subst h
  refine mj_newa_ok (t := 0) (N := 49) F (by decide) (mj_ade dX12_init 83 rfl) mw_ar0 (by decide) (by decide) (by decide) (Nat.le_of_ble_eq_true rfl) (fun _ => rfl) (fun _ => rfl) (Nat.le_of_ble_eq_true rfl) (Nat.le_of_ble_eq_true rfl) ?_
  show mj_Wg _ _ _ _ _ _ _ _ _ _ _ _ _ 20 9829 _ 171 (([some (.ref 91)], [.ref 111, .ref 91], MM 112 112 (mj_ui (fun _ _ => 0) 91 25 (-1))) : mj_S)
  refine mj_run_ok (pe := 177) (S := _) (K := fun S' => S' = (([some (.ref 91)], [.int 8, .ref 91], MM 112 113 (mj_ui (fun _ _ => 0) 91 25 (-1))) : mj_S)) F [.putfield 72, .aload_n 0, .bipush 8] ⟨mj_ade dX12_init 84 rfl, ⟨mj_ade dX12_init 85 rfl, ⟨mj_ade dX12_init 86 rfl, rfl⟩⟩⟩ (show (([some (.ref 91)], [.int 8, .ref 91], MM 112 113 (mj_ui (fun _ _ => 0) 91 25 (-1))) : mj_S) = ([some (.ref 91)], [.int 8, .ref 91], MM 112 113 (mj_ui (fun _ _ => 0) 91 25 (-1))) from rfl) (fun S' h => ?_)
  subst h
  refine mj_newa_ok (t := 0) (N := 8) F (by decide) (mj_ade dX12_init 87 rfl) mw_ar0 (by decide) (by decide) (by decide) (Nat.le_of_ble_eq_true rfl) (fun _ => rfl) (fun _ => rfl) (Nat.le_of_ble_eq_true rfl) (Nat.le_of_ble_eq_true rfl) ?_
  show mj_Wg _ _ _ _ _ _ _ _ _ _ _ _ _ 21 9837 _ 179 (([some (.ref 91)], [.ref 112, .ref 91], MM 113 113 (mj_ui (fun _ _ => 0) 91 25 (-1))) : mj_S)
  refine mj_run_ok (pe := 185) (S := _) (K := fun S' => S' = (([some (.ref 91)], [.int 7, .ref 91], MM 113 114 (mj_ui (fun _ _ => 0) 91 25 (-1))) : mj_S)) F [.putfield 75, .aload_n 0, .bipush 7] ⟨mj_ade dX12_init 88 rfl, ⟨mj_ade dX12_init 89 rfl, ⟨mj_ade dX12_init 90 rfl, rfl⟩⟩⟩ (show (([some (.ref 91)], [.int 7, .ref 91], MM 113 114 (mj_ui (fun _ _ => 0) 91 25 (-1))) : mj_S) = ([some (.ref 91)], [.int 7, .ref 91], MM 113 114 (mj_ui (fun _ _ => 0) 91 25 (-1))) from rfl) (fun S' h => ?_)
  subst h
  refine mj_newa_ok (t := 0) (N := 7) F (by decide) (mj_ade dX12_init 91 rfl) mw_ar0 (by decide) (by decide) (by decide) (Nat.le_of_ble_eq_true rfl) (fun _ => rfl) (fun _ => rfl) (Nat.le_of_ble_eq_true rfl) (Nat.le_of_ble_eq_true rfl) ?_
  show mj_Wg _ _ _ _ _ _ _ _ _ _ _ _ _ 22 9844 _ 187 (([some (.ref 91)], [.ref 113, .ref 91], MM 114 114 (mj_ui (fun _ _ => 0) 91 25 (-1))) : mj_S)
  refine mj_run_ok (pe := 193) (S := _) (K := fun S' => S' = (([some (.ref 91)], [.int 12, .ref 91], MM 114 115 (mj_ui (fun _ _ => 0) 91 25 (-1))) : mj_S)) F [.putfield 78, .aload_n 0, .bipush 12] ⟨mj_ade dX12_init 92 rfl, ⟨mj_ade dX12_init 93 rfl, ⟨mj_ade dX12_init 94 rfl, rfl⟩⟩⟩ (show (([some (.ref 91)], [.int 12, .ref 91], MM 114 115 (mj_ui (fun _ _ => 0) 91 25 (-1))) : mj_S) = ([some (.ref 91)], [.int 12, .ref 91], MM 114 115 (mj_ui (fun _ _ => 0) 91 25 (-1))) from rfl) (fun S' h => ?_)
  subst h
  refine mj_newa_ok (t := 0) (N := 12) F (by decide) (mj_ade dX12_init 95 rfl) mw_ar0 (by decide) (by decide) (by decide) (Nat.le_of_ble_eq_true rfl) (fun _ => rfl) (fun _ => rfl) (Nat.le_of_ble_eq_true rfl) (Nat.le_of_ble_eq_true rfl) ?_
  show mj_Wg _ _ _ _ _ _ _ _ _ _ _ _ _ 23 9856 _ 195 (([some (.ref 91)], [.ref 114, .ref 91], MM 115 115 (mj_ui (fun _ _ => 0) 91 25 (-1))) : mj_S)
  refine mj_run_ok (pe := 201) (S := _) (K := fun S' => S' = (([some (.ref 91)], [.int 12, .ref 91], MM 115 116 (mj_ui (fun _ _ => 0) 91 25 (-1))) : mj_S)) F [.putfield 81, .aload_n 0, .bipush 12] ⟨mj_ade dX12_init 96 rfl, ⟨mj_ade dX12_init 97 rfl, ⟨mj_ade dX12_init 98 rfl, rfl⟩⟩⟩ (show (([some (.ref 91)], [.int 12, .ref 91], MM 115 116 (mj_ui (fun _ _ => 0) 91 25 (-1))) : mj_S) = ([some (.ref 91)], [.int 12, .ref 91], MM 115 116 (mj_ui (fun _ _ => 0) 91 25 (-1))) from rfl) (fun S' h => ?_)
  subst h
  refine mj_newa_ok (t := 0) (N := 12) F (by decide) (mj_ade dX12_init 99 rfl) mw_ar0 (by decide) (by decide) (by decide) (Nat.le_of_ble_eq_true rfl) (fun _ => rfl) (fun _ => rfl) (Nat.le_of_ble_eq_true rfl) (Nat.le_of_ble_eq_true rfl) ?_
  show mj_Wg _ _ _ _ _ _ _ _ _ _ _ _ _ 24 9868 _ 203 (([some (.ref 91)], [.ref 115, .ref 91], MM 116 116 (mj_ui (fun _ _ => 0) 91 25 (-1))) : mj_S)
  refine mj_run_ok (pe := 209) (S := _) (K := fun S' => S' = (([some (.ref 91)], [.int 12, .ref 91], MM 116 117 (mj_ui (fun _ _ => 0) 91 25 (-1))) : mj_S)) F [.putfield 84, .aload_n 0, .bipush 12] ⟨mj_ade dX12_init 100 rfl, ⟨mj_ade dX12_init 101 rfl, ⟨mj_ade dX12_init 102 rfl, rfl⟩⟩⟩ (show (([some (.ref 91)], [.int 12, .ref 91], MM 116 117 (mj_ui (fun _ _ => 0) 91 25 (-1))) : mj_S) = ([some (.ref 91)], [.int 12, .ref 91], MM 116 117 (mj_ui (fun _ _ => 0) 91 25 (-1))) from rfl) (fun S' h => ?_)
  subst h
  refine mj_newa_ok (t := 0) (N := 12) F (by decide) (mj_ade dX12_init 103 rfl) mw_ar0 (by decide) (by decide) (by decide) (Nat.le_of_ble_eq_true rfl) (fun _ => rfl) (fun _ => rfl) (Nat.le_of_ble_eq_true rfl) (Nat.le_of_ble_eq_true rfl) ?_
  show mj_Wg _ _ _ _ _ _ _ _ _ _ _ _ _ 25 9880 _ 211 (([some (.ref 91)], [.ref 116, .ref 91], MM 117 117 (mj_ui (fun _ _ => 0) 91 25 (-1))) : mj_S)
  refine mj_run_ok (pe := 217) (S := _) (K := fun S' => S' = (([some (.ref 91)], [.int 12, .ref 91], MM 117 118 (mj_ui (fun _ _ => 0) 91 25 (-1))) : mj_S)) F [.putfield 87, .aload_n 0, .bipush 12] ⟨mj_ade dX12_init 104 rfl, ⟨mj_ade dX12_init 105 rfl, ⟨mj_ade dX12_init 106 rfl, rfl⟩⟩⟩ (show (([some (.ref 91)], [.int 12, .ref 91], MM 117 118 (mj_ui (fun _ _ => 0) 91 25 (-1))) : mj_S) = ([some (.ref 91)], [.int 12, .ref 91], MM 117 118 (mj_ui (fun _ _ => 0) 91 25 (-1))) from rfl) (fun S' h => ?_)
  subst h
  refine mj_newa_ok (t := 0) (N := 12) F (by decide) (mj_ade dX12_init 107 rfl) mw_ar0 (by decide) (by decide) (by decide) (Nat.le_of_ble_eq_true rfl) (fun _ => rfl) (fun _ => rfl) (Nat.le_of_ble_eq_true rfl) (Nat.le_of_ble_eq_true rfl) ?_
  show mj_Wg _ _ _ _ _ _ _ _ _ _ _ _ _ 26 9892 _ 219 (([some (.ref 91)], [.ref 117, .ref 91], MM 118 118 (mj_ui (fun _ _ => 0) 91 25 (-1))) : mj_S)
  refine mj_run_ok (pe := 226) (S := _) (K := fun S' => S' = (([some (.ref 91)], [.int 320, .ref 91], MM 118 119 (mj_ui (fun _ _ => 0) 91 25 (-1))) : mj_S)) F [.putfield 90, .aload_n 0, .sipush 320] ⟨mj_ade dX12_init 108 rfl, ⟨mj_ade dX12_init 109 rfl, ⟨mj_ade dX12_init 110 rfl, rfl⟩⟩⟩ (show (([some (.ref 91)], [.int 320, .ref 91], MM 118 119 (mj_ui (fun _ _ => 0) 91 25 (-1))) : mj_S) = ([some (.ref 91)], [.int 320, .ref 91], MM 118 119 (mj_ui (fun _ _ => 0) 91 25 (-1))) from rfl) (fun S' h => ?_)
  subst h
  refine mj_newa_ok (t := 0) (N := 320) F (by decide) (mj_ade dX12_init 111 rfl) mw_ar0 (by decide) (by decide) (by decide) (Nat.le_of_ble_eq_true rfl) (fun _ => rfl) (fun _ => rfl) (Nat.le_of_ble_eq_true rfl) (Nat.le_of_ble_eq_true rfl) ?_
  show mj_Wg _ _ _ _ _ _ _ _ _ _ _ _ _ 27 10212 _ 228 (([some (.ref 91)], [.ref 118, .ref 91], MM 119 119 (mj_ui (fun _ _ => 0) 91 25 (-1))) : mj_S)
  refine mj_run_ok (pe := 234) (S := _) (K := fun S' => S' = (([some (.ref 91)], [.int 49, .ref 91], MM 119 120 (mj_ui (fun _ _ => 0) 91 25 (-1))) : mj_S)) F [.putfield 93, .aload_n 0, .bipush 49] ⟨mj_ade dX12_init 112 rfl, ⟨mj_ade dX12_init 113 rfl, ⟨mj_ade dX12_init 114 rfl, rfl⟩⟩⟩ (show (([some (.ref 91)], [.int 49, .ref 91], MM 119 120 (mj_ui (fun _ _ => 0) 91 25 (-1))) : mj_S) = ([some (.ref 91)], [.int 49, .ref 91], MM 119 120 (mj_ui (fun _ _ => 0) 91 25 (-1))) from rfl) (fun S' h => ?_)
  subst h
  refine mj_newa_ok (t := 0) (N := 49) F (by decide) (mj_ade dX12_init 115 rfl) mw_ar0 (by decide) (by decide) (by decide) (Nat.le_of_ble_eq_true rfl) (fun _ => rfl) (fun _ => rfl) (Nat.le_of_ble_eq_true rfl) (Nat.le_of_ble_eq_true rfl) ?_
  show mj_Wg _ _ _ _ _ _ _ _ _ _ _ _ _ 28 10261 _ 236 (([some (.ref 91)], [.ref 119, .ref 91], MM 120 120 (mj_ui (fun _ _ => 0) 91 25 (-1))) : mj_S)
  refine mj_run_ok (pe := 239) (S := _) (K := fun S' => S' = (([some (.ref 91)], [], MM 120 121 (mj_ui (fun _ _ => 0) 91 25 (-1))) : mj_S)) F [.putfield 96] ⟨mj_ade dX12_init 116 rfl, rfl⟩ (show (([some (.ref 91)], [], MM 120 121 (mj_ui (fun _ _ => 0) 91 25 (-1))) : mj_S) = ([some (.ref 91)], [], MM 120 121 (mj_ui (fun _ _ => 0) 91 25 (-1))) from rfl) (fun S' h => ?_)
  subst h
  exact mj_ret_ok F (mj_ade dX12_init 117 rfl) ⟨rfl, rfl⟩
