/-! ===== boat on both sides (by program, wip/whole/p104.py) ===== -/
def csX11_boat : List (Nat × Nat × Nat × mj_PT) := [(160, 0, 2, mj_rcv 11 tX11_isBoat), (191, 0, 3, mj_rcv 1 tX1_statusOf), (195, 0, 3, mj_rcv 1 tX1_scoreOf), (198, 0, 3, mj_rcv 1 tX1_placeOf), (201, 0, 2, mj_rcv 3 tX3_believedBack)]
theorem csX11_boat_ok : mj_Cs mX11_boat 5 csX11_boat := (mj_CsV (D' := 1) (ci := 11) (q := (RX11, TX11, 18)) sdX11_isBoat (Nat.le_of_ble_eq_true rfl) fX11_isBoat rfl rfl iX11_isBoat vX11_isBoat (by decide +kernel) l11_160 (mj_CsV (D' := 1) (ci := 1) (q := (RX1, TX1, 1)) sdX1_statusOf (Nat.le_of_ble_eq_true rfl) fX1_statusOf rfl rfl iX1_statusOf vX1_statusOf (by decide +kernel) l11_191 (mj_CsV (D' := 3) (ci := 1) (q := (RX1, TX1, 1)) sdX1_scoreOf (Nat.le_of_ble_eq_true rfl) fX1_scoreOf rfl rfl iX1_scoreOf vX1_scoreOf (by decide +kernel) l11_195 (mj_CsV (D' := 4) (ci := 1) (q := (RX1, TX1, 1)) sdX1_placeOf (Nat.le_of_ble_eq_true rfl) fX1_placeOf rfl rfl iX1_placeOf vX1_placeOf (by decide +kernel) l11_198 (mj_CsV (D' := 1) (ci := 3) (q := (RX3, TX3, 10)) sdX3_believedBack (Nat.le_of_ble_eq_true rfl) fX3_believedBack rfl rfl iX3_believedBack vX3_believedBack (by decide +kernel) l11_201 mj_Cs0)))))
def cutX11_boat : List (Nat × List Bool) := []
def pX11_boat_0 : List (Nat × Instr × Nat) := [(0, .aload_n 0, 1), (1, .iload_n 1, 1), (2, .invokevirtual 160, 3), (5, .ifCond .eq 13, 3), (8, .iload_n 2, 1), (9, .ifCond .lt 9, 3), (12, .iload_n 2, 1), (13, .bipush 11, 2), (15, .if_icmp .le 11, 3), (18, .new 164, 3), (26, .iload_n 2, 1), (27, .tableswitch 176 0 10 #[57, 67, 77, 87, 97, 107, 117, 127, 137, 150, 163], 57), (84, .aload_n 0, 1), (85, .getfield 56, 3), (88, .getfield 167, 3), (91, .iload_n 1, 1), (92, .iaload, 1), (93, .ireturn, 1), (94, .aload_n 0, 1), (95, .getfield 56, 3), (98, .getfield 170, 3), (101, .iload_n 1, 1), (102, .iaload, 1), (103, .ireturn, 1), (104, .aload_n 0, 1), (105, .getfield 56, 3), (108, .getfield 173, 3), (111, .iload_n 1, 1), (112, .iaload, 1), (113, .ireturn, 1), (114, .aload_n 0, 1), (115, .getfield 56, 3), (118, .getfield 176, 3), (121, .iload_n 1, 1), (122, .iaload, 1), (123, .ireturn, 1), (124, .aload_n 0, 1), (125, .getfield 56, 3), (128, .getfield 179, 3), (131, .iload_n 1, 1), (132, .iaload, 1), (133, .ireturn, 1), (134, .aload_n 0, 1), (135, .getfield 56, 3), (138, .getfield 182, 3), (141, .iload_n 1, 1), (142, .iaload, 1), (143, .ireturn, 1), (144, .aload_n 0, 1), (145, .getfield 56, 3), (148, .getfield 185, 3), (151, .iload_n 1, 1), (152, .iaload, 1), (153, .ireturn, 1), (154, .aload_n 0, 1), (155, .getfield 56, 3), (158, .getfield 188, 3), (161, .iload_n 1, 1), (162, .iaload, 1), (163, .ireturn, 1), (164, .aload_n 0, 1), (165, .getfield 42, 3), (168, .aload_n 0, 1), (169, .getfield 56, 3), (172, .iload_n 1, 1), (173, .invokevirtual 191, 3), (176, .ireturn, 1), (177, .aload_n 0, 1), (178, .getfield 42, 3), (181, .aload_n 0, 1), (182, .getfield 56, 3), (185, .iload_n 1, 1), (186, .invokevirtual 195, 3), (189, .ireturn, 1), (190, .aload_n 0, 1), (191, .getfield 42, 3), (194, .aload_n 0, 1), (195, .getfield 56, 3), (198, .iload_n 1, 1), (199, .invokevirtual 198, 3), (202, .ireturn, 1), (203, .aload_n 0, 1), (204, .getfield 56, 3), (207, .iload_n 1, 1), (208, .invokevirtual 201, 3), (211, .ireturn, 1)]
set_option maxRecDepth 100000 in
theorem dX11_boat_0 : mj_pd cX11_boat pX11_boat_0 := mj_pdB (by decide +kernel)
set_option maxRecDepth 100000 in
set_option maxHeartbeats 4000000 in
theorem inX11_boat {Ω : mj_Om} {l : Launch} {d : Nat} {Φ : Option Value → mj_M → Prop} (hd : 5 ≤ d) (b : Int32) (x : Int32) (I : Nat → Nat → Int32) (J : Nat → Nat → Int64)
    (h : ((if b < (0 : Int32) then False else (if b < (I 39 8) then (if x < (0 : Int32) then False else (if (11 : Int32) < x then False else (if x = (0 : Int32) then (mj_gd (mj_inB b 8) (Φ (some (.int (I 40 (b).toNatClampNeg))) (mk I J))) else (if x = (1 : Int32) then (mj_gd (mj_inB b 8) (Φ (some (.int (I 41 (b).toNatClampNeg))) (mk I J))) else (if x = (2 : Int32) then (mj_gd (mj_inB b 8) (Φ (some (.int (I 42 (b).toNatClampNeg))) (mk I J))) else (if x = (3 : Int32) then (mj_gd (mj_inB b 8) (Φ (some (.int (I 43 (b).toNatClampNeg))) (mk I J))) else (if x = (4 : Int32) then (mj_gd (mj_inB b 8) (Φ (some (.int (I 44 (b).toNatClampNeg))) (mk I J))) else (if x = (5 : Int32) then (mj_gd (mj_inB b 8) (Φ (some (.int (I 45 (b).toNatClampNeg))) (mk I J))) else (if x = (6 : Int32) then (mj_gd (mj_inB b 8) (Φ (some (.int (I 46 (b).toNatClampNeg))) (mk I J))) else (if x = (7 : Int32) then (mj_gd (mj_inB b 8) (Φ (some (.int (I 47 (b).toNatClampNeg))) (mk I J))) else (if x = (8 : Int32) then ((isCF 26 39 ∧ mj_isk (mk I J)) ∧ ((nF I 39 ≤ 8 ∧ isB (nF I 39) b) ∧ (Φ (some (.int (stat (I (26 + 1) 6) (VF I 39) (b).toNatClampNeg))) (mk I J)))) else (if x = (9 : Int32) then ((isCF 26 39 ∧ mj_isk (mk I J)) ∧ ((okF I 39 ∧ isB (nF I 39) b ∧ lineOk (lv7 (I (26 + 1)))) ∧ (Φ (some (.int (score (nF I 39) (lv7 (I (26 + 1))) (I (26 + 1) 6) (VF I 39) (b).toNatClampNeg))) (mk I J)))) else (if x = (10 : Int32) then ((isCF 26 39 ∧ mj_isk (mk I J)) ∧ (∃ b3515 : Nat, b = nI b3515 ∧ ((okF I 39 ∧ b3515 < nF I 39 ∧ lineOk (lv7 (I (26 + 1)))) ∧ (Φ (some (.int (nI (place (nF I 39) (lv7 (I (26 + 1))) (I (26 + 1) 6) (VF I 39) b3515)))) (mk I J))))) else ((isF3 39 ∧ mj_isk (mk I J)) ∧ (∃ b3518 : Nat, b = nI b3518 ∧ ((okF I 39 ∧ b3518 < nF I 39) ∧ (Φ (some (.int (blv (VF I 39) b3518))) (mk I J)))))))))))))))))) else False)))) :
    mj_Met Ω l false mX11_boat d 0 0 [.ref 0, .int b, .int x] (mk I J) Φ := mj_entry (by decide) rfl (fun h => (by cases h)) (Nat.le_of_ble_eq_true rfl) (mj_blk (μ := mX11_boat) (P := pX11_boat_0) (cut := cutX11_boat) (cs := csX11_boat) dX11_boat_0 csX11_boat_ok hd 87 0 _ h)
def csX12_boat : List (Nat × Nat × Nat × mj_PT) := [(214, 1, 3, tX12_in), (283, 0, 3, mj_rcv 12 tX12_of), (292, 0, 3, mj_rcv 12 tX12_statusBy), (306, 0, 2, mj_rcv 12 tX12_isBoat), (309, 0, 2, mj_rcv 12 tX12_most), (312, 0, 2, mj_rcv 12 tX12_scoreOf), (315, 0, 2, mj_rcv 12 tX12_placeOf), (318, 0, 2, mj_rcv 12 tX12_believed)]
theorem csX12_boat_ok : mj_Cs mX12_boat 6 csX12_boat := (mj_CsS (D' := 1) sdX12_in (Nat.le_of_ble_eq_true rfl) fX12_in sX12_in (by decide +kernel) l12_214 (mj_CsV (D' := 1) (ci := 12) (q := (RX12, TX12, 45)) sdX12_of (Nat.le_of_ble_eq_true rfl) fX12_of rfl rfl iX12_of vX12_of (by decide +kernel) l12_283 (mj_CsV (D' := 2) (ci := 12) (q := (RX12, TX12, 45)) sdX12_statusBy (Nat.le_of_ble_eq_true rfl) fX12_statusBy rfl rfl iX12_statusBy vX12_statusBy (by decide +kernel) l12_292 (mj_CsV (D' := 2) (ci := 12) (q := (RX12, TX12, 45)) sdX12_isBoat (Nat.le_of_ble_eq_true rfl) fX12_isBoat rfl rfl iX12_isBoat vX12_isBoat (by decide +kernel) l12_306 (mj_CsV (D' := 1) (ci := 12) (q := (RX12, TX12, 45)) sdX12_most (Nat.le_of_ble_eq_true rfl) fX12_most rfl rfl iX12_most vX12_most (by decide +kernel) l12_309 (mj_CsV (D' := 4) (ci := 12) (q := (RX12, TX12, 45)) sdX12_scoreOf (Nat.le_of_ble_eq_true rfl) fX12_scoreOf rfl rfl iX12_scoreOf vX12_scoreOf (by decide +kernel) l12_312 (mj_CsV (D' := 5) (ci := 12) (q := (RX12, TX12, 45)) sdX12_placeOf (Nat.le_of_ble_eq_true rfl) fX12_placeOf rfl rfl iX12_placeOf vX12_placeOf (by decide +kernel) l12_315 (mj_CsV (D' := 2) (ci := 12) (q := (RX12, TX12, 45)) sdX12_believed (Nat.le_of_ble_eq_true rfl) fX12_believed rfl rfl iX12_believed vX12_believed (by decide +kernel) l12_318 mj_Cs0))))))))
def cutX12_boat : List (Nat × List Bool) := []
def pX12_boat_0 : List (Nat × Instr × Nat) := [(0, .aload_n 0, 1), (1, .aload_n 0, 1), (2, .iload_n 1, 1), (3, .invokevirtual 306, 3), (6, .ifCond .eq 17, 3), (9, .iload_n 2, 1), (10, .iconst 0, 1), (11, .bipush 11, 2), (13, .invokestatic 214, 3), (16, .ifCond .eq 7, 3), (19, .iconst 0, 1), (20, .goto 4, 3), (23, .iconst 1, 1), (24, .putfield 99, 3), (27, .aload_n 0, 1), (28, .getfield 99, 3), (31, .iconst 1, 1), (32, .if_icmp .ne 5, 3), (35, .iconst 0, 1), (36, .ireturn, 1), (37, .iload_n 2, 1), (38, .tableswitch 129 0 10 #[58, 58, 58, 65, 71, 83, 90, 97, 104, 117, 123], 58), (96, .aload_n 0, 1), (97, .iload_n 1, 1), (98, .iload_n 2, 1), (99, .invokevirtual 283, 3), (102, .ireturn, 1), (103, .aload_n 0, 1), (104, .iload_n 1, 1), (105, .invokevirtual 309, 3), (108, .ireturn, 1), (109, .aload_n 0, 1), (110, .getfield 49, 3), (113, .bipush 6, 2), (115, .iload_n 1, 1), (116, .imul, 1), (117, .iconst 4, 1), (118, .iadd, 1), (119, .iaload, 1), (120, .ireturn, 1), (121, .aload_n 0, 1), (122, .iload_n 1, 1), (123, .iconst 3, 1), (124, .invokevirtual 283, 3), (127, .ireturn, 1), (128, .aload_n 0, 1), (129, .iload_n 1, 1), (130, .iconst 4, 1), (131, .invokevirtual 283, 3), (134, .ireturn, 1), (135, .aload_n 0, 1), (136, .iload_n 1, 1), (137, .iconst 5, 1), (138, .invokevirtual 283, 3), (141, .ireturn, 1), (142, .aload_n 0, 1), (143, .iload_n 1, 1), (144, .aload_n 0, 1), (145, .getfield 46, 3), (148, .bipush 6, 2), (150, .iaload, 1), (151, .invokevirtual 292, 3), (154, .ireturn, 1), (155, .aload_n 0, 1), (156, .iload_n 1, 1), (157, .invokevirtual 312, 3), (160, .ireturn, 1), (161, .aload_n 0, 1), (162, .iload_n 1, 1), (163, .invokevirtual 315, 3), (166, .ireturn, 1), (167, .aload_n 0, 1), (168, .iload_n 1, 1), (169, .invokevirtual 318, 3), (172, .ireturn, 1)]
set_option maxRecDepth 100000 in
theorem dX12_boat_0 : mj_pd cX12_boat pX12_boat_0 := mj_pdB (by decide +kernel)
set_option maxRecDepth 100000 in
set_option maxHeartbeats 4000000 in
theorem inX12_boat {Ω : mj_Om} {l : Launch} {d : Nat} {Φ : Option Value → mj_M → Prop} (hd : 6 ≤ d) (b : Int32) (x : Int32) (I : Nat → Nat → Int32) (J : Nat → Nat → Int64)
    (h : ((if b < (0 : Int32) then (Φ (some (.int (0 : Int32))) (mk (mj_ui I 91 0 (1 : Int32)) J)) else (if ((I 91 22) - (1 : Int32)) < b then (Φ (some (.int (0 : Int32))) (mk (mj_ui I 91 0 (1 : Int32)) J)) else (if x < (0 : Int32) then (Φ (some (.int (0 : Int32))) (mk (mj_ui I 91 0 (1 : Int32)) J)) else (if (11 : Int32) < x then (Φ (some (.int (0 : Int32))) (mk (mj_ui I 91 0 (1 : Int32)) J)) else (if x = (0 : Int32) then (mj_gd (mj_inB (((6 : Int32) * b) + x) 49) (Φ (some (.int (I 106 ((((6 : Int32) * b) + x)).toNatClampNeg))) (mk (mj_ui I 91 0 (0 : Int32)) J))) else (if x = (1 : Int32) then (mj_gd (mj_inB (((6 : Int32) * b) + x) 49) (Φ (some (.int (I 106 ((((6 : Int32) * b) + x)).toNatClampNeg))) (mk (mj_ui I 91 0 (0 : Int32)) J))) else (if x = (2 : Int32) then (mj_gd (mj_inB (((6 : Int32) * b) + x) 49) (Φ (some (.int (I 106 ((((6 : Int32) * b) + x)).toNatClampNeg))) (mk (mj_ui I 91 0 (0 : Int32)) J))) else (if x = (3 : Int32) then (mj_gd (mj_inB (((6 : Int32) * b) + (3 : Int32)) 48) (Φ (some (.int (I 105 ((((6 : Int32) * b) + (3 : Int32))).toNatClampNeg))) (mk (mj_ui I 91 0 (0 : Int32)) J))) else (if x = (4 : Int32) then (mj_gd (mj_inB (((6 : Int32) * b) + (4 : Int32)) 48) (Φ (some (.int (I 105 ((((6 : Int32) * b) + (4 : Int32))).toNatClampNeg))) (mk (mj_ui I 91 0 (0 : Int32)) J))) else (if x = (5 : Int32) then (mj_gd (mj_inB (((6 : Int32) * b) + (3 : Int32)) 49) (Φ (some (.int (I 106 ((((6 : Int32) * b) + (3 : Int32))).toNatClampNeg))) (mk (mj_ui I 91 0 (0 : Int32)) J))) else (if x = (6 : Int32) then (mj_gd (mj_inB (((6 : Int32) * b) + (4 : Int32)) 49) (Φ (some (.int (I 106 ((((6 : Int32) * b) + (4 : Int32))).toNatClampNeg))) (mk (mj_ui I 91 0 (0 : Int32)) J))) else (if x = (7 : Int32) then (mj_gd (mj_inB (((6 : Int32) * b) + (5 : Int32)) 49) (Φ (some (.int (I 106 ((((6 : Int32) * b) + (5 : Int32))).toNatClampNeg))) (mk (mj_ui I 91 0 (0 : Int32)) J))) else (if x = (8 : Int32) then ((91 = 91 ∧ mj_isk (mk (mj_ui I 91 0 (0 : Int32)) J)) ∧ (∃ b3534 : Nat, b = nI b3534 ∧ ((okM (mj_ui I 91 0 (0 : Int32)) ∧ b3534 < nM (mj_ui I 91 0 (0 : Int32))) ∧ (Φ (some (.int (stat (I 104 6) (VM (mj_ui I 91 0 (0 : Int32))) b3534))) (mk (mj_ui I 91 0 (0 : Int32)) J))))) else (if x = (9 : Int32) then ((91 = 91 ∧ mj_isk (mk (mj_ui I 91 0 (0 : Int32)) J)) ∧ (∃ b3537 : Nat, b = nI b3537 ∧ ((okM (mj_ui I 91 0 (0 : Int32)) ∧ b3537 < nM (mj_ui I 91 0 (0 : Int32)) ∧ lineOk (lv7 ((mj_ui I 91 0 (0 : Int32)) 104)) ∧ colB (nM (mj_ui I 91 0 (0 : Int32))) (VM (mj_ui I 91 0 (0 : Int32)))) ∧ (Φ (some (.int (score (nM (mj_ui I 91 0 (0 : Int32))) (lv7 ((mj_ui I 91 0 (0 : Int32)) 104)) (I 104 6) (VM (mj_ui I 91 0 (0 : Int32))) b3537))) (mk (mj_ui I 91 0 (0 : Int32)) J))))) else (if x = (10 : Int32) then ((91 = 91 ∧ mj_isk (mk (mj_ui I 91 0 (0 : Int32)) J)) ∧ (∃ b3540 : Nat, b = nI b3540 ∧ (∃ u3541 : Int, ((u3541 ≤ 1000 ∧ FM u3541 (mj_ui I 91 0 (0 : Int32)) ∧ b3540 < nM (mj_ui I 91 0 (0 : Int32))) ∧ (Φ (some (.int (nI (place (nM (mj_ui I 91 0 (0 : Int32))) (lv7 ((mj_ui I 91 0 (0 : Int32)) 104)) (I 104 6) (VM (mj_ui I 91 0 (0 : Int32))) b3540)))) (mk (mj_ui I 91 0 (0 : Int32)) J)))))) else ((91 = 91 ∧ mj_isk (mk (mj_ui I 91 0 (0 : Int32)) J)) ∧ (∃ b3544 : Nat, b = nI b3544 ∧ ((okM (mj_ui I 91 0 (0 : Int32)) ∧ b3544 < nM (mj_ui I 91 0 (0 : Int32))) ∧ (Φ (some (.int (blv (VM (mj_ui I 91 0 (0 : Int32))) b3544))) (mk (mj_ui I 91 0 (0 : Int32)) J)))))))))))))))))))))) :
    mj_Met Ω l false mX12_boat d 0 0 [.ref 91, .int b, .int x] (mk I J) Φ := mj_entry (by decide) rfl (fun h => (by cases h)) (Nat.le_of_ble_eq_true rfl) (mj_blk (μ := mX12_boat) (P := pX12_boat_0) (cut := cutX12_boat) (cs := csX12_boat) dX12_boat_0 csX12_boat_ok hd 76 0 _ h)
/-- what boat answers -/
noncomputable def boR (n : Nat) (C : Nat → Int32) (F : Vw) (b : Nat) (x : Int32) : Int32 := if x = 0 then F 0 b else if x = 1 then F 1 b else if x = 2 then F 2 b else if x = 3 then F 3 b else if x = 4 then F 4 b else if x = 5 then F 5 b else if x = 6 then F 6 b else if x = 7 then F 7 b else if x = 8 then stat (C 6) F b else if x = 9 then score n C (C 6) F b else if x = 10 then nI (place n C (C 6) F b) else blv F b
theorem boat_in {n : Nat} {b x : Int32} (hn : n ≤ 8) (h : ¬ (b < 0 ∨ ¬ b < nI n ∨ x < 0 ∨ 11 < x)) : ∃ k, b = nI k ∧ k < n ∧ ¬ x < 0 ∧ ¬ 11 < x := by
  have h0 : ¬ b < 0 := fun w => h (Or.inl w)
  have e := jn_of (x := b) (Int32.not_lt.mp h0)
  refine ⟨b.toNatClampNeg, e, ?_, fun w => h (Or.inr (Or.inr (Or.inl w))), fun w => h (Or.inr (Or.inr (Or.inr w)))⟩
  have h1 : b < nI n := Classical.not_not.mp (fun w => h (Or.inr (Or.inl w)))
  rw [e, jn_lt (cl_lt b) (by omega)] at h1
  exact h1
set_option maxHeartbeats 4000000 in
theorem boat_C {Ω : mj_Om} {l : Launch} {I : Nat → Nat → Int32} {J : Nat → Nat → Int64} {b : Nat} {x : Int32} (h : Rel I) (hb : b < nF I 39) (h0 : ¬ x < 0) (h1 : ¬ 11 < x) : mj_Met Ω l false mX11_boat 10 0 0 [.ref 0, .int (nI b), .int x] (mk I J) (fun r M' => r = some (.int (boR (nF I 39) (lv7 (I 27)) (VF I 39) b x)) ∧ M' = mk I J) := by
  obtain ⟨w1, w2, w3, w4, w5⟩ := id h.2.2.1
  obtain ⟨x1, x2, x3, -⟩ := w5 (by omega)
  have hn := w1.2
  have e6 : lv7 (I 27) 6 = I 27 6 := lv7_at (by decide)
  refine inX11_boat (Nat.le_of_ble_eq_true rfl) (nI b) x I J ?_
  rw [if_neg (show ¬ nI b < (0 : Int32) from nnl (b := 0) (by omega) (by omega)), w1.1, if_pos (nlt hb (by omega)), if_neg h0, if_neg h1]
  have hB : isB (nF I 39) (nI b) := by unfold isB; rw [jn_cl (by omega)]; exact ⟨rfl, hb⟩
  unfold boR
  rw [e6]
  by_cases q0 : x = 0
  · rw [if_pos q0, if_pos q0, VF_0 (I := I) (f := 39) (b := b) hb]; simp (disch := omega) only [jn_in, jn_cl, gd_dec]; (try exact ⟨by trivial, by trivial⟩)
  rw [if_neg q0, if_neg q0]
  by_cases q1 : x = 1
  · rw [if_pos q1, if_pos q1, VF_1 (I := I) (f := 39) (b := b) hb]; simp (disch := omega) only [jn_in, jn_cl, gd_dec]; (try exact ⟨by trivial, by trivial⟩)
  rw [if_neg q1, if_neg q1]
  by_cases q2 : x = 2
  · rw [if_pos q2, if_pos q2, VF_2 (I := I) (f := 39) (b := b) hb]; simp (disch := omega) only [jn_in, jn_cl, gd_dec]; (try exact ⟨by trivial, by trivial⟩)
  rw [if_neg q2, if_neg q2]
  by_cases q3 : x = 3
  · rw [if_pos q3, if_pos q3, VF_3 (I := I) (f := 39) (b := b) hb]; simp (disch := omega) only [jn_in, jn_cl, gd_dec]; (try exact ⟨by trivial, by trivial⟩)
  rw [if_neg q3, if_neg q3]
  by_cases q4 : x = 4
  · rw [if_pos q4, if_pos q4, VF_4 (I := I) (f := 39) (b := b) hb]; simp (disch := omega) only [jn_in, jn_cl, gd_dec]; (try exact ⟨by trivial, by trivial⟩)
  rw [if_neg q4, if_neg q4]
  by_cases q5 : x = 5
  · rw [if_pos q5, if_pos q5, VF_5 (I := I) (f := 39) (b := b) hb]; simp (disch := omega) only [jn_in, jn_cl, gd_dec]; (try exact ⟨by trivial, by trivial⟩)
  rw [if_neg q5, if_neg q5]
  by_cases q6 : x = 6
  · rw [if_pos q6, if_pos q6, VF_6 (I := I) (f := 39) (b := b) hb]; simp (disch := omega) only [jn_in, jn_cl, gd_dec]; (try exact ⟨by trivial, by trivial⟩)
  rw [if_neg q6, if_neg q6]
  by_cases q7 : x = 7
  · rw [if_pos q7, if_pos q7, VF_7 (I := I) (f := 39) (b := b) hb]; simp (disch := omega) only [jn_in, jn_cl, gd_dec]; (try exact ⟨by trivial, by trivial⟩)
  rw [if_neg q7, if_neg q7]
  rw [jn_cl (show b < 2147483648 by omega)]
  by_cases q8 : x = 8
  · rw [if_pos q8, if_pos q8]; exact ⟨⟨by unfold isCF; omega, mj_isk_mk _ _⟩, ⟨hn, hB⟩, rfl, rfl⟩
  rw [if_neg q8, if_neg q8]
  by_cases q9 : x = 9
  · rw [if_pos q9, if_pos q9]; exact ⟨⟨by unfold isCF; omega, mj_isk_mk _ _⟩, ⟨w1, hB, x3.1⟩, rfl, rfl⟩
  rw [if_neg q9, if_neg q9]
  by_cases q10 : x = 10
  · rw [if_pos q10, if_pos q10]; exact ⟨⟨by unfold isCF; omega, mj_isk_mk _ _⟩, b, rfl, ⟨w1, hb, x3.1⟩, rfl, rfl⟩
  rw [if_neg q10, if_neg q10]
  exact ⟨⟨by unfold isF3; omega, mj_isk_mk _ _⟩, b, rfl, ⟨w1, hb⟩, rfl, rfl⟩
set_option maxHeartbeats 4000000 in
theorem boat_M {Ω : mj_Om} {l : Launch} {I : Nat → Nat → Int32} {J : Nat → Nat → Int64} {b : Nat} {x : Int32} (h : Rel I) (hb : b < nF I 39) (h0 : ¬ x < 0) (h1 : ¬ 11 < x) : mj_Met Ω l false mX12_boat 60 0 0 [.ref 91, .int (nI b), .int x] (mk I J) (fun r M' => r = some (.int (boR (nF I 39) (lv7 (I 27)) (VF I 39) b x)) ∧ ∃ I2, M' = mk I2 J ∧ I2 91 0 = 0 ∧ Rel I2) := by
  obtain ⟨w1, w2, w3, w4, w5⟩ := id h.2.2.1
  obtain ⟨x1, x2, x3, -⟩ := w5 (by omega)
  have hn := w1.2
  have hfr : fr (fun c k => c = 91 ∧ k = 0) I (mj_ui I 91 0 0) := fr_ui fr_rf ⟨rfl, rfl⟩
  have fin : ∃ I2, mk (mj_ui I 91 0 0) J = mk I2 J ∧ I2 91 0 = 0 ∧ Rel I2 := ⟨_, rfl, ui_s, Rel_q h (fr_mo hfr (fun c k w => by unfold Scr; omega))⟩
  obtain ⟨n1, V1, o1⟩ := MM_fr (I := I) (I1 := mj_ui I 91 0 0) (hfr 91 22 (by (try dsimp only); omega)) (fun k => hfr 105 k (by (try dsimp only); omega)) (fun k => hfr 106 k (by (try dsimp only); omega))
  have C1 : lv7 ((mj_ui I 91 0 0) 104) = lv7 (I 27) := by rw [← x1]; exact lv7_fr (fun k => hfr 104 k (by (try dsimp only); omega))
  have oA := o1 w2
  have s1 : (mj_ui I 91 0 0) 106 48 = I 106 48 := hfr 106 48 (by (try dsimp only); omega)
  have e6 : I 104 6 = lv7 (I 27) 6 := by rw [← x1]; exact (lv7_at (by decide)).symm
  rw [w3] at n1
  rw [x2] at V1
  refine inX12_boat (Nat.le_of_ble_eq_true rfl) (nI b) x I J ?_
  have hM : nM I = nF I 39 := w3
  rw [if_neg (show ¬ nI b < (0 : Int32) from nnl (b := 0) (by omega) (by omega)), w2.1, hM, show nI (nF I 39) - 1 = nI (nF I 39 - 1) from jn_subn (b := 1) (by omega), if_neg (nnl (by omega) (by omega)), if_neg h0, if_neg h1]
  unfold boR
  by_cases q0 : x = 0
  · rw [if_pos q0, if_pos q0, ← x2, VM_0 (I := I) (b := b) (by omega)]
    rw [show x = (0 : Int32) from q0]
    simp (disch := omega) only [jn_in, jn_cl, gd_dec, n6_0]
    exact ⟨by trivial, fin⟩
  rw [if_neg q0, if_neg q0]
  by_cases q1 : x = 1
  · rw [if_pos q1, if_pos q1, ← x2, VM_1 (I := I) (b := b) (by omega)]
    rw [show x = (1 : Int32) from q1]
    simp (disch := omega) only [jn_in, jn_cl, gd_dec, n6_1]
    exact ⟨by trivial, fin⟩
  rw [if_neg q1, if_neg q1]
  by_cases q2 : x = 2
  · rw [if_pos q2, if_pos q2, ← x2, VM_2 (I := I) (b := b) (by omega)]
    rw [show x = (2 : Int32) from q2]
    simp (disch := omega) only [jn_in, jn_cl, gd_dec, n6_2]
    exact ⟨by trivial, fin⟩
  rw [if_neg q2, if_neg q2]
  by_cases q3 : x = 3
  · rw [if_pos q3, if_pos q3, ← x2, VM_3 (I := I) (b := b) (by omega)]
    simp (disch := omega) only [jn_in, jn_cl, gd_dec, n6_3]
    exact ⟨by trivial, fin⟩
  rw [if_neg q3, if_neg q3]
  by_cases q4 : x = 4
  · rw [if_pos q4, if_pos q4, ← x2, VM_4 (I := I) (b := b) (by omega)]
    simp (disch := omega) only [jn_in, jn_cl, gd_dec, n6_4]
    exact ⟨by trivial, fin⟩
  rw [if_neg q4, if_neg q4]
  by_cases q5 : x = 5
  · rw [if_pos q5, if_pos q5, ← x2, VM_5 (I := I) (b := b) (by omega)]
    simp (disch := omega) only [jn_in, jn_cl, gd_dec, n6_3]
    exact ⟨by trivial, fin⟩
  rw [if_neg q5, if_neg q5]
  by_cases q6 : x = 6
  · rw [if_pos q6, if_pos q6, ← x2, VM_6 (I := I) (b := b) (by omega)]
    simp (disch := omega) only [jn_in, jn_cl, gd_dec, n6_4]
    exact ⟨by trivial, fin⟩
  rw [if_neg q6, if_neg q6]
  by_cases q7 : x = 7
  · rw [if_pos q7, if_pos q7, ← x2, VM_7 (I := I) (b := b) (by omega)]
    simp (disch := omega) only [jn_in, jn_cl, gd_dec, n6_5]
    exact ⟨by trivial, fin⟩
  rw [if_neg q7, if_neg q7]
  rw [n1, C1, V1, e6]
  by_cases q8 : x = 8
  · rw [if_pos q8, if_pos q8]; exact ⟨⟨by trivial, mj_isk_mk _ _⟩, b, rfl, ⟨oA, hb⟩, rfl, fin⟩
  rw [if_neg q8, if_neg q8]
  by_cases q9 : x = 9
  · rw [if_pos q9, if_pos q9]; exact ⟨⟨by trivial, mj_isk_mk _ _⟩, b, rfl, ⟨oA, hb, x3.1, FOk_col x3⟩, rfl, fin⟩
  rw [if_neg q9, if_neg q9]
  by_cases q10 : x = 10
  · rw [if_pos q10, if_pos q10]; exact ⟨⟨by trivial, mj_isk_mk _ _⟩, b, rfl, 19, ⟨by decide, ⟨oA, by rw [n1, C1, V1, s1, w4]; exact x3⟩, hb⟩, rfl, fin⟩
  rw [if_neg q10, if_neg q10]
  exact ⟨⟨by trivial, mj_isk_mk _ _⟩, b, rfl, ⟨oA, hb⟩, rfl, fin⟩
set_option maxHeartbeats 4000000 in
theorem boat_X {Ω : mj_Om} {l : Launch} {I : Nat → Nat → Int32} {J : Nat → Nat → Int64} {b x : Int32} (h : Rel I) (hbad : mj_badB I b x) : mj_Met Ω l false mX12_boat 60 0 0 [.ref 91, .int b, .int x] (mk I J) (fun r M' => r = some (.int 0) ∧ ∃ I2, M' = mk I2 J ∧ I2 91 0 = 1 ∧ Rel I2) := by
  obtain ⟨w1, w2, w3, w4, w5⟩ := id h.2.2.1
  have hn := w1.2
  have hfr : fr (fun c k => c = 91 ∧ k = 0) I (mj_ui I 91 0 1) := fr_ui fr_rf ⟨rfl, rfl⟩
  have fin : some (Value.int 0) = some (.int 0) ∧ ∃ I2, mk (mj_ui I 91 0 1) J = mk I2 J ∧ I2 91 0 = 1 ∧ Rel I2 := ⟨rfl, _, rfl, ui_s, Rel_q h (fr_mo hfr (fun c k w => by unfold Scr; omega))⟩
  refine inX12_boat (Nat.le_of_ble_eq_true rfl) b x I J ?_
  by_cases q0 : b < 0
  · rw [if_pos q0]; exact fin
  rw [if_neg q0]
  by_cases q1 : I 91 22 - 1 < b
  · rw [if_pos q1]; exact fin
  rw [if_neg q1]
  by_cases q2 : x < 0
  · rw [if_pos q2]; exact fin
  rw [if_neg q2]
  by_cases q3 : 11 < x
  · rw [if_pos q3]; exact fin
  exfalso
  rcases hbad with w | w | w | w
  · exact q0 w
  · rw [w1.1] at w
    rw [w2.1, w3] at q1
    rw [Int32.lt_iff_toInt_lt, jn_toInt (by omega)] at w
    rw [Int32.lt_iff_toInt_lt, i_sub1 (by rw [jn_toInt (by omega)]; omega), jn_toInt (by omega)] at q1
    omega
  · exact q2 w
  · exact q3 w
