/-! ===== the class's RuleReader: conditions (by program, wip/whole/p77.py) ===== -/
theorem cmO_m1 {s : Int32} : ¬ cmO s = -1 := by
  unfold cmO
  repeat (split; · decide)
  decide
theorem e_ui12 {D : Nat → Nat → Int32} {x : Int32} : (mj_ui D 1 2 x) 25 = D 25 := funext (fun k => ui_c (by decide))
theorem pgo_id {r : PR} : pgo r (fun p2 ys => .ok (p2, [] ++ ys)) = r := by cases r <;> rfl
def tX7_readUnit (w : Nat) : mj_PT := fun as M Φ => match as with
  | [.ref this, .int v, .int b] => ((this = 24 ∧ mj_isk M) ∧ (∃ t : Nat, (∃ τ : Nat → Int32, (∃ p : Nat, (∃ n : Nat, ((w ≤ 6 ∧ v = nI w ∧ (b = 0 ∨ b = 1) ∧ prC M.2.2.1 t τ p n) ∧ (∀ I1 : Nat → Nat → Int32, (wrC (unX t τ w b p) n M.2.2.1 I1) → Φ (some (.int (okB (unX t τ w b p)))) (M.1, M.2.1, I1, M.2.2.2))))))))
  | _ => False
def tX7_readTruth (w : Nat) : mj_PT := fun as M Φ => match as with
  | [.ref this, .int v, .int b] => ((this = 24 ∧ mj_isk M) ∧ (∃ t : Nat, (∃ τ : Nat → Int32, (∃ p : Nat, (∃ n : Nat, ((w ≤ 6 ∧ v = nI w ∧ (b = 0 ∨ b = 1) ∧ prC M.2.2.1 t τ p n) ∧ (∀ I1 : Nat → Nat → Int32, (wrC (trX t τ w b p) n M.2.2.1 I1) → Φ (some (.int (okB (trX t τ w b p)))) (M.1, M.2.1, I1, M.2.2.2))))))))
  | _ => False
def tX7_readCondition (w : Nat) : mj_PT := fun as M Φ => match as with
  | [.ref this, .int v, .int b] => ((this = 24 ∧ mj_isk M) ∧ (∃ t : Nat, (∃ τ : Nat → Int32, (∃ p : Nat, (∃ n : Nat, ((w ≤ 6 ∧ v = nI w ∧ (b = 0 ∨ b = 1) ∧ prC M.2.2.1 t τ p n) ∧ (∀ I1 : Nat → Nat → Int32, (wrC (cdX t τ w b p) n M.2.2.1 I1) → Φ (some (.int (okB (cdX t τ w b p)))) (M.1, M.2.1, I1, M.2.2.2))))))))
  | _ => False
def csX7_readUnit (w : Nat) : List (Nat × Nat × Nat × mj_PT) := [(37, 0, 2, mj_rcv 8 tX8_take), (41, 0, 1, mj_rcv 8 tX8_nextSign), (45, 0, 3, mj_rcv 7 (tX7_readCondition (w + 1))), (52, 0, 2, mj_rcv 7 (tX7_readSum w)), (55, 1, 1, tX7_comparisonOfS), (59, 0, 2, mj_rcv 7 tX7_emitS), (66, 0, 3, mj_rcv 7 (tX7_readUnit (w + 1)))]
theorem csX7_readUnit_ok {w : Nat} (hw : w ≤ 6) (h_X7_readCondition : mj_Sd mX7_readCondition (10 + 3 * (7 - (w + 1)) + 2) (tX7_readCondition (w + 1))) (h_X7_readSum : mj_Sd mX7_readSum (7 + 3 * (7 - w) + 2) (tX7_readSum w)) (h_X7_readUnit : mj_Sd mX7_readUnit (10 + 3 * (7 - (w + 1)) + 0) (tX7_readUnit (w + 1))) : mj_Cs mX7_readUnit (10 + 3 * (7 - w) + 0) (csX7_readUnit w) := (mj_CsV (D' := 3) (ci := 8) (q := (RX8, TX8, 3)) sdX8_take (by omega) fX8_take rfl rfl iX8_take vX8_take (by decide +kernel) l7_37 (mj_CsV (D' := 2) (ci := 8) (q := (RX8, TX8, 3)) sdX8_nextSign (by omega) fX8_nextSign rfl rfl iX8_nextSign vX8_nextSign (by decide +kernel) l7_41 (mj_CsV (D' := (10 + 3 * (7 - (w + 1)) + 2)) (ci := 7) (q := (RX7, TX7, 3)) h_X7_readCondition (by omega) fX7_readCondition rfl rfl iX7_readCondition vX7_readCondition (by decide +kernel) l7_45 (mj_CsV (D' := (7 + 3 * (7 - w) + 2)) (ci := 7) (q := (RX7, TX7, 3)) h_X7_readSum (by omega) fX7_readSum rfl rfl iX7_readSum vX7_readSum (by decide +kernel) l7_52 (mj_CsS (D' := 1) sdX7_comparisonOfS (by omega) fX7_comparisonOf sX7_comparisonOf (by decide +kernel) l7_55 (mj_CsV (D' := 1) (ci := 7) (q := (RX7, TX7, 3)) sdX7_emitS (by omega) fX7_emit rfl rfl iX7_emit vX7_emit (by decide +kernel) l7_59 (mj_CsV (D' := (10 + 3 * (7 - (w + 1)) + 0)) (ci := 7) (q := (RX7, TX7, 3)) h_X7_readUnit (by omega) fX7_readUnit rfl rfl iX7_readUnit vX7_readUnit (by decide +kernel) l7_66 mj_Cs0)))))))
def cutX7_readUnit : List (Nat × List Bool) := [(57, [true, true, true, true, false]), (113, [true, true, true, true, false]), (127, [true, true, true, true, false])]
def pX7_readUnit_0 : List (Nat × Instr × Nat) := [(0, .aload_n 0, 1), (1, .getfield 17, 3), (4, .invokevirtual 41, 3), (7, .istore_n 3, 1), (8, .iload_n 2, 1), (9, .ifCond .ne 48, 3), (12, .iload_n 3, 1), (13, .bipush 33, 2), (15, .if_icmp .ne 42, 3), (18, .iload_n 1, 1), (19, .bipush 6, 2), (21, .if_icmp .ge 25, 3), (24, .aload_n 0, 1), (25, .getfield 17, 3), (28, .iload_n 3, 1), (29, .invokevirtual 37, 3), (32, .ifCond .eq 14, 3), (35, .aload_n 0, 1), (36, .iload_n 1, 1), (37, .iconst 1, 1), (38, .iadd, 1), (39, .iconst 0, 1), (40, .invokevirtual 66, 3), (43, .ifCond .ne 5, 3), (46, .iconst 0, 1), (47, .ireturn, 1), (48, .aload_n 0, 1), (49, .sipush 20009, 3), (52, .invokevirtual 59, 3), (55, .iconst 1, 1), (56, .ireturn, 1), (57, .iload_n 2, 1)]
set_option maxRecDepth 100000 in
theorem dX7_readUnit_0 : mj_pd cX7_readUnit pX7_readUnit_0 := mj_pdB (by decide +kernel)
set_option maxRecDepth 100000 in
set_option maxHeartbeats 4000000 in
theorem inX7_readUnit {w : Nat} (hcs : mj_Cs mX7_readUnit (10 + 3 * (7 - w) + 0) (csX7_readUnit w)) {Ω : mj_Om} {l : Launch} {d : Nat} {Φ : Option Value → mj_M → Prop} (hd : (10 + 3 * (7 - w) + 0) ≤ d) (v : Int32) (b : Int32) (I : Nat → Nat → Int32) (J : Nat → Nat → Int64)
    (h : (((1 = 1 ∧ mj_isk (mk I J)) ∧ (∃ t1378 : Nat, (∃ τ1379 : Nat → Int32, (∃ p1380 : Nat, ((TC I t1378 τ1379 ∧ I 1 2 = nI p1380 ∧ p1380 ≤ t1378) ∧ (∀ I1381 : Nat → Nat → Int32, (I1381 1 2 = nI (skp t1378 τ1379 p1380) ∧ fr rFr I I1381) → (if b = (0 : Int32) then (if (nsg t1378 τ1379 p1380) = (33 : Int32) then (if v < (6 : Int32) then ((1 = 1 ∧ mj_isk (mk I1381 J)) ∧ (∃ t1383 : Nat, (∃ τ1384 : Nat → Int32, (∃ p1385 : Nat, ((TC I1381 t1383 τ1384 ∧ I1381 1 2 = nI p1385 ∧ p1385 ≤ t1383) ∧ (∀ I1386 : Nat → Nat → Int32, (I1386 1 2 = nI (tkp t1383 τ1384 p1385 (nsg t1378 τ1379 p1380)) ∧ fr rFr I1381 I1386) → (if (b2i (nsg t1383 τ1384 p1385 = (nsg t1378 τ1379 p1380))) = (0 : Int32) then (Φ (some (.int (0 : Int32))) (mk I1386 J)) else ((24 = 24 ∧ mj_isk (mk I1386 J)) ∧ (∃ t1388 : Nat, (∃ τ1389 : Nat → Int32, (∃ p1390 : Nat, (∃ n1391 : Nat, (((w + 1) ≤ 6 ∧ (v + (1 : Int32)) = nI (w + 1) ∧ ((0 : Int32) = 0 ∨ (0 : Int32) = 1) ∧ prC I1386 t1388 τ1389 p1390 n1391) ∧ (∀ I1392 : Nat → Nat → Int32, (wrC (unX t1388 τ1389 (w + 1) (0 : Int32) p1390) n1391 I1386 I1392) → (if (okB (unX t1388 τ1389 (w + 1) (0 : Int32) p1390)) = (0 : Int32) then (Φ (some (.int (0 : Int32))) (mk I1392 J)) else ((24 = 24 ∧ mj_isk (mk I1392 J)) ∧ (∃ n1393 : Nat, ((I1392 24 2 = nI n1393 ∧ n1393 < 240) ∧ (∀ I1394 : Nat → Nat → Int32, (I1394 = mj_ui (mj_ui I1392 25 n1393 ((Int16.ofInt 20009).toInt32)) 24 2 (nI (n1393 + 1))) → (Φ (some (.int (1 : Int32))) (mk I1394 J))))))))))))))))))))) else (Φ (some (.int (0 : Int32))) (mk I1381 J))) else (mj_G Ω l false mX7_readUnit d 0 0 Φ 0 0 57 ([some (.ref 24), some (.int v), some (.int b), some (.int (nsg t1378 τ1379 p1380)), none], [], (mk I1381 J)))) else (mj_G Ω l false mX7_readUnit d 0 0 Φ 0 0 57 ([some (.ref 24), some (.int v), some (.int b), some (.int (nsg t1378 τ1379 p1380)), none], [], (mk I1381 J)))))))))))) :
    mj_Met Ω l false mX7_readUnit d 0 0 [.ref 24, .int v, .int b] (mk I J) Φ := mj_entry (by decide) rfl (fun h => (by cases h)) (Nat.le_of_ble_eq_true rfl) (mj_blk (μ := mX7_readUnit) (P := pX7_readUnit_0) (cut := cutX7_readUnit) (cs := csX7_readUnit w) dX7_readUnit_0 hcs hd 33 0 _ h)
def pX7_readUnit_57 : List (Nat × Instr × Nat) := [(57, .iload_n 2, 1), (58, .ifCond .ne 55, 3), (61, .iload_n 3, 1), (62, .bipush 40, 2), (64, .if_icmp .ne 49, 3), (67, .iload_n 1, 1), (68, .bipush 6, 2), (70, .if_icmp .ge 41, 3), (73, .aload_n 0, 1), (74, .getfield 17, 3), (77, .iload_n 3, 1), (78, .invokevirtual 37, 3), (81, .ifCond .eq 30, 3), (84, .aload_n 0, 1), (85, .iload_n 1, 1), (86, .iconst 1, 1), (87, .iadd, 1), (88, .iconst 0, 1), (89, .invokevirtual 45, 3), (92, .ifCond .eq 19, 3), (95, .aload_n 0, 1), (96, .getfield 17, 3), (99, .bipush 41, 2), (101, .invokevirtual 37, 3), (104, .ifCond .eq 7, 3), (107, .iconst 1, 1), (108, .goto 4, 3), (111, .iconst 0, 1), (112, .ireturn, 1), (113, .iload_n 2, 1)]
set_option maxRecDepth 100000 in
theorem dX7_readUnit_57 : mj_pd cX7_readUnit pX7_readUnit_57 := mj_pdB (by decide +kernel)
set_option maxRecDepth 100000 in
set_option maxHeartbeats 4000000 in
theorem bX7_readUnit_57 {w : Nat} (hcs : mj_Cs mX7_readUnit (10 + 3 * (7 - w) + 0) (csX7_readUnit w)) {Ω : mj_Om} {l : Launch} {d : Nat} {Φ : Option Value → mj_M → Prop} (hd : (10 + 3 * (7 - w) + 0) ≤ d) (x1 : Int32) (x2 : Int32) (x3 : Int32) (I : Nat → Nat → Int32) (J : Nat → Nat → Int64)
    (h : ((if x2 = (0 : Int32) then (if x3 = (40 : Int32) then (if x1 < (6 : Int32) then ((1 = 1 ∧ mj_isk (mk I J)) ∧ (∃ t1396 : Nat, (∃ τ1397 : Nat → Int32, (∃ p1398 : Nat, ((TC I t1396 τ1397 ∧ I 1 2 = nI p1398 ∧ p1398 ≤ t1396) ∧ (∀ I1399 : Nat → Nat → Int32, (I1399 1 2 = nI (tkp t1396 τ1397 p1398 x3) ∧ fr rFr I I1399) → (if (b2i (nsg t1396 τ1397 p1398 = x3)) = (0 : Int32) then (Φ (some (.int (0 : Int32))) (mk I1399 J)) else ((24 = 24 ∧ mj_isk (mk I1399 J)) ∧ (∃ t1401 : Nat, (∃ τ1402 : Nat → Int32, (∃ p1403 : Nat, (∃ n1404 : Nat, (((w + 1) ≤ 6 ∧ (x1 + (1 : Int32)) = nI (w + 1) ∧ ((0 : Int32) = 0 ∨ (0 : Int32) = 1) ∧ prC I1399 t1401 τ1402 p1403 n1404) ∧ (∀ I1405 : Nat → Nat → Int32, (wrC (cdX t1401 τ1402 (w + 1) (0 : Int32) p1403) n1404 I1399 I1405) → (if (okB (cdX t1401 τ1402 (w + 1) (0 : Int32) p1403)) = (0 : Int32) then (Φ (some (.int (0 : Int32))) (mk I1405 J)) else ((1 = 1 ∧ mj_isk (mk I1405 J)) ∧ (∃ t1406 : Nat, (∃ τ1407 : Nat → Int32, (∃ p1408 : Nat, ((TC I1405 t1406 τ1407 ∧ I1405 1 2 = nI p1408 ∧ p1408 ≤ t1406) ∧ (∀ I1409 : Nat → Nat → Int32, (I1409 1 2 = nI (tkp t1406 τ1407 p1408 (41 : Int32)) ∧ fr rFr I1405 I1409) → (if (b2i (nsg t1406 τ1407 p1408 = (41 : Int32))) = (0 : Int32) then (Φ (some (.int (0 : Int32))) (mk I1409 J)) else (Φ (some (.int (1 : Int32))) (mk I1409 J)))))))))))))))))))))))) else (Φ (some (.int (0 : Int32))) (mk I J))) else (mj_G Ω l false mX7_readUnit d 0 0 Φ 0 0 113 ([some (.ref 24), some (.int x1), some (.int x2), some (.int x3), none], [], (mk I J)))) else (mj_G Ω l false mX7_readUnit d 0 0 Φ 0 0 113 ([some (.ref 24), some (.int x1), some (.int x2), some (.int x3), none], [], (mk I J)))))) :
    mj_G Ω l false mX7_readUnit d 0 0 Φ 0 0 57 ([some (.ref 24), some (.int x1), some (.int x2), some (.int x3), none], [], mk I J) := mj_blk (μ := mX7_readUnit) (P := pX7_readUnit_57) (cut := cutX7_readUnit) (cs := csX7_readUnit w) dX7_readUnit_57 hcs hd 31 57 _ h
def pX7_readUnit_113 : List (Nat × Instr × Nat) := [(113, .iload_n 2, 1), (114, .ifCond .ne 13, 3), (117, .aload_n 0, 1), (118, .iload_n 1, 1), (119, .invokevirtual 52, 3), (122, .ifCond .ne 5, 3), (125, .iconst 0, 1), (126, .ireturn, 1), (127, .aload_n 0, 1)]
set_option maxRecDepth 100000 in
theorem dX7_readUnit_113 : mj_pd cX7_readUnit pX7_readUnit_113 := mj_pdB (by decide +kernel)
set_option maxRecDepth 100000 in
set_option maxHeartbeats 4000000 in
theorem bX7_readUnit_113 {w : Nat} (hcs : mj_Cs mX7_readUnit (10 + 3 * (7 - w) + 0) (csX7_readUnit w)) {Ω : mj_Om} {l : Launch} {d : Nat} {Φ : Option Value → mj_M → Prop} (hd : (10 + 3 * (7 - w) + 0) ≤ d) (x1 : Int32) (x2 : Int32) (x3 : Int32) (I : Nat → Nat → Int32) (J : Nat → Nat → Int64)
    (h : ((if x2 = (0 : Int32) then ((24 = 24 ∧ mj_isk (mk I J)) ∧ (∃ t1411 : Nat, (∃ τ1412 : Nat → Int32, (∃ p1413 : Nat, (∃ n1414 : Nat, ((w ≤ 6 ∧ x1 = nI w ∧ prC I t1411 τ1412 p1413 n1414) ∧ (∀ I1415 : Nat → Nat → Int32, (wrC (smW t1411 τ1412 w p1413) n1414 I I1415) → (if (okB (smW t1411 τ1412 w p1413)) = (0 : Int32) then (Φ (some (.int (0 : Int32))) (mk I1415 J)) else (mj_G Ω l false mX7_readUnit d 0 0 Φ 0 0 127 ([some (.ref 24), some (.int x1), some (.int x2), some (.int x3), none], [], (mk I1415 J))))))))))) else (mj_G Ω l false mX7_readUnit d 0 0 Φ 0 0 127 ([some (.ref 24), some (.int x1), some (.int x2), some (.int x3), none], [], (mk I J)))))) :
    mj_G Ω l false mX7_readUnit d 0 0 Φ 0 0 113 ([some (.ref 24), some (.int x1), some (.int x2), some (.int x3), none], [], mk I J) := mj_blk (μ := mX7_readUnit) (P := pX7_readUnit_113) (cut := cutX7_readUnit) (cs := csX7_readUnit w) dX7_readUnit_113 hcs hd 10 113 _ h
def pX7_readUnit_127 : List (Nat × Instr × Nat) := [(127, .aload_n 0, 1), (128, .getfield 17, 3), (131, .invokevirtual 41, 3), (134, .invokestatic 55, 3), (137, .istore 4, 2), (139, .iload 4, 2), (141, .iconst (-1), 1), (142, .if_icmp .ne 5, 3), (145, .iconst 0, 1), (146, .ireturn, 1), (147, .aload_n 0, 1), (148, .getfield 17, 3), (151, .dup, 1), (152, .getfield 34, 3), (155, .iconst 1, 1), (156, .iadd, 1), (157, .putfield 34, 3), (160, .aload_n 0, 1), (161, .iload_n 1, 1), (162, .invokevirtual 52, 3), (165, .ifCond .ne 5, 3), (168, .iconst 0, 1), (169, .ireturn, 1), (170, .aload_n 0, 1), (171, .iload 4, 2), (173, .invokevirtual 59, 3), (176, .iconst 1, 1), (177, .ireturn, 1)]
set_option maxRecDepth 100000 in
theorem dX7_readUnit_127 : mj_pd cX7_readUnit pX7_readUnit_127 := mj_pdB (by decide +kernel)
set_option maxRecDepth 100000 in
set_option maxHeartbeats 4000000 in
theorem bX7_readUnit_127 {w : Nat} (hcs : mj_Cs mX7_readUnit (10 + 3 * (7 - w) + 0) (csX7_readUnit w)) {Ω : mj_Om} {l : Launch} {d : Nat} {Φ : Option Value → mj_M → Prop} (hd : (10 + 3 * (7 - w) + 0) ≤ d) (x1 : Int32) (x2 : Int32) (x3 : Int32) (I : Nat → Nat → Int32) (J : Nat → Nat → Int64)
    (h : (((1 = 1 ∧ mj_isk (mk I J)) ∧ (∃ t1416 : Nat, (∃ τ1417 : Nat → Int32, (∃ p1418 : Nat, ((TC I t1416 τ1417 ∧ I 1 2 = nI p1418 ∧ p1418 ≤ t1416) ∧ (∀ I1419 : Nat → Nat → Int32, (I1419 1 2 = nI (skp t1416 τ1417 p1418) ∧ fr rFr I I1419) → ((mj_isk (mk I1419 J)) ∧ (if (if cmO (nsg t1416 τ1417 p1418) = 0 then -1 else cmO (nsg t1416 τ1417 p1418)) = (-1 : Int32) then (Φ (some (.int (0 : Int32))) (mk I1419 J)) else ((24 = 24 ∧ mj_isk (mk (mj_ui I1419 1 2 ((I1419 1 2) + (1 : Int32))) J)) ∧ (∃ t1423 : Nat, (∃ τ1424 : Nat → Int32, (∃ p1425 : Nat, (∃ n1426 : Nat, ((w ≤ 6 ∧ x1 = nI w ∧ prC (mj_ui I1419 1 2 ((I1419 1 2) + (1 : Int32))) t1423 τ1424 p1425 n1426) ∧ (∀ I1427 : Nat → Nat → Int32, (wrC (smW t1423 τ1424 w p1425) n1426 (mj_ui I1419 1 2 ((I1419 1 2) + (1 : Int32))) I1427) → (if (okB (smW t1423 τ1424 w p1425)) = (0 : Int32) then (Φ (some (.int (0 : Int32))) (mk I1427 J)) else ((24 = 24 ∧ mj_isk (mk I1427 J)) ∧ (∃ n1428 : Nat, ((I1427 24 2 = nI n1428 ∧ n1428 < 240) ∧ (∀ I1429 : Nat → Nat → Int32, (I1429 = mj_ui (mj_ui I1427 25 n1428 (if cmO (nsg t1416 τ1417 p1418) = 0 then -1 else cmO (nsg t1416 τ1417 p1418))) 24 2 (nI (n1428 + 1))) → (Φ (some (.int (1 : Int32))) (mk I1429 J)))))))))))))))))))))))) :
    mj_G Ω l false mX7_readUnit d 0 0 Φ 0 0 127 ([some (.ref 24), some (.int x1), some (.int x2), some (.int x3), none], [], mk I J) := mj_blk (μ := mX7_readUnit) (P := pX7_readUnit_127) (cut := cutX7_readUnit) (cs := csX7_readUnit w) dX7_readUnit_127 hcs hd 29 127 _ h
set_option maxHeartbeats 16000000 in
theorem mnX7_readUnit {w : Nat} (hcs : mj_Cs mX7_readUnit (10 + 3 * (7 - w) + 0) (csX7_readUnit w)) {Ω : mj_Om} {l : Launch} {d : Nat} {Φ : Option Value → mj_M → Prop} (hd : (10 + 3 * (7 - w) + 0) ≤ d) (v : Int32) (b : Int32) (t : Nat) (τ : Nat → Int32) (p : Nat) (n : Nat) (I : Nat → Nat → Int32) (J : Nat → Nat → Int64) (hp : w ≤ 6 ∧ v = nI w ∧ (b = 0 ∨ b = 1) ∧ prC I t τ p n) (h : ∀ I1 : Nat → Nat → Int32, (wrC (unX t τ w b p) n I I1) → Φ (some (.int (okB (unX t τ w b p)))) (mk I1 J)) : mj_Met Ω l false mX7_readUnit d 0 0 [.ref 24, .int v, .int b] (mk I J) Φ := by
  refine inX7_readUnit hcs hd v b I J ?_
  obtain ⟨hw, hv, hb, hT, h1, hpt, h24, hn⟩ := hp
  have ht := hT.1.1
  have k1 := skp_le (τ := τ) hpt
  have k2 := skp_ge (t := t) (τ := τ) (p := p)
  have k127 : ∀ (q : Nat) (xs : List Int32) (x3 : Int32) (C : Nat → Nat → Int32), q ≤ t → n + xs.length ≤ q → C 1 2 = nI q → Cd C n xs (I 25) → fr cFr I C → unX t τ w b p = pgo (cmW t τ w q) (fun p2 ys => .ok (p2, xs ++ ys)) → mj_G Ω l false mX7_readUnit d 0 0 Φ 0 0 127 ([some (.ref 24), some (.int v), some (.int b), some (.int x3), none], [], mk C J) := by
    intro q xs x3 C hq hl c1 cC cF he
    have j1 := skp_le (τ := τ) hq
    have j2 := skp_ge (t := t) (τ := τ) (p := q)
    refine bX7_readUnit_127 hcs hd v b x3 C J ?_
    refine ⟨⟨by trivial, mj_isk_mk _ _⟩, t, τ, q, ⟨TC_c hT cF, c1, hq⟩, fun D hD => ⟨mj_isk_mk _ _, ?_⟩⟩
    have frD : fr cFr I D := fr_tr cF (rc_fr hD.2)
    have CD := Cd_mk cC hD.2
    by_cases z : cmO (nsg t τ q) = 0
    · rw [if_pos (by rw [if_pos z])]
      exact out_E h (e := skp t τ q) (by rw [he]; unfold cmW; rw [if_pos z]; rfl) frD hD.1
    rw [if_neg z, if_neg cmO_m1, hD.1, jn_succ]
    have h3 : skp t τ q < t := nsg_p rfl (fun w => z (by rw [w]; decide))
    have frE : fr cFr I (mj_ui D 1 2 (nI (skp t τ q + 1))) := fr_ui frD (Or.inl ⟨rfl, rfl⟩)
    refine ⟨⟨by trivial, mj_isk_mk _ _⟩, t, τ, skp t τ q + 1, n + xs.length, ⟨hw, hv, TC_c hT frE, ui_s, h3, by rw [ui_c (by decide)]; exact CD.1, by omega⟩, fun K hK => ?_⟩
    obtain ⟨e1, e2, e3⟩ := hK
    have frK : fr cFr I K := fr_tr frE e1
    have eC : cmW t τ w q = pgo (smW t τ w (skp t τ q + 1)) (fun p1 xs => .ok (p1, xs ++ [cmO (nsg t τ q)])) := by unfold cmW; rw [if_neg z]
    by_cases u : okB (smW t τ w (skp t τ q + 1)) = 0
    · rw [if_pos u]
      obtain ⟨x, hx⟩ := okB_e0 u
      exact out_E h (by rw [he, eC, pgo_e hx]; rfl) frK (e2 x hx)
    rw [if_neg u]
    obtain ⟨r, hr⟩ := okB_n0 u
    obtain ⟨g1, g2⟩ := e3 r hr
    have rb := (pOk_smW (τ := τ) (w := w) (skp t τ q + 1) h3).2 r hr
    rw [e_ui12] at g2
    have CE := Cd_app CD g2
    refine ⟨⟨by trivial, mj_isk_mk _ _⟩, n + xs.length + r.2.length, ⟨g2.1, by omega⟩, fun Z hZ => ?_⟩
    subst hZ
    refine out_O h (q := (r.1, xs ++ (r.2 ++ [cmO (nsg t τ q)]))) (by rw [he, eC, pgo_o hr]; rfl) (fr_ui (fr_ui frK (Or.inr (Or.inr rfl))) (Or.inr (Or.inl ⟨rfl, rfl⟩))) (by rw [ui_c (by decide), ui_c (by decide)]; exact g1) ?_
    show Cd _ n (xs ++ (r.2 ++ [cmO (nsg t τ q)])) (I 25)
    rw [← List.append_assoc]
    exact Cd_up CE (by rw [List.length_append]; omega) rfl
  refine ⟨⟨by trivial, mj_isk_mk _ _⟩, t, τ, p, ⟨hT, h1, hpt⟩, fun A hA => ?_⟩
  obtain ⟨a1, a2⟩ := hA
  have cA : Cd A n [] (I 25) := by
    have c0 := Cd_0 (I := A) (n := n) (by rw [r24 a2]; exact h24)
    rw [r25 a2] at c0
    exact c0
  rcases hb with rfl | rfl
  case inr =>
    rw [if_neg (by decide)]
    refine bX7_readUnit_57 hcs hd v 1 _ A J ?_
    rw [if_neg (by decide)]
    refine bX7_readUnit_113 hcs hd v 1 _ A J ?_
    rw [if_neg (by decide)]
    exact k127 (skp t τ p) [] _ A k1 (by show n + 0 ≤ _; omega) a1 cA (rc_fr a2) (by rw [cmW_skp, pgo_id]; unfold unX; rw [if_neg (by decide)])
  rw [if_pos rfl]
  by_cases q : nsg t τ p = 33
  · rw [if_pos q]
    have h3 := nsg_p q (by decide)
    by_cases qw : w < 6
    case neg =>
      rw [if_neg (show ¬ v < 6 by rw [hv, show (6 : Int32) = nI 6 from rfl, jn_lt (by omega) (by omega)]; exact qw)]
      exact out_E h (e := skp t τ p) (by rw [unX_0]; unfold unW unP; rw [if_pos q, lvU_6 qw]) (rc_fr a2) a1
    rw [if_pos (show v < 6 by rw [hv, show (6 : Int32) = nI 6 from rfl, jn_lt (by omega) (by omega)]; exact qw)]
    refine ⟨⟨by trivial, mj_isk_mk _ _⟩, t, τ, skp t τ p, ⟨TC_c hT (rc_fr a2), a1, k1⟩, fun B hB => ?_⟩
    rw [if_neg (by rw [b2i_e0, nsg_skp]; exact fun z => z rfl)]
    rw [tkp_skp] at hB
    have frB : fr rFr I B := fr_tr a2 hB.2
    refine ⟨⟨by trivial, mj_isk_mk _ _⟩, t, τ, skp t τ p + 1, n, ⟨by omega, by rw [hv, jn_succ], Or.inl rfl, TC_c hT (rc_fr frB), hB.1, h3, by rw [r24 frB]; exact h24, by omega⟩, fun C hC => ?_⟩
    rw [unX_0] at hC ⊢
    obtain ⟨c1, c2, c3⟩ := hC
    have frC : fr cFr I C := fr_tr (rc_fr frB) c1
    have eA : unX t τ w 0 p = pgo (unW t τ (w + 1) (skp t τ p + 1)) (fun p1 xs => .ok (p1, xs ++ [20009])) := by rw [unX_0]; unfold unW unP; rw [if_pos q, lvU_lt qw]; rfl
    by_cases z : okB (unW t τ (w + 1) (skp t τ p + 1)) = 0
    · rw [if_pos z]
      obtain ⟨e, he⟩ := okB_e0 z
      exact out_E h (by rw [eA, pgo_e he]) frC (c2 e he)
    rw [if_neg z]
    obtain ⟨y, hy⟩ := okB_n0 z
    obtain ⟨d1, d2⟩ := c3 y hy
    have yb := (pOk_unW (τ := τ) (w := w + 1) (skp t τ p + 1) h3).2 y hy
    rw [r25 frB] at d2
    refine ⟨⟨by trivial, mj_isk_mk _ _⟩, n + y.2.length, ⟨d2.1, by omega⟩, fun Z hZ => ?_⟩
    subst hZ
    refine out_O h (q := (y.1, y.2 ++ [20009])) (by rw [eA, pgo_o hy]) (fr_ui (fr_ui frC (Or.inr (Or.inr rfl))) (Or.inr (Or.inl ⟨rfl, rfl⟩))) (by rw [ui_c (by decide), ui_c (by decide)]; exact d1) ?_
    exact Cd_up d2 rfl rfl
  rw [if_neg q]
  refine bX7_readUnit_57 hcs hd v 0 _ A J ?_
  rw [if_pos rfl]
  by_cases q2 : nsg t τ p = 40
  · rw [if_pos q2]
    have h3 := nsg_p q2 (by decide)
    by_cases qw : w < 6
    case neg =>
      rw [if_neg (show ¬ v < 6 by rw [hv, show (6 : Int32) = nI 6 from rfl, jn_lt (by omega) (by omega)]; exact qw)]
      exact out_E h (e := skp t τ p) (by rw [unX_0]; unfold unW unP; rw [if_neg q, if_pos q2, lvU_6 qw]) (rc_fr a2) a1
    rw [if_pos (show v < 6 by rw [hv, show (6 : Int32) = nI 6 from rfl, jn_lt (by omega) (by omega)]; exact qw)]
    refine ⟨⟨by trivial, mj_isk_mk _ _⟩, t, τ, skp t τ p, ⟨TC_c hT (rc_fr a2), a1, k1⟩, fun B hB => ?_⟩
    rw [if_neg (by rw [b2i_e0, nsg_skp]; exact fun z => z rfl)]
    rw [tkp_skp] at hB
    have frB : fr rFr I B := fr_tr a2 hB.2
    refine ⟨⟨by trivial, mj_isk_mk _ _⟩, t, τ, skp t τ p + 1, n, ⟨by omega, by rw [hv, jn_succ], Or.inl rfl, TC_c hT (rc_fr frB), hB.1, h3, by rw [r24 frB]; exact h24, by omega⟩, fun C hC => ?_⟩
    rw [cdX_0] at hC ⊢
    obtain ⟨c1, c2, c3⟩ := hC
    have frC : fr cFr I C := fr_tr (rc_fr frB) c1
    have eA : unX t τ w 0 p = pgo (cdW t τ (w + 1) (skp t τ p + 1)) (fun p1 xs => if nsg t τ p1 = 41 then .ok (skp t τ p1 + 1, xs) else .error (skp t τ p1)) := by rw [unX_0]; unfold unW unP; rw [if_neg q, if_pos q2, lvU_lt qw]
    by_cases z : okB (cdW t τ (w + 1) (skp t τ p + 1)) = 0
    · rw [if_pos z]
      obtain ⟨e, he⟩ := okB_e0 z
      exact out_E h (by rw [eA, pgo_e he]) frC (c2 e he)
    rw [if_neg z]
    obtain ⟨y, hy⟩ := okB_n0 z
    obtain ⟨d1, d2⟩ := c3 y hy
    have yb := (pOk_cdW (τ := τ) (w := w + 1) (skp t τ p + 1) h3).2 y hy
    rw [r25 frB] at d2
    refine ⟨⟨by trivial, mj_isk_mk _ _⟩, t, τ, y.1, ⟨TC_c hT frC, d1, yb.2.1⟩, fun E hE => ?_⟩
    by_cases u : nsg t τ y.1 = 41
    · rw [if_neg (by rw [b2i_e0]; exact fun z => z u)]
      exact out_O h (q := (skp t τ y.1 + 1, y.2)) (by rw [eA, pgo_o hy, if_pos u]) (fr_tr frC (rc_fr hE.2)) (by rw [hE.1, tkp_y u]) (Cd_mk d2 hE.2)
    · rw [if_pos (by rw [b2i_e0]; exact u)]
      exact out_E h (e := skp t τ y.1) (by rw [eA, pgo_o hy, if_neg u]) (fr_tr frC (rc_fr hE.2)) (by rw [hE.1, tkp_n u])
  rw [if_neg q2]
  refine bX7_readUnit_113 hcs hd v 0 _ A J ?_
  rw [if_pos rfl]
  refine ⟨⟨by trivial, mj_isk_mk _ _⟩, t, τ, skp t τ p, n, ⟨hw, hv, TC_c hT (rc_fr a2), a1, k1, by rw [r24 a2]; exact h24, by omega⟩, fun C hC => ?_⟩
  obtain ⟨c1, c2, c3⟩ := hC
  have frC : fr cFr I C := fr_tr (rc_fr a2) c1
  have eA : unX t τ w 0 p = pgo (smW t τ w (skp t τ p)) (fun p1 xs => pgo (cmW t τ w p1) (fun p2 ys => .ok (p2, xs ++ ys))) := by rw [unX_0]; unfold unW unP; rw [if_neg q, if_neg q2]
  by_cases z : okB (smW t τ w (skp t τ p)) = 0
  · rw [if_pos z]
    obtain ⟨e, he⟩ := okB_e0 z
    exact out_E h (by rw [eA, pgo_e he]) frC (c2 e he)
  rw [if_neg z]
  obtain ⟨y, hy⟩ := okB_n0 z
  obtain ⟨d1, d2⟩ := c3 y hy
  have yb := (pOk_smW (τ := τ) (w := w) (skp t τ p) k1).2 y hy
  rw [r25 a2] at d2
  exact k127 y.1 y.2 _ C yb.2.1 (by omega) d1 d2 frC (by rw [eA, pgo_o hy])
theorem sdX7_readUnit {w : Nat} (hcs : mj_Cs mX7_readUnit (10 + 3 * (7 - w) + 0) (csX7_readUnit w)) : mj_Sd mX7_readUnit (10 + 3 * (7 - w) + 0) (tX7_readUnit w) := by
  intro Ω l d hd as M Φ h
  unfold tX7_readUnit at h
  split at h
  · rename_i z_this v b
    obtain ⟨⟨rfl, hM⟩, t, τ, p, n, hp, h⟩ := h
    rw [mj_isk_of hM]
    exact mnX7_readUnit hcs hd v b t τ p n _ _ hp (by
      rw [mj_isk_of hM] at h
      exact h)
  · exact h.elim
def csX7_readTruth (w : Nat) : List (Nat × Nat × Nat × mj_PT) := [(37, 0, 2, mj_rcv 8 tX8_take), (59, 0, 2, mj_rcv 7 tX7_emitS), (66, 0, 3, mj_rcv 7 (tX7_readUnit w))]
theorem csX7_readTruth_ok {w : Nat} (hw : w ≤ 6) (h_X7_readUnit : mj_Sd mX7_readUnit (10 + 3 * (7 - w) + 0) (tX7_readUnit w)) : mj_Cs mX7_readTruth (10 + 3 * (7 - w) + 1) (csX7_readTruth w) := (mj_CsV (D' := 3) (ci := 8) (q := (RX8, TX8, 3)) sdX8_take (by omega) fX8_take rfl rfl iX8_take vX8_take (by decide +kernel) l7_37 (mj_CsV (D' := 1) (ci := 7) (q := (RX7, TX7, 3)) sdX7_emitS (by omega) fX7_emit rfl rfl iX7_emit vX7_emit (by decide +kernel) l7_59 (mj_CsV (D' := (10 + 3 * (7 - w) + 0)) (ci := 7) (q := (RX7, TX7, 3)) h_X7_readUnit (by omega) fX7_readUnit rfl rfl iX7_readUnit vX7_readUnit (by decide +kernel) l7_66 mj_Cs0)))
def cutX7_readTruth : List (Nat × List Bool) := [(13, [true, true, true, true])]
set_option maxRecDepth 100000 in
set_option maxHeartbeats 4000000 in
theorem inX7_readTruth {w : Nat} (hcs : mj_Cs mX7_readTruth (10 + 3 * (7 - w) + 1) (csX7_readTruth w)) {Ω : mj_Om} {l : Launch} {d : Nat} {Φ : Option Value → mj_M → Prop} (hd : (10 + 3 * (7 - w) + 1) ≤ d) (v : Int32) (b : Int32) (I : Nat → Nat → Int32) (J : Nat → Nat → Int64)
    (h : (((24 = 24 ∧ mj_isk (mk I J)) ∧ (∃ t1449 : Nat, (∃ τ1450 : Nat → Int32, (∃ p1451 : Nat, (∃ n1452 : Nat, ((w ≤ 6 ∧ v = nI w ∧ (b = 0 ∨ b = 1) ∧ prC I t1449 τ1450 p1451 n1452) ∧ (∀ I1453 : Nat → Nat → Int32, (wrC (unX t1449 τ1450 w b p1451) n1452 I I1453) → (if (okB (unX t1449 τ1450 w b p1451)) = (0 : Int32) then (Φ (some (.int (0 : Int32))) (mk I1453 J)) else (mj_G Ω l false mX7_readTruth d 0 0 Φ 0 0 13 ([some (.ref 24), some (.int v), some (.int b), some (.int (0 : Int32))], [], (mk I1453 J))))))))))))) :
    mj_Met Ω l false mX7_readTruth d 0 0 [.ref 24, .int v, .int b] (mk I J) Φ := mj_entry (by decide) rfl (fun h => (by cases h)) (Nat.le_of_ble_eq_true rfl) (mj_blk (μ := mX7_readTruth) (P := pX7_readTruth) (cut := cutX7_readTruth) (cs := csX7_readTruth w) dX7_readTruth hcs hd 32 0 _ h)
set_option maxRecDepth 100000 in
set_option maxHeartbeats 4000000 in
theorem bX7_readTruth_13 {w : Nat} (hcs : mj_Cs mX7_readTruth (10 + 3 * (7 - w) + 1) (csX7_readTruth w)) {Ω : mj_Om} {l : Launch} {d : Nat} {Φ : Option Value → mj_M → Prop} (hd : (10 + 3 * (7 - w) + 1) ≤ d) (x1 : Int32) (x2 : Int32) (x3 : Int32) (I : Nat → Nat → Int32) (J : Nat → Nat → Int64)
    (h : ((if x3 < (240 : Int32) then ((1 = 1 ∧ mj_isk (mk I J)) ∧ (∃ t1454 : Nat, (∃ τ1455 : Nat → Int32, (∃ p1456 : Nat, ((TC I t1454 τ1455 ∧ I 1 2 = nI p1456 ∧ p1456 ≤ t1454) ∧ (∀ I1457 : Nat → Nat → Int32, (I1457 1 2 = nI (tkp t1454 τ1455 p1456 (38 : Int32)) ∧ fr rFr I I1457) → (if (b2i (nsg t1454 τ1455 p1456 = (38 : Int32))) = (0 : Int32) then (Φ (some (.int (1 : Int32))) (mk I1457 J)) else ((24 = 24 ∧ mj_isk (mk I1457 J)) ∧ (∃ t1459 : Nat, (∃ τ1460 : Nat → Int32, (∃ p1461 : Nat, (∃ n1462 : Nat, ((w ≤ 6 ∧ x1 = nI w ∧ ((0 : Int32) = 0 ∨ (0 : Int32) = 1) ∧ prC I1457 t1459 τ1460 p1461 n1462) ∧ (∀ I1463 : Nat → Nat → Int32, (wrC (unX t1459 τ1460 w (0 : Int32) p1461) n1462 I1457 I1463) → (if (okB (unX t1459 τ1460 w (0 : Int32) p1461)) = (0 : Int32) then (Φ (some (.int (0 : Int32))) (mk I1463 J)) else ((24 = 24 ∧ mj_isk (mk I1463 J)) ∧ (∃ n1464 : Nat, ((I1463 24 2 = nI n1464 ∧ n1464 < 240) ∧ (∀ I1465 : Nat → Nat → Int32, (I1465 = mj_ui (mj_ui I1463 25 n1464 ((Int16.ofInt 20007).toInt32)) 24 2 (nI (n1464 + 1))) → (mj_G Ω l false mX7_readTruth d 0 0 Φ 0 0 13 ([some (.ref 24), some (.int x1), some (.int x2), some (.int (x3 + (1 : Int32)))], [], (mk I1465 J)))))))))))))))))))))) else (Φ (some (.int (1 : Int32))) (mk I J))))) :
    mj_G Ω l false mX7_readTruth d 0 0 Φ 0 0 13 ([some (.ref 24), some (.int x1), some (.int x2), some (.int x3)], [], mk I J) := mj_blk (μ := mX7_readTruth) (P := pX7_readTruth) (cut := cutX7_readTruth) (cs := csX7_readTruth w) dX7_readTruth hcs hd 32 13 _ h
set_option maxHeartbeats 8000000 in
theorem mnX7_readTruth {w : Nat} (hcs : mj_Cs mX7_readTruth (10 + 3 * (7 - w) + 1) (csX7_readTruth w)) {Ω : mj_Om} {l : Launch} {d : Nat} {Φ : Option Value → mj_M → Prop} (hd : (10 + 3 * (7 - w) + 1) ≤ d) (v : Int32) (b : Int32) (t : Nat) (τ : Nat → Int32) (p : Nat) (n : Nat) (I : Nat → Nat → Int32) (J : Nat → Nat → Int64) (hp : w ≤ 6 ∧ v = nI w ∧ (b = 0 ∨ b = 1) ∧ prC I t τ p n) (h : ∀ I1 : Nat → Nat → Int32, (wrC (trX t τ w b p) n I I1) → Φ (some (.int (okB (trX t τ w b p)))) (mk I1 J)) : mj_Met Ω l false mX7_readTruth d 0 0 [.ref 24, .int v, .int b] (mk I J) Φ := by
  refine inX7_readTruth hcs hd v b I J ?_
  obtain ⟨hw, hv, hb, hT, h1, hpt, h24, hn⟩ := hp
  have ht := hT.1.1
  refine ⟨⟨by trivial, mj_isk_mk _ _⟩, t, τ, p, n, ⟨hw, hv, hb, hT, h1, hpt, h24, hn⟩, fun A hA => ?_⟩
  obtain ⟨a1, a2, a3⟩ := hA
  by_cases z : okB (unX t τ w b p) = 0
  · rw [if_pos z]
    obtain ⟨e, he⟩ := okB_e0 z
    exact out_E h (by unfold trX gnQ; exact pgo_e he) a1 (a2 e he)
  rw [if_neg z]
  obtain ⟨y, hy⟩ := okB_n0 z
  obtain ⟨d1, d2⟩ := a3 y hy
  have yb := (pOk_unX (τ := τ) (w := w) (b := b) p hpt).2 y hy
  have eT : trX t τ w b p = lpP t τ opA (unW t τ w) (t + 1 - y.1) y.1 y.2 := by unfold trX gnQ; exact pgo_o hy
  have key : ∀ (f i q : Nat) (xs : List Int32) (B : Nat → Nat → Int32), t + 1 ≤ q + f → i + 1 ≤ q → q ≤ t → n + xs.length ≤ q → B 1 2 = nI q → Cd B n xs (I 25) → fr cFr I B → trX t τ w b p = lpP t τ opA (unW t τ w) f q xs → mj_G Ω l false mX7_readTruth d 0 0 Φ 0 0 13 ([some (.ref 24), some (.int v), some (.int b), some (.int (nI i))], [], mk B J) := by
    intro f
    induction f with
    | zero => intro i q xs B hf hi hq hl b1 bC bF he; omega
    | succ f ih =>
      intro i q xs B hf hi hq hl b1 bC bF he
      have k1 := skp_le (τ := τ) hq
      have k2 := skp_ge (t := t) (τ := τ) (p := q)
      rw [lpP] at he
      refine bX7_readTruth_13 hcs hd v b (nI i) B J ?_
      rw [if_pos (show nI i < 240 by rw [show (240 : Int32) = nI 240 from rfl, jn_lt (by omega) (by omega)]; omega)]
      refine ⟨⟨by trivial, mj_isk_mk _ _⟩, t, τ, q, ⟨TC_c hT bF, b1, hq⟩, fun C hC => ?_⟩
      have frC : fr cFr I C := fr_tr bF (rc_fr hC.2)
      have CC := Cd_mk bC hC.2
      by_cases s1 : nsg t τ q = 38
      case neg =>
        rw [if_pos (by rw [b2i_e0]; exact s1)]
        rw [tkp_n s1] at hC
        exact out_O h (q := (skp t τ q, xs)) (by rw [he, if_pos (by unfold opA; rw [if_neg s1])]) frC hC.1 CC
      rw [if_neg (by rw [b2i_e0]; exact fun u => u s1)]
      rw [tkp_y s1] at hC
      have eo : opA (nsg t τ q) = 20007 := by rw [s1]; decide
      rw [eo, if_neg (by decide)] at he
      have h3 : skp t τ q < t := nsg_p s1 (by decide)
      refine ⟨⟨by trivial, mj_isk_mk _ _⟩, t, τ, skp t τ q + 1, n + xs.length, ⟨hw, hv, Or.inl rfl, TC_c hT frC, hC.1, h3, CC.1, by omega⟩, fun E hE => ?_⟩
      rw [unX_0] at hE ⊢
      obtain ⟨e1, e2, e3⟩ := hE
      have frE : fr cFr I E := fr_tr frC e1
      by_cases u : okB (unW t τ w (skp t τ q + 1)) = 0
      · rw [if_pos u]
        obtain ⟨x, hx⟩ := okB_e0 u
        exact out_E h (by rw [he]; exact pgo_e hx) frE (e2 x hx)
      rw [if_neg u]
      obtain ⟨r, hr⟩ := okB_n0 u
      obtain ⟨g1, g2⟩ := e3 r hr
      have rb := (pOk_unW (τ := τ) (w := w) (skp t τ q + 1) h3).2 r hr
      rw [pgo_o hr] at he
      have CE := Cd_app CC g2
      refine ⟨⟨by trivial, mj_isk_mk _ _⟩, n + xs.length + r.2.length, ⟨g2.1, by omega⟩, fun K hK => ?_⟩
      subst hK
      rw [jn_succ]
      exact ih (i + 1) r.1 (xs ++ r.2 ++ [20007]) _ (by omega) (by omega) rb.2.1 (by rw [List.length_append, List.length_append, List.length_singleton]; omega) (by rw [ui_c (by decide), ui_c (by decide)]; exact g1) (Cd_up CE (by rw [List.length_append]; omega) rfl) (fr_ui (fr_ui frE (Or.inr (Or.inr rfl))) (Or.inr (Or.inl ⟨rfl, rfl⟩))) he
  exact key (t + 1 - y.1) 0 y.1 y.2 A (by omega) (by omega) yb.2.1 (by omega) d1 d2 a1 eT
theorem sdX7_readTruth {w : Nat} (hcs : mj_Cs mX7_readTruth (10 + 3 * (7 - w) + 1) (csX7_readTruth w)) : mj_Sd mX7_readTruth (10 + 3 * (7 - w) + 1) (tX7_readTruth w) := by
  intro Ω l d hd as M Φ h
  unfold tX7_readTruth at h
  split at h
  · rename_i z_this v b
    obtain ⟨⟨rfl, hM⟩, t, τ, p, n, hp, h⟩ := h
    rw [mj_isk_of hM]
    exact mnX7_readTruth hcs hd v b t τ p n _ _ hp (by
      rw [mj_isk_of hM] at h
      exact h)
  · exact h.elim
def csX7_readCondition (w : Nat) : List (Nat × Nat × Nat × mj_PT) := [(37, 0, 2, mj_rcv 8 tX8_take), (59, 0, 2, mj_rcv 7 tX7_emitS), (63, 0, 3, mj_rcv 7 (tX7_readTruth w))]
theorem csX7_readCondition_ok {w : Nat} (hw : w ≤ 6) (h_X7_readTruth : mj_Sd mX7_readTruth (10 + 3 * (7 - w) + 1) (tX7_readTruth w)) : mj_Cs mX7_readCondition (10 + 3 * (7 - w) + 2) (csX7_readCondition w) := (mj_CsV (D' := 3) (ci := 8) (q := (RX8, TX8, 3)) sdX8_take (by omega) fX8_take rfl rfl iX8_take vX8_take (by decide +kernel) l7_37 (mj_CsV (D' := 1) (ci := 7) (q := (RX7, TX7, 3)) sdX7_emitS (by omega) fX7_emit rfl rfl iX7_emit vX7_emit (by decide +kernel) l7_59 (mj_CsV (D' := (10 + 3 * (7 - w) + 1)) (ci := 7) (q := (RX7, TX7, 3)) h_X7_readTruth (by omega) fX7_readTruth rfl rfl iX7_readTruth vX7_readTruth (by decide +kernel) l7_63 mj_Cs0)))
def cutX7_readCondition : List (Nat × List Bool) := [(13, [true, true, true, true])]
set_option maxRecDepth 100000 in
set_option maxHeartbeats 4000000 in
theorem inX7_readCondition {w : Nat} (hcs : mj_Cs mX7_readCondition (10 + 3 * (7 - w) + 2) (csX7_readCondition w)) {Ω : mj_Om} {l : Launch} {d : Nat} {Φ : Option Value → mj_M → Prop} (hd : (10 + 3 * (7 - w) + 2) ≤ d) (v : Int32) (b : Int32) (I : Nat → Nat → Int32) (J : Nat → Nat → Int64)
    (h : (((24 = 24 ∧ mj_isk (mk I J)) ∧ (∃ t1485 : Nat, (∃ τ1486 : Nat → Int32, (∃ p1487 : Nat, (∃ n1488 : Nat, ((w ≤ 6 ∧ v = nI w ∧ (b = 0 ∨ b = 1) ∧ prC I t1485 τ1486 p1487 n1488) ∧ (∀ I1489 : Nat → Nat → Int32, (wrC (trX t1485 τ1486 w b p1487) n1488 I I1489) → (if (okB (trX t1485 τ1486 w b p1487)) = (0 : Int32) then (Φ (some (.int (0 : Int32))) (mk I1489 J)) else (mj_G Ω l false mX7_readCondition d 0 0 Φ 0 0 13 ([some (.ref 24), some (.int v), some (.int b), some (.int (0 : Int32))], [], (mk I1489 J))))))))))))) :
    mj_Met Ω l false mX7_readCondition d 0 0 [.ref 24, .int v, .int b] (mk I J) Φ := mj_entry (by decide) rfl (fun h => (by cases h)) (Nat.le_of_ble_eq_true rfl) (mj_blk (μ := mX7_readCondition) (P := pX7_readCondition) (cut := cutX7_readCondition) (cs := csX7_readCondition w) dX7_readCondition hcs hd 32 0 _ h)
set_option maxRecDepth 100000 in
set_option maxHeartbeats 4000000 in
theorem bX7_readCondition_13 {w : Nat} (hcs : mj_Cs mX7_readCondition (10 + 3 * (7 - w) + 2) (csX7_readCondition w)) {Ω : mj_Om} {l : Launch} {d : Nat} {Φ : Option Value → mj_M → Prop} (hd : (10 + 3 * (7 - w) + 2) ≤ d) (x1 : Int32) (x2 : Int32) (x3 : Int32) (I : Nat → Nat → Int32) (J : Nat → Nat → Int64)
    (h : ((if x3 < (240 : Int32) then ((1 = 1 ∧ mj_isk (mk I J)) ∧ (∃ t1490 : Nat, (∃ τ1491 : Nat → Int32, (∃ p1492 : Nat, ((TC I t1490 τ1491 ∧ I 1 2 = nI p1492 ∧ p1492 ≤ t1490) ∧ (∀ I1493 : Nat → Nat → Int32, (I1493 1 2 = nI (tkp t1490 τ1491 p1492 (124 : Int32)) ∧ fr rFr I I1493) → (if (b2i (nsg t1490 τ1491 p1492 = (124 : Int32))) = (0 : Int32) then (Φ (some (.int (1 : Int32))) (mk I1493 J)) else ((24 = 24 ∧ mj_isk (mk I1493 J)) ∧ (∃ t1495 : Nat, (∃ τ1496 : Nat → Int32, (∃ p1497 : Nat, (∃ n1498 : Nat, ((w ≤ 6 ∧ x1 = nI w ∧ ((0 : Int32) = 0 ∨ (0 : Int32) = 1) ∧ prC I1493 t1495 τ1496 p1497 n1498) ∧ (∀ I1499 : Nat → Nat → Int32, (wrC (trX t1495 τ1496 w (0 : Int32) p1497) n1498 I1493 I1499) → (if (okB (trX t1495 τ1496 w (0 : Int32) p1497)) = (0 : Int32) then (Φ (some (.int (0 : Int32))) (mk I1499 J)) else ((24 = 24 ∧ mj_isk (mk I1499 J)) ∧ (∃ n1500 : Nat, ((I1499 24 2 = nI n1500 ∧ n1500 < 240) ∧ (∀ I1501 : Nat → Nat → Int32, (I1501 = mj_ui (mj_ui I1499 25 n1500 ((Int16.ofInt 20008).toInt32)) 24 2 (nI (n1500 + 1))) → (mj_G Ω l false mX7_readCondition d 0 0 Φ 0 0 13 ([some (.ref 24), some (.int x1), some (.int x2), some (.int (x3 + (1 : Int32)))], [], (mk I1501 J)))))))))))))))))))))) else (Φ (some (.int (1 : Int32))) (mk I J))))) :
    mj_G Ω l false mX7_readCondition d 0 0 Φ 0 0 13 ([some (.ref 24), some (.int x1), some (.int x2), some (.int x3)], [], mk I J) := mj_blk (μ := mX7_readCondition) (P := pX7_readCondition) (cut := cutX7_readCondition) (cs := csX7_readCondition w) dX7_readCondition hcs hd 32 13 _ h
set_option maxHeartbeats 8000000 in
theorem mnX7_readCondition {w : Nat} (hcs : mj_Cs mX7_readCondition (10 + 3 * (7 - w) + 2) (csX7_readCondition w)) {Ω : mj_Om} {l : Launch} {d : Nat} {Φ : Option Value → mj_M → Prop} (hd : (10 + 3 * (7 - w) + 2) ≤ d) (v : Int32) (b : Int32) (t : Nat) (τ : Nat → Int32) (p : Nat) (n : Nat) (I : Nat → Nat → Int32) (J : Nat → Nat → Int64) (hp : w ≤ 6 ∧ v = nI w ∧ (b = 0 ∨ b = 1) ∧ prC I t τ p n) (h : ∀ I1 : Nat → Nat → Int32, (wrC (cdX t τ w b p) n I I1) → Φ (some (.int (okB (cdX t τ w b p)))) (mk I1 J)) : mj_Met Ω l false mX7_readCondition d 0 0 [.ref 24, .int v, .int b] (mk I J) Φ := by
  refine inX7_readCondition hcs hd v b I J ?_
  obtain ⟨hw, hv, hb, hT, h1, hpt, h24, hn⟩ := hp
  have ht := hT.1.1
  refine ⟨⟨by trivial, mj_isk_mk _ _⟩, t, τ, p, n, ⟨hw, hv, hb, hT, h1, hpt, h24, hn⟩, fun A hA => ?_⟩
  obtain ⟨a1, a2, a3⟩ := hA
  by_cases z : okB (trX t τ w b p) = 0
  · rw [if_pos z]
    obtain ⟨e, he⟩ := okB_e0 z
    exact out_E h (by unfold cdX gnQ; exact pgo_e he) a1 (a2 e he)
  rw [if_neg z]
  obtain ⟨y, hy⟩ := okB_n0 z
  obtain ⟨d1, d2⟩ := a3 y hy
  have yb := (pOk_trX (τ := τ) (w := w) (b := b) p hpt).2 y hy
  have eT : cdX t τ w b p = lpP t τ opO (trW t τ w) (t + 1 - y.1) y.1 y.2 := by unfold cdX gnQ; exact pgo_o hy
  have key : ∀ (f i q : Nat) (xs : List Int32) (B : Nat → Nat → Int32), t + 1 ≤ q + f → i + 1 ≤ q → q ≤ t → n + xs.length ≤ q → B 1 2 = nI q → Cd B n xs (I 25) → fr cFr I B → cdX t τ w b p = lpP t τ opO (trW t τ w) f q xs → mj_G Ω l false mX7_readCondition d 0 0 Φ 0 0 13 ([some (.ref 24), some (.int v), some (.int b), some (.int (nI i))], [], mk B J) := by
    intro f
    induction f with
    | zero => intro i q xs B hf hi hq hl b1 bC bF he; omega
    | succ f ih =>
      intro i q xs B hf hi hq hl b1 bC bF he
      have k1 := skp_le (τ := τ) hq
      have k2 := skp_ge (t := t) (τ := τ) (p := q)
      rw [lpP] at he
      refine bX7_readCondition_13 hcs hd v b (nI i) B J ?_
      rw [if_pos (show nI i < 240 by rw [show (240 : Int32) = nI 240 from rfl, jn_lt (by omega) (by omega)]; omega)]
      refine ⟨⟨by trivial, mj_isk_mk _ _⟩, t, τ, q, ⟨TC_c hT bF, b1, hq⟩, fun C hC => ?_⟩
      have frC : fr cFr I C := fr_tr bF (rc_fr hC.2)
      have CC := Cd_mk bC hC.2
      by_cases s1 : nsg t τ q = 124
      case neg =>
        rw [if_pos (by rw [b2i_e0]; exact s1)]
        rw [tkp_n s1] at hC
        exact out_O h (q := (skp t τ q, xs)) (by rw [he, if_pos (by unfold opO; rw [if_neg s1])]) frC hC.1 CC
      rw [if_neg (by rw [b2i_e0]; exact fun u => u s1)]
      rw [tkp_y s1] at hC
      have eo : opO (nsg t τ q) = 20008 := by rw [s1]; decide
      rw [eo, if_neg (by decide)] at he
      have h3 : skp t τ q < t := nsg_p s1 (by decide)
      refine ⟨⟨by trivial, mj_isk_mk _ _⟩, t, τ, skp t τ q + 1, n + xs.length, ⟨hw, hv, Or.inl rfl, TC_c hT frC, hC.1, h3, CC.1, by omega⟩, fun E hE => ?_⟩
      rw [trX_0] at hE ⊢
      obtain ⟨e1, e2, e3⟩ := hE
      have frE : fr cFr I E := fr_tr frC e1
      by_cases u : okB (trW t τ w (skp t τ q + 1)) = 0
      · rw [if_pos u]
        obtain ⟨x, hx⟩ := okB_e0 u
        exact out_E h (by rw [he]; exact pgo_e hx) frE (e2 x hx)
      rw [if_neg u]
      obtain ⟨r, hr⟩ := okB_n0 u
      obtain ⟨g1, g2⟩ := e3 r hr
      have rb := (pOk_trW (τ := τ) (w := w) (skp t τ q + 1) h3).2 r hr
      rw [pgo_o hr] at he
      have CE := Cd_app CC g2
      refine ⟨⟨by trivial, mj_isk_mk _ _⟩, n + xs.length + r.2.length, ⟨g2.1, by omega⟩, fun K hK => ?_⟩
      subst hK
      rw [jn_succ]
      exact ih (i + 1) r.1 (xs ++ r.2 ++ [20008]) _ (by omega) (by omega) rb.2.1 (by rw [List.length_append, List.length_append, List.length_singleton]; omega) (by rw [ui_c (by decide), ui_c (by decide)]; exact g1) (Cd_up CE (by rw [List.length_append]; omega) rfl) (fr_ui (fr_ui frE (Or.inr (Or.inr rfl))) (Or.inr (Or.inl ⟨rfl, rfl⟩))) he
  exact key (t + 1 - y.1) 0 y.1 y.2 A (by omega) (by omega) yb.2.1 (by omega) d1 d2 a1 eT
theorem sdX7_readCondition {w : Nat} (hcs : mj_Cs mX7_readCondition (10 + 3 * (7 - w) + 2) (csX7_readCondition w)) : mj_Sd mX7_readCondition (10 + 3 * (7 - w) + 2) (tX7_readCondition w) := by
  intro Ω l d hd as M Φ h
  unfold tX7_readCondition at h
  split at h
  · rename_i z_this v b
    obtain ⟨⟨rfl, hM⟩, t, τ, p, n, hp, h⟩ := h
    rw [mj_isk_of hM]
    exact mnX7_readCondition hcs hd v b t τ p n _ _ hp (by
      rw [mj_isk_of hM] at h
      exact h)
  · exact h.elim
theorem sdX7_readCondA : ∀ (k w : Nat), 7 - w = k → mj_Sd mX7_readUnit (10 + 3 * (7 - w) + 0) (tX7_readUnit w) ∧ mj_Sd mX7_readCondition (10 + 3 * (7 - w) + 2) (tX7_readCondition w) := by
  intro k
  induction k with
  | zero =>
    intro w hw
    refine ⟨?_, ?_⟩
    · intro Ω l d hd as M Φ h
      unfold tX7_readUnit at h
      split at h
      · obtain ⟨-, t, τ, p, n, ⟨q, -⟩, -⟩ := h
        omega
      · exact h.elim
    · intro Ω l d hd as M Φ h
      unfold tX7_readCondition at h
      split at h
      · obtain ⟨-, t, τ, p, n, ⟨q, -⟩, -⟩ := h
        omega
      · exact h.elim
  | succ k ih =>
    intro w hw
    obtain ⟨hu, hc⟩ := ih (w + 1) (by omega)
    have h1 : mj_Sd mX7_readUnit (10 + 3 * (7 - w) + 0) (tX7_readUnit w) := sdX7_readUnit (csX7_readUnit_ok (by omega) hc (sdX7_readSumA _ w rfl) hu)
    exact ⟨h1, sdX7_readCondition (csX7_readCondition_ok (by omega) (sdX7_readTruth (csX7_readTruth_ok (by omega) h1)))⟩
