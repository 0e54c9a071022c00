/-! ===== the class's RuleReader: conditions (by program, wip/whole/p77.py) ===== -/
theorem cmO_m1 {s : Int32} : ¬ cmO s = -1 := by
  unfold cmO
  repeat (split; · decide)
  decide
theorem e_ui12 {D : Nat → Nat → Int32} {x : Int32} : (mj_ui D 1 2 x) 25 = D 25 := funext (fun k => ui_c (by decide))
theorem pgo_id {r : PR} : pgo r (fun p2 ys => .ok (p2, [] ++ ys)) = r := by cases r <;> rfl
def tX7_readUnit (w : Nat) : mj_PT := fun as M Φ => match as with
  | [.ref this, .int v, .int b] => ((this = 24 ∧ mj_isk M) ∧ (∃ t : Nat, (∃ τ : Nat → Int32, (∃ p : Nat, (∃ n : Nat, ((w ≤ 6 ∧ v = nI w ∧ (b = 0 ∨ b = 1) ∧ prC M.2.2.1 t τ p n) ∧ (∀ I1 : Nat → Nat → Int32, (wrC (unX t τ w b p) n M.2.2.1 I1) → Φ (some (.int (okB (unX t τ w b p)))) (M.1, M.2.1, I1, M.2.2.2))))))))
  | _ => False
def tX7_readTruth (w : Nat) : mj_PT := fun as M Φ => match as with
  | [.ref this, .int v, .int b] => ((this = 24 ∧ mj_isk M) ∧ (∃ t : Nat, (∃ τ : Nat → Int32, (∃ p : Nat, (∃ n : Nat, ((w ≤ 6 ∧ v = nI w ∧ (b = 0 ∨ b = 1) ∧ prC M.2.2.1 t τ p n) ∧ (∀ I1 : Nat → Nat → Int32, (wrC (trX t τ w b p) n M.2.2.1 I1) → Φ (some (.int (okB (trX t τ w b p)))) (M.1, M.2.1, I1, M.2.2.2))))))))
  | _ => False
def tX7_readCondition (w : Nat) : mj_PT := fun as M Φ => match as with
  | [.ref this, .int v, .int b] => ((this = 24 ∧ mj_isk M) ∧ (∃ t : Nat, (∃ τ : Nat → Int32, (∃ p : Nat, (∃ n : Nat, ((w ≤ 6 ∧ v = nI w ∧ (b = 0 ∨ b = 1) ∧ prC M.2.2.1 t τ p n) ∧ (∀ I1 : Nat → Nat → Int32, (wrC (cdX t τ w b p) n M.2.2.1 I1) → Φ (some (.int (okB (cdX t τ w b p)))) (M.1, M.2.1, I1, M.2.2.2))))))))
  | _ => False
def csX7_readUnit (w : Nat) : List (Nat × Nat × Nat × mj_PT) := [(37, 0, 2, mj_rcv 8 tX8_take), (41, 0, 1, mj_rcv 8 tX8_nextSign), (45, 0, 3, mj_rcv 7 (tX7_readCondition (w + 1))), (52, 0, 2, mj_rcv 7 (tX7_readSum w)), (55, 1, 1, tX7_comparisonOfS), (59, 0, 2, mj_rcv 7 tX7_emitS), (66, 0, 3, mj_rcv 7 (tX7_readUnit (w + 1)))]
theorem csX7_readUnit_ok {w : Nat} (hw : w ≤ 6) (h_X7_readCondition : mj_Sd mX7_readCondition (10 + 3 * (7 - (w + 1)) + 2) (tX7_readCondition (w + 1))) (h_X7_readSum : mj_Sd mX7_readSum (7 + 3 * (7 - w) + 2) (tX7_readSum w)) (h_X7_readUnit : mj_Sd mX7_readUnit (10 + 3 * (7 - (w + 1)) + 0) (tX7_readUnit (w + 1))) : mj_Cs mX7_readUnit (10 + 3 * (7 - w) + 0) (csX7_readUnit w) := (mj_CsV (D' := 2) (ci := 8) (q := (RX8, TX8, 3)) sdX8_take (by omega) fX8_take rfl rfl iX8_take vX8_take (by decide +kernel) l7_37 (mj_CsV (D' := 1) (ci := 8) (q := (RX8, TX8, 3)) sdX8_nextSign (by omega) fX8_nextSign rfl rfl iX8_nextSign vX8_nextSign (by decide +kernel) l7_41 (mj_CsV (D' := (10 + 3 * (7 - (w + 1)) + 2)) (ci := 7) (q := (RX7, TX7, 3)) h_X7_readCondition (by omega) fX7_readCondition rfl rfl iX7_readCondition vX7_readCondition (by decide +kernel) l7_45 (mj_CsV (D' := (7 + 3 * (7 - w) + 2)) (ci := 7) (q := (RX7, TX7, 3)) h_X7_readSum (by omega) fX7_readSum rfl rfl iX7_readSum vX7_readSum (by decide +kernel) l7_52 (mj_CsS (D' := 1) sdX7_comparisonOfS (by omega) fX7_comparisonOf sX7_comparisonOf (by decide +kernel) l7_55 (mj_CsV (D' := 1) (ci := 7) (q := (RX7, TX7, 3)) sdX7_emitS (by omega) fX7_emit rfl rfl iX7_emit vX7_emit (by decide +kernel) l7_59 (mj_CsV (D' := (10 + 3 * (7 - (w + 1)) + 0)) (ci := 7) (q := (RX7, TX7, 3)) h_X7_readUnit (by omega) fX7_readUnit rfl rfl iX7_readUnit vX7_readUnit (by decide +kernel) l7_66 mj_Cs0)))))))
def cutX7_readUnit : List (Nat × List Bool) := [(57, [true, true, true, true, false]), (113, [true, true, true, true, false]), (127, [true, true, true, true, false])]
def pX7_readUnit_0 : List (Nat × Instr × Nat) := [(0, .aload_n 0, 1), (1, .getfield 17, 3), (4, .invokevirtual 41, 3), (7, .istore_n 3, 1), (8, .iload_n 2, 1), (9, .ifCond .ne 48, 3), (12, .iload_n 3, 1), (13, .bipush 33, 2), (15, .if_icmp .ne 42, 3), (18, .iload_n 1, 1), (19, .bipush 6, 2), (21, .if_icmp .ge 25, 3), (24, .aload_n 0, 1), (25, .getfield 17, 3), (28, .iload_n 3, 1), (29, .invokevirtual 37, 3), (32, .ifCond .eq 14, 3), (35, .aload_n 0, 1), (36, .iload_n 1, 1), (37, .iconst 1, 1), (38, .iadd, 1), (39, .iconst 0, 1), (40, .invokevirtual 66, 3), (43, .ifCond .ne 5, 3), (46, .iconst 0, 1), (47, .ireturn, 1), (48, .aload_n 0, 1), (49, .sipush 20009, 3), (52, .invokevirtual 59, 3), (55, .iconst 1, 1), (56, .ireturn, 1), (57, .iload_n 2, 1)]
set_option maxRecDepth 100000 in
theorem dX7_readUnit_0 : mj_pd cX7_readUnit pX7_readUnit_0 := mj_pdB (by decide +kernel)
set_option maxRecDepth 100000 in
set_option maxHeartbeats 4000000 in
theorem inX7_readUnit {w : Nat} (hcs : mj_Cs mX7_readUnit (10 + 3 * (7 - w) + 0) (csX7_readUnit w)) {Ω : mj_Om} {l : Launch} {d : Nat} {Φ : Option Value → mj_M → Prop} (hd : (10 + 3 * (7 - w) + 0) ≤ d) (v : Int32) (b : Int32) (I : Nat → Nat → Int32) (J : Nat → Nat → Int64)
    (h : (((1 = 1 ∧ mj_isk (mk I J)) ∧ (∃ t1318 : Nat, (∃ τ1319 : Nat → Int32, (∃ p1320 : Nat, ((TC I t1318 τ1319 ∧ I 1 2 = nI p1320 ∧ p1320 ≤ t1318) ∧ (∀ I1321 : Nat → Nat → Int32, (I1321 1 2 = nI (skp t1318 τ1319 p1320) ∧ fr rFr I I1321) → (if b = (0 : Int32) then (if (nsg t1318 τ1319 p1320) = (33 : Int32) then (if v < (6 : Int32) then ((1 = 1 ∧ mj_isk (mk I1321 J)) ∧ (∃ t1323 : Nat, (∃ τ1324 : Nat → Int32, (∃ p1325 : Nat, ((TC I1321 t1323 τ1324 ∧ I1321 1 2 = nI p1325 ∧ p1325 ≤ t1323) ∧ (∀ I1326 : Nat → Nat → Int32, (I1326 1 2 = nI (tkp t1323 τ1324 p1325 (nsg t1318 τ1319 p1320)) ∧ fr rFr I1321 I1326) → (if (b2i (nsg t1323 τ1324 p1325 = (nsg t1318 τ1319 p1320))) = (0 : Int32) then (Φ (some (.int (0 : Int32))) (mk I1326 J)) else ((24 = 24 ∧ mj_isk (mk I1326 J)) ∧ (∃ t1328 : Nat, (∃ τ1329 : Nat → Int32, (∃ p1330 : Nat, (∃ n1331 : Nat, (((w + 1) ≤ 6 ∧ (v + (1 : Int32)) = nI (w + 1) ∧ ((0 : Int32) = 0 ∨ (0 : Int32) = 1) ∧ prC I1326 t1328 τ1329 p1330 n1331) ∧ (∀ I1332 : Nat → Nat → Int32, (wrC (unX t1328 τ1329 (w + 1) (0 : Int32) p1330) n1331 I1326 I1332) → (if (okB (unX t1328 τ1329 (w + 1) (0 : Int32) p1330)) = (0 : Int32) then (Φ (some (.int (0 : Int32))) (mk I1332 J)) else ((24 = 24 ∧ mj_isk (mk I1332 J)) ∧ (∃ n1333 : Nat, ((I1332 24 2 = nI n1333 ∧ n1333 < 240) ∧ (∀ I1334 : Nat → Nat → Int32, (I1334 = mj_ui (mj_ui I1332 25 n1333 ((Int16.ofInt 20009).toInt32)) 24 2 (nI (n1333 + 1))) → (Φ (some (.int (1 : Int32))) (mk I1334 J))))))))))))))))))))) else (Φ (some (.int (0 : Int32))) (mk I1321 J))) else (mj_G Ω l false mX7_readUnit d 0 0 Φ 0 0 57 ([some (.ref 24), some (.int v), some (.int b), some (.int (nsg t1318 τ1319 p1320)), none], [], (mk I1321 J)))) else (mj_G Ω l false mX7_readUnit d 0 0 Φ 0 0 57 ([some (.ref 24), some (.int v), some (.int b), some (.int (nsg t1318 τ1319 p1320)), none], [], (mk I1321 J)))))))))))) :
    mj_Met Ω l false mX7_readUnit d 0 0 [.ref 24, .int v, .int b] (mk I J) Φ := mj_entry (by decide) rfl (fun h => (by cases h)) (Nat.le_of_ble_eq_true rfl) (mj_blk (μ := mX7_readUnit) (P := pX7_readUnit_0) (cut := cutX7_readUnit) (cs := csX7_readUnit w) dX7_readUnit_0 hcs hd 33 0 _ h)
def pX7_readUnit_57 : List (Nat × Instr × Nat) := [(57, .iload_n 2, 1), (58, .ifCond .ne 55, 3), (61, .iload_n 3, 1), (62, .bipush 40, 2), (64, .if_icmp .ne 49, 3), (67, .iload_n 1, 1), (68, .bipush 6, 2), (70, .if_icmp .ge 41, 3), (73, .aload_n 0, 1), (74, .getfield 17, 3), (77, .iload_n 3, 1), (78, .invokevirtual 37, 3), (81, .ifCond .eq 30, 3), (84, .aload_n 0, 1), (85, .iload_n 1, 1), (86, .iconst 1, 1), (87, .iadd, 1), (88, .iconst 0, 1), (89, .invokevirtual 45, 3), (92, .ifCond .eq 19, 3), (95, .aload_n 0, 1), (96, .getfield 17, 3), (99, .bipush 41, 2), (101, .invokevirtual 37, 3), (104, .ifCond .eq 7, 3), (107, .iconst 1, 1), (108, .goto 4, 3), (111, .iconst 0, 1), (112, .ireturn, 1), (113, .iload_n 2, 1)]
set_option maxRecDepth 100000 in
theorem dX7_readUnit_57 : mj_pd cX7_readUnit pX7_readUnit_57 := mj_pdB (by decide +kernel)
set_option maxRecDepth 100000 in
set_option maxHeartbeats 4000000 in
theorem bX7_readUnit_57 {w : Nat} (hcs : mj_Cs mX7_readUnit (10 + 3 * (7 - w) + 0) (csX7_readUnit w)) {Ω : mj_Om} {l : Launch} {d : Nat} {Φ : Option Value → mj_M → Prop} (hd : (10 + 3 * (7 - w) + 0) ≤ d) (x1 : Int32) (x2 : Int32) (x3 : Int32) (I : Nat → Nat → Int32) (J : Nat → Nat → Int64)
    (h : ((if x2 = (0 : Int32) then (if x3 = (40 : Int32) then (if x1 < (6 : Int32) then ((1 = 1 ∧ mj_isk (mk I J)) ∧ (∃ t1336 : Nat, (∃ τ1337 : Nat → Int32, (∃ p1338 : Nat, ((TC I t1336 τ1337 ∧ I 1 2 = nI p1338 ∧ p1338 ≤ t1336) ∧ (∀ I1339 : Nat → Nat → Int32, (I1339 1 2 = nI (tkp t1336 τ1337 p1338 x3) ∧ fr rFr I I1339) → (if (b2i (nsg t1336 τ1337 p1338 = x3)) = (0 : Int32) then (Φ (some (.int (0 : Int32))) (mk I1339 J)) else ((24 = 24 ∧ mj_isk (mk I1339 J)) ∧ (∃ t1341 : Nat, (∃ τ1342 : Nat → Int32, (∃ p1343 : Nat, (∃ n1344 : Nat, (((w + 1) ≤ 6 ∧ (x1 + (1 : Int32)) = nI (w + 1) ∧ ((0 : Int32) = 0 ∨ (0 : Int32) = 1) ∧ prC I1339 t1341 τ1342 p1343 n1344) ∧ (∀ I1345 : Nat → Nat → Int32, (wrC (cdX t1341 τ1342 (w + 1) (0 : Int32) p1343) n1344 I1339 I1345) → (if (okB (cdX t1341 τ1342 (w + 1) (0 : Int32) p1343)) = (0 : Int32) then (Φ (some (.int (0 : Int32))) (mk I1345 J)) else ((1 = 1 ∧ mj_isk (mk I1345 J)) ∧ (∃ t1346 : Nat, (∃ τ1347 : Nat → Int32, (∃ p1348 : Nat, ((TC I1345 t1346 τ1347 ∧ I1345 1 2 = nI p1348 ∧ p1348 ≤ t1346) ∧ (∀ I1349 : Nat → Nat → Int32, (I1349 1 2 = nI (tkp t1346 τ1347 p1348 (41 : Int32)) ∧ fr rFr I1345 I1349) → (if (b2i (nsg t1346 τ1347 p1348 = (41 : Int32))) = (0 : Int32) then (Φ (some (.int (0 : Int32))) (mk I1349 J)) else (Φ (some (.int (1 : Int32))) (mk I1349 J)))))))))))))))))))))))) else (Φ (some (.int (0 : Int32))) (mk I J))) else (mj_G Ω l false mX7_readUnit d 0 0 Φ 0 0 113 ([some (.ref 24), some (.int x1), some (.int x2), some (.int x3), none], [], (mk I J)))) else (mj_G Ω l false mX7_readUnit d 0 0 Φ 0 0 113 ([some (.ref 24), some (.int x1), some (.int x2), some (.int x3), none], [], (mk I J)))))) :
    mj_G Ω l false mX7_readUnit d 0 0 Φ 0 0 57 ([some (.ref 24), some (.int x1), some (.int x2), some (.int x3), none], [], mk I J) := mj_blk (μ := mX7_readUnit) (P := pX7_readUnit_57) (cut := cutX7_readUnit) (cs := csX7_readUnit w) dX7_readUnit_57 hcs hd 31 57 _ h
def pX7_readUnit_113 : List (Nat × Instr × Nat) := [(113, .iload_n 2, 1), (114, .ifCond .ne 13, 3), (117, .aload_n 0, 1), (118, .iload_n 1, 1), (119, .invokevirtual 52, 3), (122, .ifCond .ne 5, 3), (125, .iconst 0, 1), (126, .ireturn, 1), (127, .aload_n 0, 1)]
set_option maxRecDepth 100000 in
theorem dX7_readUnit_113 : mj_pd cX7_readUnit pX7_readUnit_113 := mj_pdB (by decide +kernel)
set_option maxRecDepth 100000 in
set_option maxHeartbeats 4000000 in
theorem bX7_readUnit_113 {w : Nat} (hcs : mj_Cs mX7_readUnit (10 + 3 * (7 - w) + 0) (csX7_readUnit w)) {Ω : mj_Om} {l : Launch} {d : Nat} {Φ : Option Value → mj_M → Prop} (hd : (10 + 3 * (7 - w) + 0) ≤ d) (x1 : Int32) (x2 : Int32) (x3 : Int32) (I : Nat → Nat → Int32) (J : Nat → Nat → Int64)
    (h : ((if x2 = (0 : Int32) then ((24 = 24 ∧ mj_isk (mk I J)) ∧ (∃ t1351 : Nat, (∃ τ1352 : Nat → Int32, (∃ p1353 : Nat, (∃ n1354 : Nat, ((w ≤ 6 ∧ x1 = nI w ∧ prC I t1351 τ1352 p1353 n1354) ∧ (∀ I1355 : Nat → Nat → Int32, (wrC (smW t1351 τ1352 w p1353) n1354 I I1355) → (if (okB (smW t1351 τ1352 w p1353)) = (0 : Int32) then (Φ (some (.int (0 : Int32))) (mk I1355 J)) else (mj_G Ω l false mX7_readUnit d 0 0 Φ 0 0 127 ([some (.ref 24), some (.int x1), some (.int x2), some (.int x3), none], [], (mk I1355 J))))))))))) else (mj_G Ω l false mX7_readUnit d 0 0 Φ 0 0 127 ([some (.ref 24), some (.int x1), some (.int x2), some (.int x3), none], [], (mk I J)))))) :
    mj_G Ω l false mX7_readUnit d 0 0 Φ 0 0 113 ([some (.ref 24), some (.int x1), some (.int x2), some (.int x3), none], [], mk I J) := mj_blk (μ := mX7_readUnit) (P := pX7_readUnit_113) (cut := cutX7_readUnit) (cs := csX7_readUnit w) dX7_readUnit_113 hcs hd 10 113 _ h
def pX7_readUnit_127 : List (Nat × Instr × Nat) := [(127, .aload_n 0, 1), (128, .getfield 17, 3), (131, .invokevirtual 41, 3), (134, .invokestatic 55, 3), (137, .istore 4, 2), (139, .iload 4, 2), (141, .iconst (-1), 1), (142, .if_icmp .ne 5, 3), (145, .iconst 0, 1), (146, .ireturn, 1), (147, .aload_n 0, 1), (148, .getfield 17, 3), (151, .dup, 1), (152, .getfield 34, 3), (155, .iconst 1, 1), (156, .iadd, 1), (157, .putfield 34, 3), (160, .aload_n 0, 1), (161, .iload_n 1, 1), (162, .invokevirtual 52, 3), (165, .ifCond .ne 5, 3), (168, .iconst 0, 1), (169, .ireturn, 1), (170, .aload_n 0, 1), (171, .iload 4, 2), (173, .invokevirtual 59, 3), (176, .iconst 1, 1), (177, .ireturn, 1)]
set_option maxRecDepth 100000 in
theorem dX7_readUnit_127 : mj_pd cX7_readUnit pX7_readUnit_127 := mj_pdB (by decide +kernel)
set_option maxRecDepth 100000 in
set_option maxHeartbeats 4000000 in
theorem bX7_readUnit_127 {w : Nat} (hcs : mj_Cs mX7_readUnit (10 + 3 * (7 - w) + 0) (csX7_readUnit w)) {Ω : mj_Om} {l : Launch} {d : Nat} {Φ : Option Value → mj_M → Prop} (hd : (10 + 3 * (7 - w) + 0) ≤ d) (x1 : Int32) (x2 : Int32) (x3 : Int32) (I : Nat → Nat → Int32) (J : Nat → Nat → Int64)
    (h : (((1 = 1 ∧ mj_isk (mk I J)) ∧ (∃ t1356 : Nat, (∃ τ1357 : Nat → Int32, (∃ p1358 : Nat, ((TC I t1356 τ1357 ∧ I 1 2 = nI p1358 ∧ p1358 ≤ t1356) ∧ (∀ I1359 : Nat → Nat → Int32, (I1359 1 2 = nI (skp t1356 τ1357 p1358) ∧ fr rFr I I1359) → ((mj_isk (mk I1359 J)) ∧ (if (if cmO (nsg t1356 τ1357 p1358) = 0 then -1 else cmO (nsg t1356 τ1357 p1358)) = (-1 : Int32) then (Φ (some (.int (0 : Int32))) (mk I1359 J)) else ((24 = 24 ∧ mj_isk (mk (mj_ui I1359 1 2 ((I1359 1 2) + (1 : Int32))) J)) ∧ (∃ t1363 : Nat, (∃ τ1364 : Nat → Int32, (∃ p1365 : Nat, (∃ n1366 : Nat, ((w ≤ 6 ∧ x1 = nI w ∧ prC (mj_ui I1359 1 2 ((I1359 1 2) + (1 : Int32))) t1363 τ1364 p1365 n1366) ∧ (∀ I1367 : Nat → Nat → Int32, (wrC (smW t1363 τ1364 w p1365) n1366 (mj_ui I1359 1 2 ((I1359 1 2) + (1 : Int32))) I1367) → (if (okB (smW t1363 τ1364 w p1365)) = (0 : Int32) then (Φ (some (.int (0 : Int32))) (mk I1367 J)) else ((24 = 24 ∧ mj_isk (mk I1367 J)) ∧ (∃ n1368 : Nat, ((I1367 24 2 = nI n1368 ∧ n1368 < 240) ∧ (∀ I1369 : Nat → Nat → Int32, (I1369 = mj_ui (mj_ui I1367 25 n1368 (if cmO (nsg t1356 τ1357 p1358) = 0 then -1 else cmO (nsg t1356 τ1357 p1358))) 24 2 (nI (n1368 + 1))) → (Φ (some (.int (1 : Int32))) (mk I1369 J)))))))))))))))))))))))) :
    mj_G Ω l false mX7_readUnit d 0 0 Φ 0 0 127 ([some (.ref 24), some (.int x1), some (.int x2), some (.int x3), none], [], mk I J) := mj_blk (μ := mX7_readUnit) (P := pX7_readUnit_127) (cut := cutX7_readUnit) (cs := csX7_readUnit w) dX7_readUnit_127 hcs hd 29 127 _ h
set_option maxHeartbeats 16000000 in
theorem mnX7_readUnit {w : Nat} (hcs : mj_Cs mX7_readUnit (10 + 3 * (7 - w) + 0) (csX7_readUnit w)) {Ω : mj_Om} {l : Launch} {d : Nat} {Φ : Option Value → mj_M → Prop} (hd : (10 + 3 * (7 - w) + 0) ≤ d) (v : Int32) (b : Int32) (t : Nat) (τ : Nat → Int32) (p : Nat) (n : Nat) (I : Nat → Nat → Int32) (J : Nat → Nat → Int64) (hp : w ≤ 6 ∧ v = nI w ∧ (b = 0 ∨ b = 1) ∧ prC I t τ p n) (h : ∀ I1 : Nat → Nat → Int32, (wrC (unX t τ w b p) n I I1) → Φ (some (.int (okB (unX t τ w b p)))) (mk I1 J)) : mj_Met Ω l false mX7_readUnit d 0 0 [.ref 24, .int v, .int b] (mk I J) Φ := by
  refine inX7_readUnit hcs hd v b I J ?_
  obtain ⟨hw, hv, hb, hT, h1, hpt, h24, hn⟩ := hp
  have ht := hT.1.1
  have k1 := skp_le (τ := τ) hpt
  have k2 := skp_ge (t := t) (τ := τ) (p := p)
  have k127 : ∀ (q : Nat) (xs : List Int32) (x3 : Int32) (C : Nat → Nat → Int32), q ≤ t → n + xs.length ≤ q → C 1 2 = nI q → Cd C n xs (I 25) → fr cFr I C → unX t τ w b p = pgo (cmW t τ w q) (fun p2 ys => .ok (p2, xs ++ ys)) → mj_G Ω l false mX7_readUnit d 0 0 Φ 0 0 127 ([some (.ref 24), some (.int v), some (.int b), some (.int x3), none], [], mk C J) := by
    intro q xs x3 C hq hl c1 cC cF he
    have j1 := skp_le (τ := τ) hq
    have j2 := skp_ge (t := t) (τ := τ) (p := q)
    refine bX7_readUnit_127 hcs hd v b x3 C J ?_
    refine ⟨⟨by trivial, mj_isk_mk _ _⟩, t, τ, q, ⟨TC_c hT cF, c1, hq⟩, fun D hD => ⟨mj_isk_mk _ _, ?_⟩⟩
    have frD : fr cFr I D := fr_tr cF (rc_fr hD.2)
    have CD := Cd_mk cC hD.2
    by_cases z : cmO (nsg t τ q) = 0
    · rw [if_pos (by rw [if_pos z])]
      exact out_E h (e := skp t τ q) (by rw [he]; unfold cmW; rw [if_pos z]; rfl) frD hD.1
    rw [if_neg z, if_neg cmO_m1, hD.1, jn_succ]
    have h3 : skp t τ q < t := nsg_p rfl (fun w => z (by rw [w]; decide))
    have frE : fr cFr I (mj_ui D 1 2 (nI (skp t τ q + 1))) := fr_ui frD (Or.inl ⟨rfl, rfl⟩)
    refine ⟨⟨by trivial, mj_isk_mk _ _⟩, t, τ, skp t τ q + 1, n + xs.length, ⟨hw, hv, TC_c hT frE, ui_s, h3, by rw [ui_c (by decide)]; exact CD.1, by omega⟩, fun K hK => ?_⟩
    obtain ⟨e1, e2, e3⟩ := hK
    have frK : fr cFr I K := fr_tr frE e1
    have eC : cmW t τ w q = pgo (smW t τ w (skp t τ q + 1)) (fun p1 xs => .ok (p1, xs ++ [cmO (nsg t τ q)])) := by unfold cmW; rw [if_neg z]
    by_cases u : okB (smW t τ w (skp t τ q + 1)) = 0
    · rw [if_pos u]
      obtain ⟨x, hx⟩ := okB_e0 u
      exact out_E h (by rw [he, eC, pgo_e hx]; rfl) frK (e2 x hx)
    rw [if_neg u]
    obtain ⟨r, hr⟩ := okB_n0 u
    obtain ⟨g1, g2⟩ := e3 r hr
    have rb := (pOk_smW (τ := τ) (w := w) (skp t τ q + 1) h3).2 r hr
    rw [e_ui12] at g2
    have CE := Cd_app CD g2
    refine ⟨⟨by trivial, mj_isk_mk _ _⟩, n + xs.length + r.2.length, ⟨g2.1, by omega⟩, fun Z hZ => ?_⟩
    subst hZ
    refine out_O h (q := (r.1, xs ++ (r.2 ++ [cmO (nsg t τ q)]))) (by rw [he, eC, pgo_o hr]; rfl) (fr_ui (fr_ui frK (Or.inr (Or.inr rfl))) (Or.inr (Or.inl ⟨rfl, rfl⟩))) (by rw [ui_c (by decide), ui_c (by decide)]; exact g1) ?_
    show Cd _ n (xs ++ (r.2 ++ [cmO (nsg t τ q)])) (I 25)
    rw [← List.append_assoc]
    exact Cd_up CE (by rw [List.length_append]; omega) rfl
  refine ⟨⟨by trivial, mj_isk_mk _ _⟩, t, τ, p, ⟨hT, h1, hpt⟩, fun A hA => ?_⟩
  obtain ⟨a1, a2⟩ := hA
  have cA : Cd A n [] (I 25) := by
    have c0 := Cd_0 (I := A) (n := n) (by rw [r24 a2]; exact h24)
    rw [r25 a2] at c0
    exact c0
  rcases hb with rfl | rfl
  case inr =>
    rw [if_neg (by decide)]
    refine bX7_readUnit_57 hcs hd v 1 _ A J ?_
    rw [if_neg (by decide)]
    refine bX7_readUnit_113 hcs hd v 1 _ A J ?_
    rw [if_neg (by decide)]
    exact k127 (skp t τ p) [] _ A k1 (by show n + 0 ≤ _; omega) a1 cA (rc_fr a2) (by rw [cmW_skp, pgo_id]; unfold unX; rw [if_neg (by decide)])
  rw [if_pos rfl]
  by_cases q : nsg t τ p = 33
  · rw [if_pos q]
    have h3 := nsg_p q (by decide)
    by_cases qw : w < 6
    case neg =>
      rw [if_neg (show ¬ v < 6 by rw [hv, show (6 : Int32) = nI 6 from rfl, jn_lt (by omega) (by omega)]; exact qw)]
      exact out_E h (e := skp t τ p) (by rw [unX_0]; unfold unW unP; rw [if_pos q, lvU_6 qw]) (rc_fr a2) a1
    rw [if_pos (show v < 6 by rw [hv, show (6 : Int32) = nI 6 from rfl, jn_lt (by omega) (by omega)]; exact qw)]
    refine ⟨⟨by trivial, mj_isk_mk _ _⟩, t, τ, skp t τ p, ⟨TC_c hT (rc_fr a2), a1, k1⟩, fun B hB => ?_⟩
    rw [if_neg (by rw [b2i_e0, nsg_skp]; exact fun z => z rfl)]
    rw [tkp_skp] at hB
    have frB : fr rFr I B := fr_tr a2 hB.2
    refine ⟨⟨by trivial, mj_isk_mk _ _⟩, t, τ, skp t τ p + 1, n, ⟨by omega, by rw [hv, jn_succ], Or.inl rfl, TC_c hT (rc_fr frB), hB.1, h3, by rw [r24 frB]; exact h24, by omega⟩, fun C hC => ?_⟩
    rw [unX_0] at hC ⊢
    obtain ⟨c1, c2, c3⟩ := hC
    have frC : fr cFr I C := fr_tr (rc_fr frB) c1
    have eA : unX t τ w 0 p = pgo (unW t τ (w + 1) (skp t τ p + 1)) (fun p1 xs => .ok (p1, xs ++ [20009])) := by rw [unX_0]; unfold unW unP; rw [if_pos q, lvU_lt qw]; rfl
    by_cases z : okB (unW t τ (w + 1) (skp t τ p + 1)) = 0
    · rw [if_pos z]
      obtain ⟨e, he⟩ := okB_e0 z
      exact out_E h (by rw [eA, pgo_e he]) frC (c2 e he)
    rw [if_neg z]
    obtain ⟨y, hy⟩ := okB_n0 z
    obtain ⟨d1, d2⟩ := c3 y hy
    have yb := (pOk_unW (τ := τ) (w := w + 1) (skp t τ p + 1) h3).2 y hy
    rw [r25 frB] at d2
    refine ⟨⟨by trivial, mj_isk_mk _ _⟩, n + y.2.length, ⟨d2.1, by omega⟩, fun Z hZ => ?_⟩
    subst hZ
    refine out_O h (q := (y.1, y.2 ++ [20009])) (by rw [eA, pgo_o hy]) (fr_ui (fr_ui frC (Or.inr (Or.inr rfl))) (Or.inr (Or.inl ⟨rfl, rfl⟩))) (by rw [ui_c (by decide), ui_c (by decide)]; exact d1) ?_
    exact Cd_up d2 rfl rfl
  rw [if_neg q]
  refine bX7_readUnit_57 hcs hd v 0 _ A J ?_
  rw [if_pos rfl]
  by_cases q2 : nsg t τ p = 40
  · rw [if_pos q2]
    have h3 := nsg_p q2 (by decide)
    by_cases qw : w < 6
    case neg =>
      rw [if_neg (show ¬ v < 6 by rw [hv, show (6 : Int32) = nI 6 from rfl, jn_lt (by omega) (by omega)]; exact qw)]
      exact out_E h (e := skp t τ p) (by rw [unX_0]; unfold unW unP; rw [if_neg q, if_pos q2, lvU_6 qw]) (rc_fr a2) a1
    rw [if_pos (show v < 6 by rw [hv, show (6 : Int32) = nI 6 from rfl, jn_lt (by omega) (by omega)]; exact qw)]
    refine ⟨⟨by trivial, mj_isk_mk _ _⟩, t, τ, skp t τ p, ⟨TC_c hT (rc_fr a2), a1, k1⟩, fun B hB => ?_⟩
    rw [if_neg (by rw [b2i_e0, nsg_skp]; exact fun z => z rfl)]
    rw [tkp_skp] at hB
    have frB : fr rFr I B := fr_tr a2 hB.2
    refine ⟨⟨by trivial, mj_isk_mk _ _⟩, t, τ, skp t τ p + 1, n, ⟨by omega, by rw [hv, jn_succ], Or.inl rfl, TC_c hT (rc_fr frB), hB.1, h3, by rw [r24 frB]; exact h24, by omega⟩, fun C hC => ?_⟩
    rw [cdX_0] at hC ⊢
    obtain ⟨c1, c2, c3⟩ := hC
    have frC : fr cFr I C := fr_tr (rc_fr frB) c1
    have eA : unX t τ w 0 p = pgo (cdW t τ (w + 1) (skp t τ p + 1)) (fun p1 xs => if nsg t τ p1 = 41 then .ok (skp t τ p1 + 1, xs) else .error (skp t τ p1)) := by rw [unX_0]; unfold unW unP; rw [if_neg q, if_pos q2, lvU_lt qw]
    by_cases z : okB (cdW t τ (w + 1) (skp t τ p + 1)) = 0
    · rw [if_pos z]
      obtain ⟨e, he⟩ := okB_e0 z
      exact out_E h (by rw [eA, pgo_e he]) frC (c2 e he)
    rw [if_neg z]
    obtain ⟨y, hy⟩ := okB_n0 z
    obtain ⟨d1, d2⟩ := c3 y hy
    have yb := (pOk_cdW (τ := τ) (w := w + 1) (skp t τ p + 1) h3).2 y hy
    rw [r25 frB] at d2
    refine ⟨⟨by trivial, mj_isk_mk _ _⟩, t, τ, y.1, ⟨TC_c hT frC, d1, yb.2.1⟩, fun E hE => ?_⟩
    by_cases u : nsg t τ y.1 = 41
    · rw [if_neg (by rw [b2i_e0]; exact fun z => z u)]
      exact out_O h (q := (skp t τ y.1 + 1, y.2)) (by rw [eA, pgo_o hy, if_pos u]) (fr_tr frC (rc_fr hE.2)) (by rw [hE.1, tkp_y u]) (Cd_mk d2 hE.2)
    · rw [if_pos (by rw [b2i_e0]; exact u)]
      exact out_E h (e := skp t τ y.1) (by rw [eA, pgo_o hy, if_neg u]) (fr_tr frC (rc_fr hE.2)) (by rw [hE.1, tkp_n u])
  rw [if_neg q2]
  refine bX7_readUnit_113 hcs hd v 0 _ A J ?_
  rw [if_pos rfl]
  refine ⟨⟨by trivial, mj_isk_mk _ _⟩, t, τ, skp t τ p, n, ⟨hw, hv, TC_c hT (rc_fr a2), a1, k1, by rw [r24 a2]; exact h24, by omega⟩, fun C hC => ?_⟩
  obtain ⟨c1, c2, c3⟩ := hC
  have frC : fr cFr I C := fr_tr (rc_fr a2) c1
  have eA : unX t τ w 0 p = pgo (smW t τ w (skp t τ p)) (fun p1 xs => pgo (cmW t τ w p1) (fun p2 ys => .ok (p2, xs ++ ys))) := by rw [unX_0]; unfold unW unP; rw [if_neg q, if_neg q2]
  by_cases z : okB (smW t τ w (skp t τ p)) = 0
  · rw [if_pos z]
    obtain ⟨e, he⟩ := okB_e0 z
    exact out_E h (by rw [eA, pgo_e he]) frC (c2 e he)
  rw [if_neg z]
  obtain ⟨y, hy⟩ := okB_n0 z
  obtain ⟨d1, d2⟩ := c3 y hy
  have yb := (pOk_smW (τ := τ) (w := w) (skp t τ p) k1).2 y hy
  rw [r25 a2] at d2
  exact k127 y.1 y.2 _ C yb.2.1 (by omega) d1 d2 frC (by rw [eA, pgo_o hy])
theorem sdX7_readUnit {w : Nat} (hcs : mj_Cs mX7_readUnit (10 + 3 * (7 - w) + 0) (csX7_readUnit w)) : mj_Sd mX7_readUnit (10 + 3 * (7 - w) + 0) (tX7_readUnit w) := by
  intro Ω l d hd as M Φ h
  unfold tX7_readUnit at h
  split at h
  · rename_i z_this v b
    obtain ⟨⟨rfl, hM⟩, t, τ, p, n, hp, h⟩ := h
    rw [mj_isk_of hM]
    exact mnX7_readUnit hcs hd v b t τ p n _ _ hp (by
      rw [mj_isk_of hM] at h
      exact h)
  · exact h.elim
def csX7_readTruth (w : Nat) : List (Nat × Nat × Nat × mj_PT) := [(37, 0, 2, mj_rcv 8 tX8_take), (59, 0, 2, mj_rcv 7 tX7_emitS), (66, 0, 3, mj_rcv 7 (tX7_readUnit w))]
theorem csX7_readTruth_ok {w : Nat} (hw : w ≤ 6) (h_X7_readUnit : mj_Sd mX7_readUnit (10 + 3 * (7 - w) + 0) (tX7_readUnit w)) : mj_Cs mX7_readTruth (10 + 3 * (7 - w) + 1) (csX7_readTruth w) := (mj_CsV (D' := 2) (ci := 8) (q := (RX8, TX8, 3)) sdX8_take (by omega) fX8_take rfl rfl iX8_take vX8_take (by decide +kernel) l7_37 (mj_CsV (D' := 1) (ci := 7) (q := (RX7, TX7, 3)) sdX7_emitS (by omega) fX7_emit rfl rfl iX7_emit vX7_emit (by decide +kernel) l7_59 (mj_CsV (D' := (10 + 3 * (7 - w) + 0)) (ci := 7) (q := (RX7, TX7, 3)) h_X7_readUnit (by omega) fX7_readUnit rfl rfl iX7_readUnit vX7_readUnit (by decide +kernel) l7_66 mj_Cs0)))
def cutX7_readTruth : List (Nat × List Bool) := [(13, [true, true, true, true])]
set_option maxRecDepth 100000 in
set_option maxHeartbeats 4000000 in
theorem inX7_readTruth {w : Nat} (hcs : mj_Cs mX7_readTruth (10 + 3 * (7 - w) + 1) (csX7_readTruth w)) {Ω : mj_Om} {l : Launch} {d : Nat} {Φ : Option Value → mj_M → Prop} (hd : (10 + 3 * (7 - w) + 1) ≤ d) (v : Int32) (b : Int32) (I : Nat → Nat → Int32) (J : Nat → Nat → Int64)
    (h : (((24 = 24 ∧ mj_isk (mk I J)) ∧ (∃ t1389 : Nat, (∃ τ1390 : Nat → Int32, (∃ p1391 : Nat, (∃ n1392 : Nat, ((w ≤ 6 ∧ v = nI w ∧ (b = 0 ∨ b = 1) ∧ prC I t1389 τ1390 p1391 n1392) ∧ (∀ I1393 : Nat → Nat → Int32, (wrC (unX t1389 τ1390 w b p1391) n1392 I I1393) → (if (okB (unX t1389 τ1390 w b p1391)) = (0 : Int32) then (Φ (some (.int (0 : Int32))) (mk I1393 J)) else (mj_G Ω l false mX7_readTruth d 0 0 Φ 0 0 13 ([some (.ref 24), some (.int v), some (.int b), some (.int (0 : Int32))], [], (mk I1393 J))))))))))))) :
    mj_Met Ω l false mX7_readTruth d 0 0 [.ref 24, .int v, .int b] (mk I J) Φ := mj_entry (by decide) rfl (fun h => (by cases h)) (Nat.le_of_ble_eq_true rfl) (mj_blk (μ := mX7_readTruth) (P := pX7_readTruth) (cut := cutX7_readTruth) (cs := csX7_readTruth w) dX7_readTruth hcs hd 32 0 _ h)
set_option maxRecDepth 100000 in
set_option maxHeartbeats 4000000 in
theorem bX7_readTruth_13 {w : Nat} (hcs : mj_Cs mX7_readTruth (10 + 3 * (7 - w) + 1) (csX7_readTruth w)) {Ω : mj_Om} {l : Launch} {d : Nat} {Φ : Option Value → mj_M → Prop} (hd : (10 + 3 * (7 - w) + 1) ≤ d) (x1 : Int32) (x2 : Int32) (x3 : Int32) (I : Nat → Nat → Int32) (J : Nat → Nat → Int64)
    (h : ((if x3 < (240 : Int32) then ((1 = 1 ∧ mj_isk (mk I J)) ∧ (∃ t1394 : Nat, (∃ τ1395 : Nat → Int32, (∃ p1396 : Nat, ((TC I t1394 τ1395 ∧ I 1 2 = nI p1396 ∧ p1396 ≤ t1394) ∧ (∀ I1397 : Nat → Nat → Int32, (I1397 1 2 = nI (tkp t1394 τ1395 p1396 (38 : Int32)) ∧ fr rFr I I1397) → (if (b2i (nsg t1394 τ1395 p1396 = (38 : Int32))) = (0 : Int32) then (Φ (some (.int (1 : Int32))) (mk I1397 J)) else ((24 = 24 ∧ mj_isk (mk I1397 J)) ∧ (∃ t1399 : Nat, (∃ τ1400 : Nat → Int32, (∃ p1401 : Nat, (∃ n1402 : Nat, ((w ≤ 6 ∧ x1 = nI w ∧ ((0 : Int32) = 0 ∨ (0 : Int32) = 1) ∧ prC I1397 t1399 τ1400 p1401 n1402) ∧ (∀ I1403 : Nat → Nat → Int32, (wrC (unX t1399 τ1400 w (0 : Int32) p1401) n1402 I1397 I1403) → (if (okB (unX t1399 τ1400 w (0 : Int32) p1401)) = (0 : Int32) then (Φ (some (.int (0 : Int32))) (mk I1403 J)) else ((24 = 24 ∧ mj_isk (mk I1403 J)) ∧ (∃ n1404 : Nat, ((I1403 24 2 = nI n1404 ∧ n1404 < 240) ∧ (∀ I1405 : Nat → Nat → Int32, (I1405 = mj_ui (mj_ui I1403 25 n1404 ((Int16.ofInt 20007).toInt32)) 24 2 (nI (n1404 + 1))) → (mj_G Ω l false mX7_readTruth d 0 0 Φ 0 0 13 ([some (.ref 24), some (.int x1), some (.int x2), some (.int (x3 + (1 : Int32)))], [], (mk I1405 J)))))))))))))))))))))) else (Φ (some (.int (1 : Int32))) (mk I J))))) :
    mj_G Ω l false mX7_readTruth d 0 0 Φ 0 0 13 ([some (.ref 24), some (.int x1), some (.int x2), some (.int x3)], [], mk I J) := mj_blk (μ := mX7_readTruth) (P := pX7_readTruth) (cut := cutX7_readTruth) (cs := csX7_readTruth w) dX7_readTruth hcs hd 32 13 _ h
set_option maxHeartbeats 8000000 in
theorem mnX7_readTruth {w : Nat} (hcs : mj_Cs mX7_readTruth (10 + 3 * (7 - w) + 1) (csX7_readTruth w)) {Ω : mj_Om} {l : Launch} {d : Nat} {Φ : Option Value → mj_M → Prop} (hd : (10 + 3 * (7 - w) + 1) ≤ d) (v : Int32) (b : Int32) (t : Nat) (τ : Nat → Int32) (p : Nat) (n : Nat) (I : Nat → Nat → Int32) (J : Nat → Nat → Int64) (hp : w ≤ 6 ∧ v = nI w ∧ (b = 0 ∨ b = 1) ∧ prC I t τ p n) (h : ∀ I1 : Nat → Nat → Int32, (wrC (trX t τ w b p) n I I1) → Φ (some (.int (okB (trX t τ w b p)))) (mk I1 J)) : mj_Met Ω l false mX7_readTruth d 0 0 [.ref 24, .int v, .int b] (mk I J) Φ := by
  refine inX7_readTruth hcs hd v b I J ?_
  obtain ⟨hw, hv, hb, hT, h1, hpt, h24, hn⟩ := hp
  have ht := hT.1.1
  refine ⟨⟨by trivial, mj_isk_mk _ _⟩, t, τ, p, n, ⟨hw, hv, hb, hT, h1, hpt, h24, hn⟩, fun A hA => ?_⟩
  obtain ⟨a1, a2, a3⟩ := hA
  by_cases z : okB (unX t τ w b p) = 0
  · rw [if_pos z]
    obtain ⟨e, he⟩ := okB_e0 z
    exact out_E h (by unfold trX gnQ; exact pgo_e he) a1 (a2 e he)
  rw [if_neg z]
  obtain ⟨y, hy⟩ := okB_n0 z
  obtain ⟨d1, d2⟩ := a3 y hy
  have yb := (pOk_unX (τ := τ) (w := w) (b := b) p hpt).2 y hy
  have eT : trX t τ w b p = lpP t τ opA (unW t τ w) (t + 1 - y.1) y.1 y.2 := by unfold trX gnQ; exact pgo_o hy
  have key : ∀ (f i q : Nat) (xs : List Int32) (B : Nat → Nat → Int32), t + 1 ≤ q + f → i + 1 ≤ q → q ≤ t → n + xs.length ≤ q → B 1 2 = nI q → Cd B n xs (I 25) → fr cFr I B → trX t τ w b p = lpP t τ opA (unW t τ w) f q xs → mj_G Ω l false mX7_readTruth d 0 0 Φ 0 0 13 ([some (.ref 24), some (.int v), some (.int b), some (.int (nI i))], [], mk B J) := by
    intro f
    induction f with
    | zero => intro i q xs B hf hi hq hl b1 bC bF he; omega
    | succ f ih =>
      intro i q xs B hf hi hq hl b1 bC bF he
      have k1 := skp_le (τ := τ) hq
      have k2 := skp_ge (t := t) (τ := τ) (p := q)
      rw [lpP] at he
      refine bX7_readTruth_13 hcs hd v b (nI i) B J ?_
      rw [if_pos (show nI i < 240 by rw [show (240 : Int32) = nI 240 from rfl, jn_lt (by omega) (by omega)]; omega)]
      refine ⟨⟨by trivial, mj_isk_mk _ _⟩, t, τ, q, ⟨TC_c hT bF, b1, hq⟩, fun C hC => ?_⟩
      have frC : fr cFr I C := fr_tr bF (rc_fr hC.2)
      have CC := Cd_mk bC hC.2
      by_cases s1 : nsg t τ q = 38
      case neg =>
        rw [if_pos (by rw [b2i_e0]; exact s1)]
        rw [tkp_n s1] at hC
        exact out_O h (q := (skp t τ q, xs)) (by rw [he, if_pos (by unfold opA; rw [if_neg s1])]) frC hC.1 CC
      rw [if_neg (by rw [b2i_e0]; exact fun u => u s1)]
      rw [tkp_y s1] at hC
      have eo : opA (nsg t τ q) = 20007 := by rw [s1]; decide
      rw [eo, if_neg (by decide)] at he
      have h3 : skp t τ q < t := nsg_p s1 (by decide)
      refine ⟨⟨by trivial, mj_isk_mk _ _⟩, t, τ, skp t τ q + 1, n + xs.length, ⟨hw, hv, Or.inl rfl, TC_c hT frC, hC.1, h3, CC.1, by omega⟩, fun E hE => ?_⟩
      rw [unX_0] at hE ⊢
      obtain ⟨e1, e2, e3⟩ := hE
      have frE : fr cFr I E := fr_tr frC e1
      by_cases u : okB (unW t τ w (skp t τ q + 1)) = 0
      · rw [if_pos u]
        obtain ⟨x, hx⟩ := okB_e0 u
        exact out_E h (by rw [he]; exact pgo_e hx) frE (e2 x hx)
      rw [if_neg u]
      obtain ⟨r, hr⟩ := okB_n0 u
      obtain ⟨g1, g2⟩ := e3 r hr
      have rb := (pOk_unW (τ := τ) (w := w) (skp t τ q + 1) h3).2 r hr
      rw [pgo_o hr] at he
      have CE := Cd_app CC g2
      refine ⟨⟨by trivial, mj_isk_mk _ _⟩, n + xs.length + r.2.length, ⟨g2.1, by omega⟩, fun K hK => ?_⟩
      subst hK
      rw [jn_succ]
      exact ih (i + 1) r.1 (xs ++ r.2 ++ [20007]) _ (by omega) (by omega) rb.2.1 (by rw [List.length_append, List.length_append, List.length_singleton]; omega) (by rw [ui_c (by decide), ui_c (by decide)]; exact g1) (Cd_up CE (by rw [List.length_append]; omega) rfl) (fr_ui (fr_ui frE (Or.inr (Or.inr rfl))) (Or.inr (Or.inl ⟨rfl, rfl⟩))) he
  exact key (t + 1 - y.1) 0 y.1 y.2 A (by omega) (by omega) yb.2.1 (by omega) d1 d2 a1 eT
theorem sdX7_readTruth {w : Nat} (hcs : mj_Cs mX7_readTruth (10 + 3 * (7 - w) + 1) (csX7_readTruth w)) : mj_Sd mX7_readTruth (10 + 3 * (7 - w) + 1) (tX7_readTruth w) := by
  intro Ω l d hd as M Φ h
  unfold tX7_readTruth at h
  split at h
  · rename_i z_this v b
    obtain ⟨⟨rfl, hM⟩, t, τ, p, n, hp, h⟩ := h
    rw [mj_isk_of hM]
    exact mnX7_readTruth hcs hd v b t τ p n _ _ hp (by
      rw [mj_isk_of hM] at h
      exact h)
  · exact h.elim
def csX7_readCondition (w : Nat) : List (Nat × Nat × Nat × mj_PT) := [(37, 0, 2, mj_rcv 8 tX8_take), (59, 0, 2, mj_rcv 7 tX7_emitS), (63, 0, 3, mj_rcv 7 (tX7_readTruth w))]
theorem csX7_readCondition_ok {w : Nat} (hw : w ≤ 6) (h_X7_readTruth : mj_Sd mX7_readTruth (10 + 3 * (7 - w) + 1) (tX7_readTruth w)) : mj_Cs mX7_readCondition (10 + 3 * (7 - w) + 2) (csX7_readCondition w) := (mj_CsV (D' := 2) (ci := 8) (q := (RX8, TX8, 3)) sdX8_take (by omega) fX8_take rfl rfl iX8_take vX8_take (by decide +kernel) l7_37 (mj_CsV (D' := 1) (ci := 7) (q := (RX7, TX7, 3)) sdX7_emitS (by omega) fX7_emit rfl rfl iX7_emit vX7_emit (by decide +kernel) l7_59 (mj_CsV (D' := (10 + 3 * (7 - w) + 1)) (ci := 7) (q := (RX7, TX7, 3)) h_X7_readTruth (by omega) fX7_readTruth rfl rfl iX7_readTruth vX7_readTruth (by decide +kernel) l7_63 mj_Cs0)))
def cutX7_readCondition : List (Nat × List Bool) := [(13, [true, true, true, true])]
set_option maxRecDepth 100000 in
set_option maxHeartbeats 4000000 in
theorem inX7_readCondition {w : Nat} (hcs : mj_Cs mX7_readCondition (10 + 3 * (7 - w) + 2) (csX7_readCondition w)) {Ω : mj_Om} {l : Launch} {d : Nat} {Φ : Option Value → mj_M → Prop} (hd : (10 + 3 * (7 - w) + 2) ≤ d) (v : Int32) (b : Int32) (I : Nat → Nat → Int32) (J : Nat → Nat → Int64)
    (h : (((24 = 24 ∧ mj_isk (mk I J)) ∧ (∃ t1425 : Nat, (∃ τ1426 : Nat → Int32, (∃ p1427 : Nat, (∃ n1428 : Nat, ((w ≤ 6 ∧ v = nI w ∧ (b = 0 ∨ b = 1) ∧ prC I t1425 τ1426 p1427 n1428) ∧ (∀ I1429 : Nat → Nat → Int32, (wrC (trX t1425 τ1426 w b p1427) n1428 I I1429) → (if (okB (trX t1425 τ1426 w b p1427)) = (0 : Int32) then (Φ (some (.int (0 : Int32))) (mk I1429 J)) else (mj_G Ω l false mX7_readCondition d 0 0 Φ 0 0 13 ([some (.ref 24), some (.int v), some (.int b), some (.int (0 : Int32))], [], (mk I1429 J))))))))))))) :
    mj_Met Ω l false mX7_readCondition d 0 0 [.ref 24, .int v, .int b] (mk I J) Φ := mj_entry (by decide) rfl (fun h => (by cases h)) (Nat.le_of_ble_eq_true rfl) (mj_blk (μ := mX7_readCondition) (P := pX7_readCondition) (cut := cutX7_readCondition) (cs := csX7_readCondition w) dX7_readCondition hcs hd 32 0 _ h)
set_option maxRecDepth 100000 in
set_option maxHeartbeats 4000000 in
theorem bX7_readCondition_13 {w : Nat} (hcs : mj_Cs mX7_readCondition (10 + 3 * (7 - w) + 2) (csX7_readCondition w)) {Ω : mj_Om} {l : Launch} {d : Nat} {Φ : Option Value → mj_M → Prop} (hd : (10 + 3 * (7 - w) + 2) ≤ d) (x1 : Int32) (x2 : Int32) (x3 : Int32) (I : Nat → Nat → Int32) (J : Nat → Nat → Int64)
    (h : ((if x3 < (240 : Int32) then ((1 = 1 ∧ mj_isk (mk I J)) ∧ (∃ t1430 : Nat, (∃ τ1431 : Nat → Int32, (∃ p1432 : Nat, ((TC I t1430 τ1431 ∧ I 1 2 = nI p1432 ∧ p1432 ≤ t1430) ∧ (∀ I1433 : Nat → Nat → Int32, (I1433 1 2 = nI (tkp t1430 τ1431 p1432 (124 : Int32)) ∧ fr rFr I I1433) → (if (b2i (nsg t1430 τ1431 p1432 = (124 : Int32))) = (0 : Int32) then (Φ (some (.int (1 : Int32))) (mk I1433 J)) else ((24 = 24 ∧ mj_isk (mk I1433 J)) ∧ (∃ t1435 : Nat, (∃ τ1436 : Nat → Int32, (∃ p1437 : Nat, (∃ n1438 : Nat, ((w ≤ 6 ∧ x1 = nI w ∧ ((0 : Int32) = 0 ∨ (0 : Int32) = 1) ∧ prC I1433 t1435 τ1436 p1437 n1438) ∧ (∀ I1439 : Nat → Nat → Int32, (wrC (trX t1435 τ1436 w (0 : Int32) p1437) n1438 I1433 I1439) → (if (okB (trX t1435 τ1436 w (0 : Int32) p1437)) = (0 : Int32) then (Φ (some (.int (0 : Int32))) (mk I1439 J)) else ((24 = 24 ∧ mj_isk (mk I1439 J)) ∧ (∃ n1440 : Nat, ((I1439 24 2 = nI n1440 ∧ n1440 < 240) ∧ (∀ I1441 : Nat → Nat → Int32, (I1441 = mj_ui (mj_ui I1439 25 n1440 ((Int16.ofInt 20008).toInt32)) 24 2 (nI (n1440 + 1))) → (mj_G Ω l false mX7_readCondition d 0 0 Φ 0 0 13 ([some (.ref 24), some (.int x1), some (.int x2), some (.int (x3 + (1 : Int32)))], [], (mk I1441 J)))))))))))))))))))))) else (Φ (some (.int (1 : Int32))) (mk I J))))) :
    mj_G Ω l false mX7_readCondition d 0 0 Φ 0 0 13 ([some (.ref 24), some (.int x1), some (.int x2), some (.int x3)], [], mk I J) := mj_blk (μ := mX7_readCondition) (P := pX7_readCondition) (cut := cutX7_readCondition) (cs := csX7_readCondition w) dX7_readCondition hcs hd 32 13 _ h
set_option maxHeartbeats 8000000 in
theorem mnX7_readCondition {w : Nat} (hcs : mj_Cs mX7_readCondition (10 + 3 * (7 - w) + 2) (csX7_readCondition w)) {Ω : mj_Om} {l : Launch} {d : Nat} {Φ : Option Value → mj_M → Prop} (hd : (10 + 3 * (7 - w) + 2) ≤ d) (v : Int32) (b : Int32) (t : Nat) (τ : Nat → Int32) (p : Nat) (n : Nat) (I : Nat → Nat → Int32) (J : Nat → Nat → Int64) (hp : w ≤ 6 ∧ v = nI w ∧ (b = 0 ∨ b = 1) ∧ prC I t τ p n) (h : ∀ I1 : Nat → Nat → Int32, (wrC (cdX t τ w b p) n I I1) → Φ (some (.int (okB (cdX t τ w b p)))) (mk I1 J)) : mj_Met Ω l false mX7_readCondition d 0 0 [.ref 24, .int v, .int b] (mk I J) Φ := by
  refine inX7_readCondition hcs hd v b I J ?_
  obtain ⟨hw, hv, hb, hT, h1, hpt, h24, hn⟩ := hp
  have ht := hT.1.1
  refine ⟨⟨by trivial, mj_isk_mk _ _⟩, t, τ, p, n, ⟨hw, hv, hb, hT, h1, hpt, h24, hn⟩, fun A hA => ?_⟩
  obtain ⟨a1, a2, a3⟩ := hA
  by_cases z : okB (trX t τ w b p) = 0
  · rw [if_pos z]
    obtain ⟨e, he⟩ := okB_e0 z
    exact out_E h (by unfold cdX gnQ; exact pgo_e he) a1 (a2 e he)
  rw [if_neg z]
  obtain ⟨y, hy⟩ := okB_n0 z
  obtain ⟨d1, d2⟩ := a3 y hy
  have yb := (pOk_trX (τ := τ) (w := w) (b := b) p hpt).2 y hy
  have eT : cdX t τ w b p = lpP t τ opO (trW t τ w) (t + 1 - y.1) y.1 y.2 := by unfold cdX gnQ; exact pgo_o hy
  have key : ∀ (f i q : Nat) (xs : List Int32) (B : Nat → Nat → Int32), t + 1 ≤ q + f → i + 1 ≤ q → q ≤ t → n + xs.length ≤ q → B 1 2 = nI q → Cd B n xs (I 25) → fr cFr I B → cdX t τ w b p = lpP t τ opO (trW t τ w) f q xs → mj_G Ω l false mX7_readCondition d 0 0 Φ 0 0 13 ([some (.ref 24), some (.int v), some (.int b), some (.int (nI i))], [], mk B J) := by
    intro f
    induction f with
    | zero => intro i q xs B hf hi hq hl b1 bC bF he; omega
    | succ f ih =>
      intro i q xs B hf hi hq hl b1 bC bF he
      have k1 := skp_le (τ := τ) hq
      have k2 := skp_ge (t := t) (τ := τ) (p := q)
      rw [lpP] at he
      refine bX7_readCondition_13 hcs hd v b (nI i) B J ?_
      rw [if_pos (show nI i < 240 by rw [show (240 : Int32) = nI 240 from rfl, jn_lt (by omega) (by omega)]; omega)]
      refine ⟨⟨by trivial, mj_isk_mk _ _⟩, t, τ, q, ⟨TC_c hT bF, b1, hq⟩, fun C hC => ?_⟩
      have frC : fr cFr I C := fr_tr bF (rc_fr hC.2)
      have CC := Cd_mk bC hC.2
      by_cases s1 : nsg t τ q = 124
      case neg =>
        rw [if_pos (by rw [b2i_e0]; exact s1)]
        rw [tkp_n s1] at hC
        exact out_O h (q := (skp t τ q, xs)) (by rw [he, if_pos (by unfold opO; rw [if_neg s1])]) frC hC.1 CC
      rw [if_neg (by rw [b2i_e0]; exact fun u => u s1)]
      rw [tkp_y s1] at hC
      have eo : opO (nsg t τ q) = 20008 := by rw [s1]; decide
      rw [eo, if_neg (by decide)] at he
      have h3 : skp t τ q < t := nsg_p s1 (by decide)
      refine ⟨⟨by trivial, mj_isk_mk _ _⟩, t, τ, skp t τ q + 1, n + xs.length, ⟨hw, hv, Or.inl rfl, TC_c hT frC, hC.1, h3, CC.1, by omega⟩, fun E hE => ?_⟩
      rw [trX_0] at hE ⊢
      obtain ⟨e1, e2, e3⟩ := hE
      have frE : fr cFr I E := fr_tr frC e1
      by_cases u : okB (trW t τ w (skp t τ q + 1)) = 0
      · rw [if_pos u]
        obtain ⟨x, hx⟩ := okB_e0 u
        exact out_E h (by rw [he]; exact pgo_e hx) frE (e2 x hx)
      rw [if_neg u]
      obtain ⟨r, hr⟩ := okB_n0 u
      obtain ⟨g1, g2⟩ := e3 r hr
      have rb := (pOk_trW (τ := τ) (w := w) (skp t τ q + 1) h3).2 r hr
      rw [pgo_o hr] at he
      have CE := Cd_app CC g2
      refine ⟨⟨by trivial, mj_isk_mk _ _⟩, n + xs.length + r.2.length, ⟨g2.1, by omega⟩, fun K hK => ?_⟩
      subst hK
      rw [jn_succ]
      exact ih (i + 1) r.1 (xs ++ r.2 ++ [20008]) _ (by omega) (by omega) rb.2.1 (by rw [List.length_append, List.length_append, List.length_singleton]; omega) (by rw [ui_c (by decide), ui_c (by decide)]; exact g1) (Cd_up CE (by rw [List.length_append]; omega) rfl) (fr_ui (fr_ui frE (Or.inr (Or.inr rfl))) (Or.inr (Or.inl ⟨rfl, rfl⟩))) he
  exact key (t + 1 - y.1) 0 y.1 y.2 A (by omega) (by omega) yb.2.1 (by omega) d1 d2 a1 eT
theorem sdX7_readCondition {w : Nat} (hcs : mj_Cs mX7_readCondition (10 + 3 * (7 - w) + 2) (csX7_readCondition w)) : mj_Sd mX7_readCondition (10 + 3 * (7 - w) + 2) (tX7_readCondition w) := by
  intro Ω l d hd as M Φ h
  unfold tX7_readCondition at h
  split at h
  · rename_i z_this v b
    obtain ⟨⟨rfl, hM⟩, t, τ, p, n, hp, h⟩ := h
    rw [mj_isk_of hM]
    exact mnX7_readCondition hcs hd v b t τ p n _ _ hp (by
      rw [mj_isk_of hM] at h
      exact h)
  · exact h.elim
theorem sdX7_readCondA : ∀ (k w : Nat), 7 - w = k → mj_Sd mX7_readUnit (10 + 3 * (7 - w) + 0) (tX7_readUnit w) ∧ mj_Sd mX7_readCondition (10 + 3 * (7 - w) + 2) (tX7_readCondition w) := by
  intro k
  induction k with
  | zero =>
    intro w hw
    refine ⟨?_, ?_⟩
    · intro Ω l d hd as M Φ h
      unfold tX7_readUnit at h
      split at h
      · obtain ⟨-, t, τ, p, n, ⟨q, -⟩, -⟩ := h
        omega
      · exact h.elim
    · intro Ω l d hd as M Φ h
      unfold tX7_readCondition at h
      split at h
      · obtain ⟨-, t, τ, p, n, ⟨q, -⟩, -⟩ := h
        omega
      · exact h.elim
  | succ k ih =>
    intro w hw
    obtain ⟨hu, hc⟩ := ih (w + 1) (by omega)
    have h1 : mj_Sd mX7_readUnit (10 + 3 * (7 - w) + 0) (tX7_readUnit w) := sdX7_readUnit (csX7_readUnit_ok (by omega) hc (sdX7_readSumA _ w rfl) hu)
    exact ⟨h1, sdX7_readCondition (csX7_readCondition_ok (by omega) (sdX7_readTruth (csX7_readTruth_ok (by omega) h1)))⟩
