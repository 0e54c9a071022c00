/-! ===== the class's RuleReader: clauses, faults (by program, wip/whole/p78.py) ===== -/
def tX7_readSumZ : mj_PT := tX7_readSum 0
def tX7_readConditionZ : mj_PT := tX7_readCondition 0
theorem sdX7_readSumZ : mj_Sd mX7_readSum 30 tX7_readSumZ := sdX7_readSumA _ 0 rfl
theorem sdX7_readConditionZ : mj_Sd mX7_readCondition 33 tX7_readConditionZ := (sdX7_readCondA _ 0 rfl).2
noncomputable def anR (t : Nat) (τ : Nat → Int32) (n p : Nat) : PR := pgo (anQ t τ p) (fun p1 ys => .ok (p1, nI (30000 + (n + ys.length + 2)) :: (ys ++ [20010])))
theorem Cd_set {I : Nat → Nat → Int32} {n : Nat} {x y : Int32} {xs : List Int32} {B : Nat → Int32} (h : Cd I n (x :: xs) B) : Cd (mj_ui I 25 n y) n (y :: xs) B := by
  refine ⟨by rw [ui_c (by decide)]; exact h.1, fun j hj => ?_, fun j hj => by rw [ui_k (by omega)]; exact h.2.2 j hj⟩
  cases j with
  | zero => exact ui_s
  | succ j => rw [ui_k (by omega)]; exact h.2.1 (j + 1) hj
theorem s30000 : ((Int16.ofInt 30000).toInt32) = nI 30000 := by decide
theorem s20010 : ((Int16.ofInt 20010).toInt32) = (20010 : Int32) := by decide
def csX7_readAnswer : List (Nat × Nat × Nat × mj_PT) := [(37, 0, 2, mj_rcv 8 tX8_take), (52, 0, 2, mj_rcv 7 tX7_readSumZ), (59, 0, 2, mj_rcv 7 tX7_emitS)]
theorem csX7_readAnswer_ok : mj_Cs mX7_readAnswer 31 csX7_readAnswer := (mj_CsV (D' := 2) (ci := 8) (q := (RX8, TX8, 3)) sdX8_take (Nat.le_of_ble_eq_true rfl) fX8_take rfl rfl iX8_take vX8_take (by decide +kernel) l7_37 (mj_CsV (D' := 30) (ci := 7) (q := (RX7, TX7, 3)) sdX7_readSumZ (Nat.le_of_ble_eq_true rfl) fX7_readSum rfl rfl iX7_readSum vX7_readSum (by decide +kernel) l7_52 (mj_CsV (D' := 1) (ci := 7) (q := (RX7, TX7, 3)) sdX7_emitS (Nat.le_of_ble_eq_true rfl) fX7_emit rfl rfl iX7_emit vX7_emit (by decide +kernel) l7_59 mj_Cs0)))
def cutX7_readAnswer : List (Nat × List Bool) := []
set_option maxRecDepth 100000 in
set_option maxHeartbeats 4000000 in
theorem inX7_readAnswer {Ω : mj_Om} {l : Launch} {d : Nat} {Φ : Option Value → mj_M → Prop} (hd : 31 ≤ d) (I : Nat → Nat → Int32) (J : Nat → Nat → Int64)
    (h : (((1 = 1 ∧ mj_isk (mk I J)) ∧ (∃ t1459 : Nat, (∃ τ1460 : Nat → Int32, (∃ p1461 : Nat, ((TC I t1459 τ1460 ∧ I 1 2 = nI p1461 ∧ p1461 ≤ t1459) ∧ (∀ I1462 : Nat → Nat → Int32, (I1462 1 2 = nI (tkp t1459 τ1460 p1461 (63 : Int32)) ∧ fr rFr I I1462) → (if (b2i (nsg t1459 τ1460 p1461 = (63 : Int32))) = (0 : Int32) then (Φ (some (.int (0 : Int32))) (mk I1462 J)) else ((24 = 24 ∧ mj_isk (mk I1462 J)) ∧ (∃ n1464 : Nat, ((I1462 24 2 = nI n1464 ∧ n1464 < 240) ∧ (∀ I1465 : Nat → Nat → Int32, (I1465 = mj_ui (mj_ui I1462 25 n1464 ((Int16.ofInt 30000).toInt32)) 24 2 (nI (n1464 + 1))) → ((24 = 24 ∧ mj_isk (mk I1465 J)) ∧ (∃ t1467 : Nat, (∃ τ1468 : Nat → Int32, (∃ p1469 : Nat, (∃ n1470 : Nat, ((0 ≤ 6 ∧ (0 : Int32) = nI 0 ∧ prC I1465 t1467 τ1468 p1469 n1470) ∧ (∀ I1471 : Nat → Nat → Int32, (wrC (smW t1467 τ1468 0 p1469) n1470 I1465 I1471) → (if (okB (smW t1467 τ1468 0 p1469)) = (0 : Int32) then (Φ (some (.int (0 : Int32))) (mk I1471 J)) else ((24 = 24 ∧ mj_isk (mk I1471 J)) ∧ (∃ n1472 : Nat, ((I1471 24 2 = nI n1472 ∧ n1472 < 240) ∧ (∀ I1473 : Nat → Nat → Int32, (I1473 = mj_ui (mj_ui I1471 25 n1472 ((Int16.ofInt 20010).toInt32)) 24 2 (nI (n1472 + 1))) → (if (I1462 24 2) < (240 : Int32) then (mj_gd (mj_inB (I1462 24 2) 240) (Φ (some (.int (1 : Int32))) (mk (mj_ui I1473 25 ((I1462 24 2)).toNatClampNeg (((Int16.ofInt 30000).toInt32) + (I1473 24 2))) J))) else (Φ (some (.int (1 : Int32))) (mk I1473 J)))))))))))))))))))))))))))) :
    mj_Met Ω l false mX7_readAnswer d 0 0 [.ref 24] (mk I J) Φ := mj_entry (by decide) rfl (fun h => (by cases h)) (Nat.le_of_ble_eq_true rfl) (mj_blk (μ := mX7_readAnswer) (P := pX7_readAnswer) (cut := cutX7_readAnswer) (cs := csX7_readAnswer) dX7_readAnswer csX7_readAnswer_ok hd 38 0 _ h)
def tX7_readAnswer : mj_PT := fun as M Φ => match as with
  | [.ref this] => ((this = 24 ∧ mj_isk M) ∧ (∃ t : Nat, (∃ τ : Nat → Int32, (∃ p : Nat, (∃ n : Nat, ((prC M.2.2.1 t τ p n ∧ n + 2 ≤ p) ∧ (∀ I1 : Nat → Nat → Int32, (wrC (anR t τ n p) n M.2.2.1 I1) → Φ (some (.int (okB (anR t τ n p)))) (M.1, M.2.1, I1, M.2.2.2))))))))
  | _ => False
set_option maxHeartbeats 8000000 in
theorem mnX7_readAnswer {Ω : mj_Om} {l : Launch} {d : Nat} {Φ : Option Value → mj_M → Prop} (hd : 31 ≤ d) (t : Nat) (τ : Nat → Int32) (p : Nat) (n : Nat) (I : Nat → Nat → Int32) (J : Nat → Nat → Int64) (hp : prC I t τ p n ∧ n + 2 ≤ p) (h : ∀ I1 : Nat → Nat → Int32, (wrC (anR t τ n p) n I I1) → Φ (some (.int (okB (anR t τ n p)))) (mk I1 J)) : mj_Met Ω l false mX7_readAnswer d 0 0 [.ref 24] (mk I J) Φ := by
  refine inX7_readAnswer hd I J ?_
  obtain ⟨⟨hT, h1, hpt, h24, hn⟩, hn2⟩ := hp
  have ht := hT.1.1
  have k1 := skp_le (τ := τ) hpt
  have k2 := skp_ge (t := t) (τ := τ) (p := p)
  refine ⟨⟨by trivial, mj_isk_mk _ _⟩, t, τ, p, ⟨hT, h1, hpt⟩, fun A hA => ?_⟩
  by_cases s1 : nsg t τ p = 63
  case neg =>
    rw [if_pos (by rw [b2i_e0]; exact s1)]
    rw [tkp_n s1] at hA
    exact out_E h (e := skp t τ p) (by unfold anR anQ; rw [if_neg s1]; rfl) (rc_fr hA.2) hA.1
  rw [if_neg (by rw [b2i_e0]; exact fun u => u s1)]
  rw [tkp_y s1] at hA
  have h3 : skp t τ p < t := nsg_p s1 (by decide)
  have eQ : anQ t τ p = smW t τ 0 (skp t τ p + 1) := if_pos s1
  have a24 : A 24 2 = nI n := by rw [r24 hA.2]; exact h24
  have cA : Cd A n [] (I 25) := by
    have c0 := Cd_0 (I := A) (n := n) a24
    rw [r25 hA.2] at c0
    exact c0
  refine ⟨⟨by trivial, mj_isk_mk _ _⟩, n, ⟨a24, by omega⟩, fun B hB => ?_⟩
  have cB : Cd B n [(Int16.ofInt 30000).toInt32] (I 25) := by rw [hB]; exact Cd_up cA rfl rfl
  have frB : fr cFr I B := by rw [hB]; exact fr_ui (fr_ui (rc_fr hA.2) (Or.inr (Or.inr rfl))) (Or.inr (Or.inl ⟨rfl, rfl⟩))
  have b1 : B 1 2 = nI (skp t τ p + 1) := by rw [hB, ui_c (by decide), ui_c (by decide)]; exact hA.1
  refine ⟨⟨by trivial, mj_isk_mk _ _⟩, t, τ, skp t τ p + 1, n + 1, ⟨by decide, rfl, TC_c hT frB, b1, h3, cB.1, by omega⟩, fun C hC => ?_⟩
  obtain ⟨e1, e2, e3⟩ := hC
  have frC : fr cFr I C := fr_tr frB e1
  by_cases u : okB (smW t τ 0 (skp t τ p + 1)) = 0
  · rw [if_pos u]
    obtain ⟨x, hx⟩ := okB_e0 u
    exact out_E h (e := x) (by unfold anR; rw [eQ, pgo_e hx]) frC (e2 x hx)
  rw [if_neg u]
  obtain ⟨r, hr⟩ := okB_n0 u
  obtain ⟨g1, g2⟩ := e3 r hr
  have rb := (pOk_smW (τ := τ) (w := 0) (skp t τ p + 1) h3).2 r hr
  have cC := Cd_app cB (show Cd C (n + [(Int16.ofInt 30000).toInt32].length) r.2 (B 25) from g2)
  refine ⟨⟨by trivial, mj_isk_mk _ _⟩, n + 1 + r.2.length, ⟨g2.1, by omega⟩, fun Z hZ => ?_⟩
  have cZ : Cd Z n ((Int16.ofInt 30000).toInt32 :: (r.2 ++ [20010])) (I 25) := by
    rw [hZ, s20010]
    exact Cd_up cC (by rw [List.length_append, List.length_singleton]; omega) rfl
  have frZ : fr cFr I Z := by rw [hZ]; exact fr_ui (fr_ui frC (Or.inr (Or.inr rfl))) (Or.inr (Or.inl ⟨rfl, rfl⟩))
  have z1 : Z 1 2 = nI r.1 := by rw [hZ, ui_c (by decide), ui_c (by decide)]; exact g1
  have z24 : Z 24 2 = nI (n + r.2.length + 2) := by rw [hZ, ui_s, show n + 1 + r.2.length + 1 = n + r.2.length + 2 by omega]
  rw [a24, if_pos (show nI n < 240 by rw [show (240 : Int32) = nI 240 from rfl, jn_lt (by omega) (by omega)]; omega)]
  simp (disch := omega) only [jn_in, jn_cl, gd_dec]
  rw [z24, s30000, jn_add]
  refine out_O h (q := (r.1, nI (30000 + (n + r.2.length + 2)) :: (r.2 ++ [20010]))) (by unfold anR; rw [eQ, pgo_o hr]) (fr_ui frZ (Or.inr (Or.inr rfl))) (by rw [ui_c (by decide)]; exact z1) ?_
  exact Cd_set cZ
theorem sdX7_readAnswer : mj_Sd mX7_readAnswer 31 tX7_readAnswer := by
  intro Ω l d hd as M Φ h
  unfold tX7_readAnswer at h
  split at h
  · rename_i z_this
    obtain ⟨⟨rfl, hM⟩, t, τ, p, n, hp, h⟩ := h
    rw [mj_isk_of hM]
    exact mnX7_readAnswer hd t τ p n _ _ hp (by
      rw [mj_isk_of hM] at h
      exact h)
  · exact h.elim
noncomputable def clR (t : Nat) (τ : Nat → Int32) (n p : Nat) : PR := match clP t τ p with
  | .error e => .error e
  | .ok r => .ok (r.1, blkC n r.2.1 r.2.2)
theorem clR_e {t : Nat} {τ : Nat → Int32} {n p e : Nat} (h : clP t τ p = .error e) : clR t τ n p = .error e := by unfold clR; rw [h]
theorem clR_o {t : Nat} {τ : Nat → Int32} {n p : Nat} {r : Nat × (List Int32 × List Int32)} (h : clP t τ p = .ok r) : clR t τ n p = .ok (r.1, blkC n r.2.1 r.2.2) := by unfold clR; rw [h]
def csX7_readClause : List (Nat × Nat × Nat × mj_PT) := [(37, 0, 2, mj_rcv 8 tX8_take), (41, 0, 1, mj_rcv 8 tX8_nextSign), (45, 0, 3, mj_rcv 7 tX7_readConditionZ), (49, 0, 1, mj_rcv 7 tX7_readAnswer), (52, 0, 2, mj_rcv 7 tX7_readSumZ), (55, 1, 1, tX7_comparisonOfS), (59, 0, 2, mj_rcv 7 tX7_emitS)]
theorem csX7_readClause_ok : mj_Cs mX7_readClause 34 csX7_readClause := (mj_CsV (D' := 2) (ci := 8) (q := (RX8, TX8, 3)) sdX8_take (Nat.le_of_ble_eq_true rfl) fX8_take rfl rfl iX8_take vX8_take (by decide +kernel) l7_37 (mj_CsV (D' := 1) (ci := 8) (q := (RX8, TX8, 3)) sdX8_nextSign (Nat.le_of_ble_eq_true rfl) fX8_nextSign rfl rfl iX8_nextSign vX8_nextSign (by decide +kernel) l7_41 (mj_CsV (D' := 33) (ci := 7) (q := (RX7, TX7, 3)) sdX7_readConditionZ (Nat.le_of_ble_eq_true rfl) fX7_readCondition rfl rfl iX7_readCondition vX7_readCondition (by decide +kernel) l7_45 (mj_CsV (D' := 31) (ci := 7) (q := (RX7, TX7, 3)) sdX7_readAnswer (Nat.le_of_ble_eq_true rfl) fX7_readAnswer rfl rfl iX7_readAnswer vX7_readAnswer (by decide +kernel) l7_49 (mj_CsV (D' := 30) (ci := 7) (q := (RX7, TX7, 3)) sdX7_readSumZ (Nat.le_of_ble_eq_true rfl) fX7_readSum rfl rfl iX7_readSum vX7_readSum (by decide +kernel) l7_52 (mj_CsS (D' := 1) sdX7_comparisonOfS (Nat.le_of_ble_eq_true rfl) fX7_comparisonOf sX7_comparisonOf (by decide +kernel) l7_55 (mj_CsV (D' := 1) (ci := 7) (q := (RX7, TX7, 3)) sdX7_emitS (Nat.le_of_ble_eq_true rfl) fX7_emit rfl rfl iX7_emit vX7_emit (by decide +kernel) l7_59 mj_Cs0)))))))
def cutX7_readClause : List (Nat × List Bool) := [(46, [true, true])]
def pX7_readClause_0 : List (Nat × Instr × Nat) := [(0, .aload_n 0, 1), (1, .getfield 17, 3), (4, .bipush 121, 2), (6, .invokevirtual 37, 3), (9, .ifCond .eq 15, 3), (12, .aload_n 0, 1), (13, .getfield 17, 3), (16, .bipush 58, 2), (18, .invokevirtual 37, 3), (21, .ifCond .ne 5, 3), (24, .iconst 0, 1), (25, .ireturn, 1), (26, .aload_n 0, 1), (27, .getfield 17, 3), (30, .invokevirtual 41, 3), (33, .istore_n 1, 1), (34, .iload_n 1, 1), (35, .bipush 33, 2), (37, .if_icmp .eq 9, 3), (40, .iload_n 1, 1), (41, .bipush 40, 2), (43, .if_icmp .ne 25, 3), (46, .aload_n 0, 1), (68, .aload_n 0, 1), (69, .iconst 0, 1), (70, .invokevirtual 52, 3), (73, .ifCond .ne 5, 3), (76, .iconst 0, 1), (77, .ireturn, 1), (78, .aload_n 0, 1), (79, .getfield 17, 3), (82, .invokevirtual 41, 3), (85, .invokestatic 55, 3), (88, .iconst (-1), 1), (89, .if_icmp .eq 25, 3), (92, .aload_n 0, 1), (93, .iconst 0, 1), (94, .iconst 1, 1), (95, .invokevirtual 45, 3), (98, .ifCond .eq 14, 3), (101, .aload_n 0, 1), (102, .invokevirtual 49, 3), (105, .ifCond .eq 7, 3), (108, .iconst 1, 1), (109, .goto 4, 3), (112, .iconst 0, 1), (113, .ireturn, 1), (114, .aload_n 0, 1), (115, .sipush 20010, 3), (118, .invokevirtual 59, 3), (121, .iconst 1, 1), (122, .ireturn, 1)]
set_option maxRecDepth 100000 in
theorem dX7_readClause_0 : mj_pd cX7_readClause pX7_readClause_0 := mj_pdB (by decide +kernel)
set_option maxRecDepth 100000 in
set_option maxHeartbeats 4000000 in
theorem inX7_readClause {Ω : mj_Om} {l : Launch} {d : Nat} {Φ : Option Value → mj_M → Prop} (hd : 34 ≤ d) (I : Nat → Nat → Int32) (J : Nat → Nat → Int64)
    (h : (((1 = 1 ∧ mj_isk (mk I J)) ∧ (∃ t1527 : Nat, (∃ τ1528 : Nat → Int32, (∃ p1529 : Nat, ((TC I t1527 τ1528 ∧ I 1 2 = nI p1529 ∧ p1529 ≤ t1527) ∧ (∀ I1530 : Nat → Nat → Int32, (I1530 1 2 = nI (tkp t1527 τ1528 p1529 (121 : Int32)) ∧ fr rFr I I1530) → (if (b2i (nsg t1527 τ1528 p1529 = (121 : Int32))) = (0 : Int32) then (Φ (some (.int (0 : Int32))) (mk I1530 J)) else ((1 = 1 ∧ mj_isk (mk I1530 J)) ∧ (∃ t1532 : Nat, (∃ τ1533 : Nat → Int32, (∃ p1534 : Nat, ((TC I1530 t1532 τ1533 ∧ I1530 1 2 = nI p1534 ∧ p1534 ≤ t1532) ∧ (∀ I1535 : Nat → Nat → Int32, (I1535 1 2 = nI (tkp t1532 τ1533 p1534 (58 : Int32)) ∧ fr rFr I1530 I1535) → (if (b2i (nsg t1532 τ1533 p1534 = (58 : Int32))) = (0 : Int32) then (Φ (some (.int (0 : Int32))) (mk I1535 J)) else ((1 = 1 ∧ mj_isk (mk I1535 J)) ∧ (∃ t1537 : Nat, (∃ τ1538 : Nat → Int32, (∃ p1539 : Nat, ((TC I1535 t1537 τ1538 ∧ I1535 1 2 = nI p1539 ∧ p1539 ≤ t1537) ∧ (∀ I1540 : Nat → Nat → Int32, (I1540 1 2 = nI (skp t1537 τ1538 p1539) ∧ fr rFr I1535 I1540) → (if (nsg t1537 τ1538 p1539) = (33 : Int32) then (mj_G Ω l false mX7_readClause d 0 0 Φ 0 0 46 ([some (.ref 24), some (.int (nsg t1537 τ1538 p1539))], [], (mk I1540 J))) else (if (nsg t1537 τ1538 p1539) = (40 : Int32) then (mj_G Ω l false mX7_readClause d 0 0 Φ 0 0 46 ([some (.ref 24), some (.int (nsg t1537 τ1538 p1539))], [], (mk I1540 J))) else ((24 = 24 ∧ mj_isk (mk I1540 J)) ∧ (∃ t1542 : Nat, (∃ τ1543 : Nat → Int32, (∃ p1544 : Nat, (∃ n1545 : Nat, ((0 ≤ 6 ∧ (0 : Int32) = nI 0 ∧ prC I1540 t1542 τ1543 p1544 n1545) ∧ (∀ I1546 : Nat → Nat → Int32, (wrC (smW t1542 τ1543 0 p1544) n1545 I1540 I1546) → (if (okB (smW t1542 τ1543 0 p1544)) = (0 : Int32) then (Φ (some (.int (0 : Int32))) (mk I1546 J)) else ((1 = 1 ∧ mj_isk (mk I1546 J)) ∧ (∃ t1547 : Nat, (∃ τ1548 : Nat → Int32, (∃ p1549 : Nat, ((TC I1546 t1547 τ1548 ∧ I1546 1 2 = nI p1549 ∧ p1549 ≤ t1547) ∧ (∀ I1550 : Nat → Nat → Int32, (I1550 1 2 = nI (skp t1547 τ1548 p1549) ∧ fr rFr I1546 I1550) → ((mj_isk (mk I1550 J)) ∧ (if (if cmO (nsg t1547 τ1548 p1549) = 0 then -1 else cmO (nsg t1547 τ1548 p1549)) = (-1 : Int32) then ((24 = 24 ∧ mj_isk (mk I1550 J)) ∧ (∃ n1554 : Nat, ((I1550 24 2 = nI n1554 ∧ n1554 < 240) ∧ (∀ I1555 : Nat → Nat → Int32, (I1555 = mj_ui (mj_ui I1550 25 n1554 ((Int16.ofInt 20010).toInt32)) 24 2 (nI (n1554 + 1))) → (Φ (some (.int (1 : Int32))) (mk I1555 J)))))) else ((24 = 24 ∧ mj_isk (mk I1550 J)) ∧ (∃ t1557 : Nat, (∃ τ1558 : Nat → Int32, (∃ p1559 : Nat, (∃ n1560 : Nat, ((0 ≤ 6 ∧ (0 : Int32) = nI 0 ∧ ((1 : Int32) = 0 ∨ (1 : Int32) = 1) ∧ prC I1550 t1557 τ1558 p1559 n1560) ∧ (∀ I1561 : Nat → Nat → Int32, (wrC (cdX t1557 τ1558 0 (1 : Int32) p1559) n1560 I1550 I1561) → (if (okB (cdX t1557 τ1558 0 (1 : Int32) p1559)) = (0 : Int32) then (Φ (some (.int (0 : Int32))) (mk I1561 J)) else ((24 = 24 ∧ mj_isk (mk I1561 J)) ∧ (∃ t1562 : Nat, (∃ τ1563 : Nat → Int32, (∃ p1564 : Nat, (∃ n1565 : Nat, ((prC I1561 t1562 τ1563 p1564 n1565 ∧ n1565 + 2 ≤ p1564) ∧ (∀ I1566 : Nat → Nat → Int32, (wrC (anR t1562 τ1563 n1565 p1564) n1565 I1561 I1566) → (if (okB (anR t1562 τ1563 n1565 p1564)) = (0 : Int32) then (Φ (some (.int (0 : Int32))) (mk I1566 J)) else (Φ (some (.int (1 : Int32))) (mk I1566 J)))))))))))))))))))))))))))))))))))))))))))))))))))))))))) :
    mj_Met Ω l false mX7_readClause d 0 0 [.ref 24] (mk I J) Φ := mj_entry (by decide) rfl (fun h => (by cases h)) (Nat.le_of_ble_eq_true rfl) (mj_blk (μ := mX7_readClause) (P := pX7_readClause_0) (cut := cutX7_readClause) (cs := csX7_readClause) dX7_readClause_0 csX7_readClause_ok hd 53 0 _ h)
def pX7_readClause_46 : List (Nat × Instr × Nat) := [(46, .aload_n 0, 1), (47, .iconst 0, 1), (48, .iconst 0, 1), (49, .invokevirtual 45, 3), (52, .ifCond .eq 14, 3), (55, .aload_n 0, 1), (56, .invokevirtual 49, 3), (59, .ifCond .eq 7, 3), (62, .iconst 1, 1), (63, .goto 4, 3), (66, .iconst 0, 1), (67, .ireturn, 1)]
set_option maxRecDepth 100000 in
theorem dX7_readClause_46 : mj_pd cX7_readClause pX7_readClause_46 := mj_pdB (by decide +kernel)
set_option maxRecDepth 100000 in
set_option maxHeartbeats 4000000 in
theorem bX7_readClause_46 {Ω : mj_Om} {l : Launch} {d : Nat} {Φ : Option Value → mj_M → Prop} (hd : 34 ≤ d) (x1 : Int32) (I : Nat → Nat → Int32) (J : Nat → Nat → Int64)
    (h : (((24 = 24 ∧ mj_isk (mk I J)) ∧ (∃ t1568 : Nat, (∃ τ1569 : Nat → Int32, (∃ p1570 : Nat, (∃ n1571 : Nat, ((0 ≤ 6 ∧ (0 : Int32) = nI 0 ∧ ((0 : Int32) = 0 ∨ (0 : Int32) = 1) ∧ prC I t1568 τ1569 p1570 n1571) ∧ (∀ I1572 : Nat → Nat → Int32, (wrC (cdX t1568 τ1569 0 (0 : Int32) p1570) n1571 I I1572) → (if (okB (cdX t1568 τ1569 0 (0 : Int32) p1570)) = (0 : Int32) then (Φ (some (.int (0 : Int32))) (mk I1572 J)) else ((24 = 24 ∧ mj_isk (mk I1572 J)) ∧ (∃ t1573 : Nat, (∃ τ1574 : Nat → Int32, (∃ p1575 : Nat, (∃ n1576 : Nat, ((prC I1572 t1573 τ1574 p1575 n1576 ∧ n1576 + 2 ≤ p1575) ∧ (∀ I1577 : Nat → Nat → Int32, (wrC (anR t1573 τ1574 n1576 p1575) n1576 I1572 I1577) → (if (okB (anR t1573 τ1574 n1576 p1575)) = (0 : Int32) then (Φ (some (.int (0 : Int32))) (mk I1577 J)) else (Φ (some (.int (1 : Int32))) (mk I1577 J)))))))))))))))))))) :
    mj_G Ω l false mX7_readClause d 0 0 Φ 0 0 46 ([some (.ref 24), some (.int x1)], [], mk I J) := mj_blk (μ := mX7_readClause) (P := pX7_readClause_46) (cut := cutX7_readClause) (cs := csX7_readClause) dX7_readClause_46 csX7_readClause_ok hd 13 46 _ h
def tX7_readClause : mj_PT := fun as M Φ => match as with
  | [.ref this] => ((this = 24 ∧ mj_isk M) ∧ (∃ t : Nat, (∃ τ : Nat → Int32, (∃ p : Nat, (∃ n : Nat, ((prC M.2.2.1 t τ p n) ∧ (∀ I1 : Nat → Nat → Int32, (wrC (clR t τ n p) n M.2.2.1 I1) → Φ (some (.int (okB (clR t τ n p)))) (M.1, M.2.1, I1, M.2.2.2))))))))
  | _ => False
set_option maxHeartbeats 16000000 in
theorem mnX7_readClause {Ω : mj_Om} {l : Launch} {d : Nat} {Φ : Option Value → mj_M → Prop} (hd : 34 ≤ d) (t : Nat) (τ : Nat → Int32) (p : Nat) (n : Nat) (I : Nat → Nat → Int32) (J : Nat → Nat → Int64) (hp : prC I t τ p n) (h : ∀ I1 : Nat → Nat → Int32, (wrC (clR t τ n p) n I I1) → Φ (some (.int (okB (clR t τ n p)))) (mk I1 J)) : mj_Met Ω l false mX7_readClause d 0 0 [.ref 24] (mk I J) Φ := by
  refine inX7_readClause hd I J ?_
  obtain ⟨hT, h1, hpt, h24, hn⟩ := hp
  have ht := hT.1.1
  have k1 := skp_le (τ := τ) hpt
  have k2 := skp_ge (t := t) (τ := τ) (p := p)
  have ans : ∀ (p1 : Nat) (xs : List Int32) (C : Nat → Nat → Int32), p1 ≤ t → n + xs.length + 2 ≤ p1 → C 1 2 = nI p1 → Cd C n xs (I 25) → fr cFr I C → ¬ xs = [] → clP t τ p = anP t τ p1 xs → ((24 = 24 ∧ mj_isk (mk C J)) ∧ ∃ t1 : Nat, ∃ τ1 : Nat → Int32, ∃ p2 : Nat, ∃ n1 : Nat, (prC C t1 τ1 p2 n1 ∧ n1 + 2 ≤ p2) ∧ ∀ I1 : Nat → Nat → Int32, (wrC (anR t1 τ1 n1 p2) n1 C I1) → (if (okB (anR t1 τ1 n1 p2)) = (0 : Int32) then (Φ (some (.int (0 : Int32))) (mk I1 J)) else (Φ (some (.int (1 : Int32))) (mk I1 J)))) := by
    intro p1 xs C hp1 hl c1 cC frC hx he
    refine ⟨⟨by trivial, mj_isk_mk _ _⟩, t, τ, p1, n + xs.length, ⟨⟨TC_c hT frC, c1, hp1, cC.1, by omega⟩, hl⟩, fun D hD => ?_⟩
    obtain ⟨e1, e2, e3⟩ := hD
    rw [anP_Q] at he
    by_cases u : okB (anR t τ (n + xs.length) p1) = 0
    · rw [if_pos u]
      obtain ⟨x, hx⟩ := okB_e0 u
      have hx' : anQ t τ p1 = .error x := by
        rcases pgo_err hx with q | ⟨q1, q, g⟩
        · exact q
        · cases g
      exact out_E h (clR_e (by rw [he, pgo_e hx'])) (fr_tr frC e1) (e2 x hx)
    · rw [if_neg u]
      obtain ⟨y, hy⟩ := okB_n0 u
      obtain ⟨g1, g2⟩ := e3 y hy
      obtain ⟨q1, hq, g⟩ := pgo_ok hy
      cases g
      refine out_O h (clR_o (by rw [he, pgo_o hq])) (fr_tr frC e1) g1 ?_
      show Cd D n (blkC n xs q1.2) (I 25)
      unfold blkC
      rw [if_neg hx]
      exact Cd_app cC g2
  refine ⟨⟨by trivial, mj_isk_mk _ _⟩, t, τ, p, ⟨hT, h1, hpt⟩, fun A hA => ?_⟩
  by_cases s1 : nsg t τ p = 121
  case neg =>
    rw [if_pos (by rw [b2i_e0]; exact s1)]
    rw [tkp_n s1] at hA
    exact out_E h (e := skp t τ p) (clR_e (by unfold clP; rw [if_neg s1])) (rc_fr hA.2) hA.1
  rw [if_neg (by rw [b2i_e0]; exact fun u => u s1)]
  rw [tkp_y s1] at hA
  have h3 : skp t τ p + 1 ≤ t := nsg_p s1 (by decide)
  have k3 := skp_le (τ := τ) h3
  have k4 := skp_ge (t := t) (τ := τ) (p := skp t τ p + 1)
  refine ⟨⟨by trivial, mj_isk_mk _ _⟩, t, τ, skp t τ p + 1, ⟨TC_c hT (rc_fr hA.2), hA.1, h3⟩, fun B hB => ?_⟩
  have frB : fr rFr I B := fr_tr hA.2 hB.2
  by_cases s2 : nsg t τ (skp t τ p + 1) = 58
  case neg =>
    rw [if_pos (by rw [b2i_e0]; exact s2)]
    rw [tkp_n s2] at hB
    exact out_E h (e := skp t τ (skp t τ p + 1)) (clR_e (by unfold clP; rw [if_pos s1, if_neg s2])) (rc_fr frB) hB.1
  rw [if_neg (by rw [b2i_e0]; exact fun u => u s2)]
  rw [tkp_y s2] at hB
  have h4 : skp t τ (skp t τ p + 1) + 1 ≤ t := nsg_p s2 (by decide)
  have eC : clP t τ p = bdP t τ (skp t τ (skp t τ p + 1) + 1) := by unfold clP; rw [if_pos s1, if_pos s2]
  generalize hq : skp t τ (skp t τ p + 1) + 1 = q at hB h4 eC
  have hpq : p + 2 ≤ q := by omega
  have k5 := skp_le (τ := τ) h4
  have k6 := skp_ge (t := t) (τ := τ) (p := q)
  refine ⟨⟨by trivial, mj_isk_mk _ _⟩, t, τ, q, ⟨TC_c hT (rc_fr frB), hB.1, h4⟩, fun C hC => ?_⟩
  have frC : fr rFr I C := fr_tr frB hC.2
  have c24 : C 24 2 = nI n := by rw [r24 frC]; exact h24
  have cC : Cd C n [] (I 25) := by
    have c0 := Cd_0 (I := C) (n := n) c24
    rw [r25 frC] at c0
    exact c0
  have cond : (nsg t τ q = 33 ∨ nsg t τ q = 40) → mj_G Ω l false mX7_readClause d 0 0 Φ 0 0 46 ([some (.ref 24), some (.int (nsg t τ q))], [], mk C J) := by
    intro hs
    refine bX7_readClause_46 hd (nsg t τ q) C J ?_
    refine ⟨⟨by trivial, mj_isk_mk _ _⟩, t, τ, skp t τ q, n, ⟨by decide, rfl, Or.inl rfl, TC_c hT (rc_fr frC), hC.1, k5, c24, by omega⟩, fun D hD => ?_⟩
    rw [cdX_0] at hD ⊢
    obtain ⟨e1, e2, e3⟩ := hD
    have frD : fr cFr I D := fr_tr (rc_fr frC) e1
    have eB : bdP t τ q = pgo (cdW t τ 0 (skp t τ q)) (fun p1 xs => anP t τ p1 xs) := by unfold bdP; rw [if_pos hs]
    by_cases u : okB (cdW t τ 0 (skp t τ q)) = 0
    · rw [if_pos u]
      obtain ⟨x, hx⟩ := okB_e0 u
      exact out_E h (clR_e (by rw [eC, eB, pgo_e hx])) frD (e2 x hx)
    rw [if_neg u]
    obtain ⟨y, hy⟩ := okB_n0 u
    obtain ⟨g1, g2⟩ := e3 y hy
    have yb := (pOk_cdW (τ := τ) (w := 0) (skp t τ q) k5).2 y hy
    rw [r25 frC] at g2
    exact ans y.1 y.2 D yb.2.1 (by omega) g1 g2 frD (ty_ne (ty_cdW hy)) (by rw [eC, eB, pgo_o hy])
  by_cases s3 : nsg t τ q = 33
  · rw [if_pos s3]; exact cond (Or.inl s3)
  rw [if_neg s3]
  by_cases s4 : nsg t τ q = 40
  · rw [if_pos s4]; exact cond (Or.inr s4)
  rw [if_neg s4]
  refine ⟨⟨by trivial, mj_isk_mk _ _⟩, t, τ, skp t τ q, n, ⟨by decide, rfl, TC_c hT (rc_fr frC), hC.1, k5, c24, by omega⟩, fun D hD => ?_⟩
  obtain ⟨e1, e2, e3⟩ := hD
  have frD : fr cFr I D := fr_tr (rc_fr frC) e1
  have eB : bdP t τ q = pgo (smW t τ 0 (skp t τ q)) (fun p1 xs => if cmO (nsg t τ p1) = 0 then .ok (skp t τ p1, ([], xs)) else pgo (cdX t τ 0 1 (skp t τ p1)) (fun p2 ys => anP t τ p2 (xs ++ ys))) := by unfold bdP; rw [if_neg (fun w => w.elim s3 s4)]
  by_cases u : okB (smW t τ 0 (skp t τ q)) = 0
  · rw [if_pos u]
    obtain ⟨x, hx⟩ := okB_e0 u
    exact out_E h (clR_e (by rw [eC, eB, pgo_e hx])) frD (e2 x hx)
  rw [if_neg u]
  obtain ⟨y, hy⟩ := okB_n0 u
  obtain ⟨g1, g2⟩ := e3 y hy
  have yb := (pOk_smW (τ := τ) (w := 0) (skp t τ q) k5).2 y hy
  rw [r25 frC] at g2
  have k7 := skp_le (τ := τ) yb.2.1
  have k8 := skp_ge (t := t) (τ := τ) (p := y.1)
  refine ⟨⟨by trivial, mj_isk_mk _ _⟩, t, τ, y.1, ⟨TC_c hT frD, g1, yb.2.1⟩, fun E hE => ⟨mj_isk_mk _ _, ?_⟩⟩
  have frE : fr cFr I E := fr_tr frD (rc_fr hE.2)
  have cE := Cd_mk g2 hE.2
  rw [pgo_o hy] at eB
  by_cases z : cmO (nsg t τ y.1) = 0
  · rw [if_pos (by rw [if_pos z])]
    rw [if_pos z] at eB
    refine ⟨⟨by trivial, mj_isk_mk _ _⟩, n + y.2.length, ⟨cE.1, by omega⟩, fun Z hZ => ?_⟩
    subst hZ
    rw [s20010]
    refine out_O h (clR_o (by rw [eC, eB])) (fr_ui (fr_ui frE (Or.inr (Or.inr rfl))) (Or.inr (Or.inl ⟨rfl, rfl⟩))) (by rw [ui_c (by decide), ui_c (by decide)]; exact hE.1) ?_
    show Cd _ n (blkC n [] y.2) (I 25)
    unfold blkC
    rw [if_pos rfl]
    exact Cd_up cE rfl rfl
  rw [if_neg z, if_neg cmO_m1]
  rw [if_neg z] at eB
  refine ⟨⟨by trivial, mj_isk_mk _ _⟩, t, τ, skp t τ y.1, n + y.2.length, ⟨by decide, rfl, Or.inr rfl, TC_c hT frE, hE.1, k7, cE.1, by omega⟩, fun F hF => ?_⟩
  obtain ⟨f1, f2, f3⟩ := hF
  have frF : fr cFr I F := fr_tr frE f1
  by_cases v : okB (cdX t τ 0 1 (skp t τ y.1)) = 0
  · rw [if_pos v]
    obtain ⟨x, hx⟩ := okB_e0 v
    exact out_E h (clR_e (by rw [eC, eB, pgo_e hx])) frF (f2 x hx)
  rw [if_neg v]
  obtain ⟨r, hr⟩ := okB_n0 v
  obtain ⟨j1, j2⟩ := f3 r hr
  have rb := (pOk_cdX (τ := τ) (w := 0) (b := 1) (skp t τ y.1) k7).2 r hr
  exact ans r.1 (y.2 ++ r.2) F rb.2.1 (by rw [List.length_append]; omega) j1 (Cd_app cE j2) frF (ty_ne (tyL_app (ty_smW _ _ hy [] (by decide)) (ty_cdX hr))) (by rw [eC, eB, pgo_o hr])
theorem sdX7_readClause : mj_Sd mX7_readClause 34 tX7_readClause := by
  intro Ω l d hd as M Φ h
  unfold tX7_readClause at h
  split at h
  · rename_i z_this
    obtain ⟨⟨rfl, hM⟩, t, τ, p, n, hp, h⟩ := h
    rw [mj_isk_of hM]
    exact mnX7_readClause hd t τ p n _ _ hp (by
      rw [mj_isk_of hM] at h
      exact h)
  · exact h.elim
def csX7_findFault : List (Nat × Nat × Nat × mj_PT) := [(21, 0, 1, mj_rcv 8 tX8_rewind), (30, 0, 1, mj_rcv 7 tX7_readClause), (37, 0, 2, mj_rcv 8 tX8_take), (41, 0, 1, mj_rcv 8 tX8_nextSign)]
theorem csX7_findFault_ok : mj_Cs mX7_findFault 35 csX7_findFault := (mj_CsV (D' := 1) (ci := 8) (q := (RX8, TX8, 3)) sdX8_rewind (Nat.le_of_ble_eq_true rfl) fX8_rewind rfl rfl iX8_rewind vX8_rewind (by decide +kernel) l7_21 (mj_CsV (D' := 34) (ci := 7) (q := (RX7, TX7, 3)) sdX7_readClause (Nat.le_of_ble_eq_true rfl) fX7_readClause rfl rfl iX7_readClause vX7_readClause (by decide +kernel) l7_30 (mj_CsV (D' := 2) (ci := 8) (q := (RX8, TX8, 3)) sdX8_take (Nat.le_of_ble_eq_true rfl) fX8_take rfl rfl iX8_take vX8_take (by decide +kernel) l7_37 (mj_CsV (D' := 1) (ci := 8) (q := (RX8, TX8, 3)) sdX8_nextSign (Nat.le_of_ble_eq_true rfl) fX8_nextSign rfl rfl iX8_nextSign vX8_nextSign (by decide +kernel) l7_41 mj_Cs0))))
def cutX7_findFault : List (Nat × List Bool) := [(14, [true, true])]
set_option maxRecDepth 100000 in
set_option maxHeartbeats 4000000 in
theorem inX7_findFault {Ω : mj_Om} {l : Launch} {d : Nat} {Φ : Option Value → mj_M → Prop} (hd : 35 ≤ d) (I : Nat → Nat → Int32) (J : Nat → Nat → Int64)
    (h : ((mj_G Ω l false mX7_findFault d 0 0 Φ 0 0 14 ([some (.ref 24), some (.int (0 : Int32))], [], (mk (mj_ui (mj_ui I 1 2 (0 : Int32)) 24 2 (0 : Int32)) J))))) :
    mj_Met Ω l false mX7_findFault d 0 0 [.ref 24] (mk I J) Φ := mj_entry (by decide) rfl (fun h => (by cases h)) (Nat.le_of_ble_eq_true rfl) (mj_blk (μ := mX7_findFault) (P := pX7_findFault) (cut := cutX7_findFault) (cs := csX7_findFault) dX7_findFault csX7_findFault_ok hd 38 0 _ h)
set_option maxRecDepth 100000 in
set_option maxHeartbeats 4000000 in
theorem bX7_findFault_14 {Ω : mj_Om} {l : Launch} {d : Nat} {Φ : Option Value → mj_M → Prop} (hd : 35 ≤ d) (x1 : Int32) (I : Nat → Nat → Int32) (J : Nat → Nat → Int64)
    (h : ((if x1 < (240 : Int32) then ((24 = 24 ∧ mj_isk (mk I J)) ∧ (∃ t1600 : Nat, (∃ τ1601 : Nat → Int32, (∃ p1602 : Nat, (∃ n1603 : Nat, ((prC I t1600 τ1601 p1602 n1603) ∧ (∀ I1604 : Nat → Nat → Int32, (wrC (clR t1600 τ1601 n1603 p1602) n1603 I I1604) → (if (okB (clR t1600 τ1601 n1603 p1602)) = (0 : Int32) then (Φ (some (.int (I1604 1 2))) (mk I1604 J)) else ((1 = 1 ∧ mj_isk (mk I1604 J)) ∧ (∃ t1606 : Nat, (∃ τ1607 : Nat → Int32, (∃ p1608 : Nat, ((TC I1604 t1606 τ1607 ∧ I1604 1 2 = nI p1608 ∧ p1608 ≤ t1606) ∧ (∀ I1609 : Nat → Nat → Int32, (I1609 1 2 = nI (tkp t1606 τ1607 p1608 (59 : Int32)) ∧ fr rFr I1604 I1609) → (if (b2i (nsg t1606 τ1607 p1608 = (59 : Int32))) = (0 : Int32) then ((1 = 1 ∧ mj_isk (mk I1609 J)) ∧ (∃ t1611 : Nat, (∃ τ1612 : Nat → Int32, (∃ p1613 : Nat, ((TC I1609 t1611 τ1612 ∧ I1609 1 2 = nI p1613 ∧ p1613 ≤ t1611) ∧ (∀ I1614 : Nat → Nat → Int32, (I1614 1 2 = nI (skp t1611 τ1612 p1613) ∧ fr rFr I1609 I1614) → (if (nsg t1611 τ1612 p1613) = (-1 : Int32) then (Φ (some (.int (-1 : Int32))) (mk I1614 J)) else (Φ (some (.int (I1614 1 2))) (mk I1614 J))))))))) else (mj_G Ω l false mX7_findFault d 0 0 Φ 0 0 14 ([some (.ref 24), some (.int (x1 + (1 : Int32)))], [], (mk I1609 J)))))))))))))))))) else ((1 = 1 ∧ mj_isk (mk I J)) ∧ (∃ t1616 : Nat, (∃ τ1617 : Nat → Int32, (∃ p1618 : Nat, ((TC I t1616 τ1617 ∧ I 1 2 = nI p1618 ∧ p1618 ≤ t1616) ∧ (∀ I1619 : Nat → Nat → Int32, (I1619 1 2 = nI (skp t1616 τ1617 p1618) ∧ fr rFr I I1619) → (if (nsg t1616 τ1617 p1618) = (-1 : Int32) then (Φ (some (.int (-1 : Int32))) (mk I1619 J)) else (Φ (some (.int (I1619 1 2))) (mk I1619 J)))))))))))) :
    mj_G Ω l false mX7_findFault d 0 0 Φ 0 0 14 ([some (.ref 24), some (.int x1)], [], mk I J) := mj_blk (μ := mX7_findFault) (P := pX7_findFault) (cut := cutX7_findFault) (cs := csX7_findFault) dX7_findFault csX7_findFault_ok hd 38 14 _ h
def tX7_findFault : mj_PT := fun as M Φ => match as with
  | [.ref this] => ((this = 24 ∧ mj_isk M) ∧ (∃ t : Nat, (∃ τ : Nat → Int32, ((TC M.2.2.1 t τ) ∧ (∀ I1 : Nat → Nat → Int32, (fr cFr M.2.2.1 I1 ∧ ∀ ks, ruP t τ = .ok ks → Cd I1 0 (flatK 0 ks) (M.2.2.1 25)) → Φ (some (.int (faR (ruP t τ)))) (M.1, M.2.1, I1, M.2.2.2))))))
  | _ => False
set_option maxHeartbeats 8000000 in
theorem mnX7_findFault {Ω : mj_Om} {l : Launch} {d : Nat} {Φ : Option Value → mj_M → Prop} (hd : 35 ≤ d) (t : Nat) (τ : Nat → Int32) (I : Nat → Nat → Int32) (J : Nat → Nat → Int64) (hp : TC I t τ) (h : ∀ I1 : Nat → Nat → Int32, (fr cFr I I1 ∧ ∀ ks, ruP t τ = .ok ks → Cd I1 0 (flatK 0 ks) (I 25)) → Φ (some (.int (faR (ruP t τ)))) (mk I1 J)) : mj_Met Ω l false mX7_findFault d 0 0 [.ref 24] (mk I J) Φ := by
  refine inX7_findFault hd I J ?_
  have ht := hp.1.1
  have hE : ∀ (e : Nat) (A : Nat → Nat → Int32) (x : Int32), ruP t τ = .error e → fr cFr I A → x = nI e → Φ (some (.int x)) (mk A J) := fun e A x he hf hx => by
    have := h A ⟨hf, fun ks hk => by rw [he] at hk; cases hk⟩
    rw [he] at this
    rw [hx]
    exact this
  have hO : ∀ (ks : List (List Int32 × List Int32)) (A : Nat → Nat → Int32), ruP t τ = .ok ks → fr cFr I A → Cd A 0 (flatK 0 ks) (I 25) → Φ (some (.int (-1))) (mk A J) := fun ks A he hf hc => by
    have := h A ⟨hf, fun ks' hk => by rw [he] at hk; cases hk; exact hc⟩
    rw [he] at this
    exact this
  have key : ∀ (f i q : Nat) (ks : List (List Int32 × List Int32)) (B : Nat → Nat → Int32), t + 1 ≤ q + f → 3 * i ≤ q → q ≤ t → (flatK 0 ks).length ≤ q → B 1 2 = nI q → Cd B 0 (flatK 0 ks) (I 25) → fr cFr I B → ruP t τ = rlP t τ f q ks → mj_G Ω l false mX7_findFault d 0 0 Φ 0 0 14 ([some (.ref 24), some (.int (nI i))], [], mk B J) := by
    intro f
    induction f with
    | zero => intro i q ks B hf hi hq hl b1 bC bF he; omega
    | succ f ih =>
      intro i q ks B hf hi hq hl b1 bC bF he
      rw [rlP] at he
      refine bX7_findFault_14 hd (nI i) B J ?_
      rw [if_pos (show nI i < 240 by rw [show (240 : Int32) = nI 240 from rfl, jn_lt (by omega) (by omega)]; omega)]
      have b24 : B 24 2 = nI (flatK 0 ks).length := by rw [bC.1, Nat.zero_add]
      refine ⟨⟨by trivial, mj_isk_mk _ _⟩, t, τ, q, (flatK 0 ks).length, ⟨TC_c hp bF, b1, hq, b24, hl⟩, fun C hC => ?_⟩
      obtain ⟨c1, c2, c3⟩ := hC
      have frC : fr cFr I C := fr_tr bF c1
      obtain ⟨o1, o2⟩ := cl_ok (τ := τ) hq
      cases hcl : clP t τ q with
      | error e =>
        rw [if_pos (show okB (clR t τ (flatK 0 ks).length q) = 0 by rw [clR_e hcl]; rfl)]
        rw [hcl] at he
        exact hE e C _ he frC (c2 e (clR_e hcl))
      | ok r =>
        rw [if_neg (show ¬ okB (clR t τ (flatK 0 ks).length q) = 0 by rw [clR_o hcl]; show ¬ (1 : Int32) = 0; decide)]
        rw [hcl] at he
        dsimp only at he
        obtain ⟨d1, d2⟩ := c3 _ (clR_o hcl)
        obtain ⟨p1, p2, p3, p4⟩ := o2 r hcl
        have p5 := p4 (flatK 0 ks).length
        have k1 := skp_le (τ := τ) p2
        have k2 := skp_ge (t := t) (τ := τ) (p := r.1)
        have cC : Cd C 0 (flatK 0 (ks ++ [r.2])) (I 25) := by
          rw [flatK_app, Nat.zero_add]
          exact Cd_app bC (by rw [Nat.zero_add]; exact d2)
        have len : (flatK 0 (ks ++ [r.2])).length ≤ r.1 := by rw [flatK_app, List.length_append, Nat.zero_add]; omega
        refine ⟨⟨by trivial, mj_isk_mk _ _⟩, t, τ, r.1, ⟨TC_c hp frC, d1, p2⟩, fun D hD => ?_⟩
        have frD : fr cFr I D := fr_tr frC (rc_fr hD.2)
        have cD := Cd_mk cC hD.2
        by_cases s1 : nsg t τ r.1 = 59
        · rw [if_neg (by rw [b2i_e0]; exact fun u => u s1), jn_succ]
          rw [tkp_y s1] at hD
          rw [if_pos s1] at he
          exact ih (i + 1) (skp t τ r.1 + 1) _ D (by omega) (by omega) (nsg_p s1 (by decide)) (by omega) hD.1 cD frD he
        · rw [if_pos (by rw [b2i_e0]; exact s1)]
          rw [tkp_n s1] at hD
          rw [if_neg s1] at he
          refine ⟨⟨by trivial, mj_isk_mk _ _⟩, t, τ, skp t τ r.1, ⟨TC_c hp frD, hD.1, k1⟩, fun E hE2 => ?_⟩
          have frE : fr cFr I E := fr_tr frD (rc_fr hE2.2)
          rw [nsg_skp]
          by_cases s2 : nsg t τ r.1 = -1
          · rw [if_pos s2]
            rw [if_pos s2] at he
            exact hO _ E he frE (Cd_mk cD hE2.2)
          · rw [if_neg s2]
            rw [if_neg s2] at he
            exact hE _ E _ he frE (by rw [hE2.1, skp_skp])
  refine key (t + 1) 0 0 [] _ (by omega) (by omega) (by omega) (by exact Nat.le_refl 0) (by rw [ui_c (by decide), ui_s]; rfl) ⟨ui_s, fun j hj => absurd hj (Nat.not_lt_zero j), fun j hj => absurd hj (Nat.not_lt_zero j)⟩ (fr_ui (fr_ui fr_rf (Or.inl ⟨rfl, rfl⟩)) (Or.inr (Or.inl ⟨rfl, rfl⟩))) rfl
theorem sdX7_findFault : mj_Sd mX7_findFault 35 tX7_findFault := by
  intro Ω l d hd as M Φ h
  unfold tX7_findFault at h
  split at h
  · rename_i z_this
    obtain ⟨⟨rfl, hM⟩, t, τ, hp, h⟩ := h
    rw [mj_isk_of hM]
    exact mnX7_findFault hd t τ _ _ hp (by
      rw [mj_isk_of hM] at h
      exact h)
  · exact h.elim
