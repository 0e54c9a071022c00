/-! ===== the reference's clauses and rules (by program, wip/whole/p82.py) ===== -/
def tX12_sumZ : mj_PT := tX12_sum 0
def tX12_compareZ : mj_PT := tX12_compare 0
def tX12_goOnAndZ : mj_PT := tX12_goOnAnd 0
def tX12_goOnOrZ : mj_PT := tX12_goOnOr 0
def tX12_conditionZ : mj_PT := tX12_condition 0
theorem sdX12_sumZ : mj_Sd mX12_sum 28 tX12_sumZ := sdX12_sumA _ 0 rfl
theorem sdX12_compareZ : mj_Sd mX12_compare 29 tX12_compareZ := sdX12_compareA 0 (by decide)
theorem sdX12_goOnAndZ : mj_Sd mX12_goOnAnd 39 tX12_goOnAndZ := (sdX12_unitA _ 0 rfl).2.1
theorem sdX12_goOnOrZ : mj_Sd mX12_goOnOr 40 tX12_goOnOrZ := (sdX12_unitA _ 0 rfl).2.2.1
theorem sdX12_conditionZ : mj_Sd mX12_condition 41 tX12_conditionZ := (sdX12_unitA _ 0 rfl).2.2.2
def qF (x k c j : Nat) : Prop := ((c = 91 ∧ (j = 3 ∨ j = 4 ∨ j = 5)) ∨ ((c = 93 ∨ c = 94) ∧ 520 * x ≤ j ∧ j < 520 * x + 520) ∨ (c = 95 ∧ j = x)) ∨ ((c = 97 ∨ c = 98 ∨ c = 99) ∧ j = 140 * x + k)
def lF (x k c j : Nat) : Prop := qF x k c j ∨ (c = 96 ∧ j = x)
theorem m_qF {x k : Nat} {I I1 : Nat → Nat → Int32} (h : fr (mF x) I I1) : fr (qF x k) I I1 := fr_mo h (fun c j q => Or.inl q)
theorem d_qF {x k : Nat} {I I1 : Nat → Nat → Int32} (h : fr dFr I I1) : fr (qF x k) I I1 := m_qF (d_mF h)
theorem q_lF {x k : Nat} {I I1 : Nat → Nat → Int32} (h : fr (qF x k) I I1) : fr (lF x k) I I1 := fr_mo h (fun c j q => Or.inl q)
theorem TM_q {x k : Nat} {I I1 : Nat → Nat → Int32} {t : Nat} {τ : Nat → Int32} (h : TM I t τ) (e : fr (qF x k) I I1) : TM I1 t τ := TM_fr h (e 91 2 (by unfold qF; omega)) (fun k => e 92 k (by unfold qF; omega))
theorem TM_l {x k : Nat} {I I1 : Nat → Nat → Int32} {t : Nat} {τ : Nat → Int32} (h : TM I t τ) (e : fr (lF x k) I I1) : TM I1 t τ := TM_fr h (e 91 2 (by unfold lF qF; omega)) (fun k => e 92 k (by unfold lF qF; omega))
theorem q_14 {x k : Nat} {I I1 : Nat → Nat → Int32} (e : fr (qF x k) I I1) : I1 91 14 = I 91 14 := e 91 14 (by unfold qF; omega)
theorem q_96 {x k : Nat} {I I1 : Nat → Nat → Int32} (e : fr (qF x k) I I1) : I1 96 x = I 96 x := e 96 x (by unfold qF; omega)
theorem CdM_q {I I1 B : Nat → Nat → Int32} {x n : Nat} {xs : List Int32} (h : CdM I x n xs B) (e3 : ∀ k, I1 93 k = I 93 k) (e4 : ∀ k, I1 94 k = I 94 k) (e5 : I1 95 x = I 95 x) : CdM I1 x n xs B := ⟨by rw [e5]; exact h.1, fun j hj => by rw [e3, e4]; exact h.2.1 j hj, fun j hj => by rw [e3, e4]; exact h.2.2 j hj⟩
theorem CdM_v {I B B' : Nat → Nat → Int32} {x n : Nat} {xs : List Int32} (h : CdM I x n xs B) (e3 : ∀ k, B 93 k = B' 93 k) (e4 : ∀ k, B 94 k = B' 94 k) : CdM I x n xs B' := ⟨h.1, h.2.1, fun j hj => by rw [← e3, ← e4]; exact h.2.2 j hj⟩
theorem unX_1 {t : Nat} {τ : Nat → Int32} {w : Nat} : unX t τ w 1 = cmW t τ w := if_neg (by decide)
def clM (r : CR) (x n k : Nat) (I I1 : Nat → Nat → Int32) : Prop := fr (lF x k) I I1 ∧ (∀ e, r = .error e → e ≤ 300 ∧ I1 91 4 = nI e) ∧ ∀ q, r = .ok q → I1 91 3 = nI q.1 ∧ I1 91 4 = -1 ∧ I1 91 5 = nI 0 ∧ CdM I1 x n (q.2.1 ++ q.2.2) I ∧ I1 96 x = nI (k + 1) ∧ I1 97 (140 * x + k) = nI n ∧ I1 98 (140 * x + k) = nI (n + q.2.1.length) ∧ I1 99 (140 * x + k) = nI (n + q.2.1.length + q.2.2.length)
def csX12_clause : List (Nat × Nat × Nat × mj_PT) := [(125, 0, 1, mj_rcv 12 tX12_badS), (128, 0, 1, mj_rcv 12 tX12_look), (149, 0, 1, mj_rcv 12 tX12_sumZ), (162, 1, 1, tX12_isSignS), (168, 0, 1, mj_rcv 12 tX12_conditionZ), (171, 0, 1, mj_rcv 12 tX12_compareZ), (174, 0, 1, mj_rcv 12 tX12_goOnAndZ), (177, 0, 1, mj_rcv 12 tX12_goOnOrZ)]
theorem csX12_clause_ok : mj_Cs mX12_clause 42 csX12_clause := (mj_CsV (D' := 1) (ci := 12) (q := (RX12, TX12, 45)) sdX12_badS (Nat.le_of_ble_eq_true rfl) fX12_bad rfl rfl iX12_bad vX12_bad (by decide +kernel) l12_125 (mj_CsV (D' := 2) (ci := 12) (q := (RX12, TX12, 45)) sdX12_look (Nat.le_of_ble_eq_true rfl) fX12_look rfl rfl iX12_look vX12_look (by decide +kernel) l12_128 (mj_CsV (D' := 28) (ci := 12) (q := (RX12, TX12, 45)) sdX12_sumZ (Nat.le_of_ble_eq_true rfl) fX12_sum rfl rfl iX12_sum vX12_sum (by decide +kernel) l12_149 (mj_CsS (D' := 1) sdX12_isSignS (Nat.le_of_ble_eq_true rfl) fX12_isSign sX12_isSign (by decide +kernel) l12_162 (mj_CsV (D' := 41) (ci := 12) (q := (RX12, TX12, 45)) sdX12_conditionZ (Nat.le_of_ble_eq_true rfl) fX12_condition rfl rfl iX12_condition vX12_condition (by decide +kernel) l12_168 (mj_CsV (D' := 29) (ci := 12) (q := (RX12, TX12, 45)) sdX12_compareZ (Nat.le_of_ble_eq_true rfl) fX12_compare rfl rfl iX12_compare vX12_compare (by decide +kernel) l12_171 (mj_CsV (D' := 39) (ci := 12) (q := (RX12, TX12, 45)) sdX12_goOnAndZ (Nat.le_of_ble_eq_true rfl) fX12_goOnAnd rfl rfl iX12_goOnAnd vX12_goOnAnd (by decide +kernel) l12_174 (mj_CsV (D' := 40) (ci := 12) (q := (RX12, TX12, 45)) sdX12_goOnOrZ (Nat.le_of_ble_eq_true rfl) fX12_goOnOr rfl rfl iX12_goOnOr vX12_goOnOr (by decide +kernel) l12_177 mj_Cs0))))))))
def cutX12_clause : List (Nat × List Bool) := [(40, [true, true, false]), (71, [true, true, false]), (90, [true, true, false]), (129, [true, true, true]), (168, [true, true, true]), (184, [true, true, true]), (251, [true, true, true])]
def pX12_clause_0 : List (Nat × Instr × Nat) := [(0, .sipush 140, 3), (3, .aload_n 0, 1), (4, .getfield 119, 3), (7, .imul, 1), (8, .aload_n 0, 1), (9, .getfield 22, 3), (12, .aload_n 0, 1), (13, .getfield 119, 3), (16, .iaload, 1), (17, .iadd, 1), (18, .istore_n 1, 1), (19, .aload_n 0, 1), (20, .getfield 116, 3), (23, .iconst (-1), 1), (24, .if_icmp .ne 16, 3), (27, .aload_n 0, 1), (28, .invokevirtual 128, 3), (31, .bipush 121, 2), (33, .if_icmp .eq 7, 3), (36, .aload_n 0, 1), (37, .invokevirtual 125, 3), (40, .aload_n 0, 1)]
set_option maxRecDepth 100000 in
theorem dX12_clause_0 : mj_pd cX12_clause pX12_clause_0 := mj_pdB (by decide +kernel)
set_option maxRecDepth 100000 in
set_option maxHeartbeats 4000000 in
theorem inX12_clause {Ω : mj_Om} {l : Launch} {d : Nat} {Φ : Option Value → mj_M → Prop} (hd : 42 ≤ d) (I : Nat → Nat → Int32) (J : Nat → Nat → Int64)
    (h : ((mj_gd (mj_inB (I 91 14) 5) (if (I 91 4) = (-1 : Int32) then ((91 = 91 ∧ mj_isk (mk I J)) ∧ (∃ t2437 : Nat, (∃ τ2438 : Nat → Int32, (∃ p2439 : Nat, ((TM I t2437 τ2438 ∧ I 91 3 = nI p2439 ∧ p2439 ≤ 300) ∧ (∀ I2440 : Nat → Nat → Int32, (I2440 91 3 = nI (skp t2437 τ2438 p2439) ∧ fr mFr I I2440) → (if (nsg t2437 τ2438 p2439) = (121 : Int32) then (mj_G Ω l false mX12_clause d 0 0 Φ 0 0 40 ([some (.ref 91), some (.int (((140 : Int32) * (I 91 14)) + (I 96 ((I 91 14)).toNatClampNeg))), none], [], (mk I2440 J))) else ((91 = 91 ∧ mj_isk (mk I2440 J)) ∧ (∀ I2442 : Nat → Nat → Int32, (I2442 = mj_ui I2440 91 4 (bdV I2440)) → (mj_G Ω l false mX12_clause d 0 0 Φ 0 0 40 ([some (.ref 91), some (.int (((140 : Int32) * (I 91 14)) + (I 96 ((I 91 14)).toNatClampNeg))), none], [], (mk I2442 J)))))))))))) else (mj_G Ω l false mX12_clause d 0 0 Φ 0 0 40 ([some (.ref 91), some (.int (((140 : Int32) * (I 91 14)) + (I 96 ((I 91 14)).toNatClampNeg))), none], [], (mk I J))))))) :
    mj_Met Ω l false mX12_clause d 0 0 [.ref 91] (mk I J) Φ := mj_entry (by decide) rfl (fun h => (by cases h)) (Nat.le_of_ble_eq_true rfl) (mj_blk (μ := mX12_clause) (P := pX12_clause_0) (cut := cutX12_clause) (cs := csX12_clause) dX12_clause_0 csX12_clause_ok hd 23 0 _ h)
def pX12_clause_40 : List (Nat × Instr × Nat) := [(40, .aload_n 0, 1), (41, .dup, 1), (42, .getfield 109, 3), (45, .iconst 1, 1), (46, .iadd, 1), (47, .putfield 109, 3), (50, .aload_n 0, 1), (51, .getfield 116, 3), (54, .iconst (-1), 1), (55, .if_icmp .ne 16, 3), (58, .aload_n 0, 1), (59, .invokevirtual 128, 3), (62, .bipush 58, 2), (64, .if_icmp .eq 7, 3), (67, .aload_n 0, 1), (68, .invokevirtual 125, 3), (71, .aload_n 0, 1)]
set_option maxRecDepth 100000 in
theorem dX12_clause_40 : mj_pd cX12_clause pX12_clause_40 := mj_pdB (by decide +kernel)
set_option maxRecDepth 100000 in
set_option maxHeartbeats 4000000 in
theorem bX12_clause_40 {Ω : mj_Om} {l : Launch} {d : Nat} {Φ : Option Value → mj_M → Prop} (hd : 42 ≤ d) (x1 : Int32) (I : Nat → Nat → Int32) (J : Nat → Nat → Int64)
    (h : ((if (I 91 4) = (-1 : Int32) then ((91 = 91 ∧ mj_isk (mk (mj_ui I 91 3 ((I 91 3) + (1 : Int32))) J)) ∧ (∃ t2444 : Nat, (∃ τ2445 : Nat → Int32, (∃ p2446 : Nat, ((TM (mj_ui I 91 3 ((I 91 3) + (1 : Int32))) t2444 τ2445 ∧ (mj_ui I 91 3 ((I 91 3) + (1 : Int32))) 91 3 = nI p2446 ∧ p2446 ≤ 300) ∧ (∀ I2447 : Nat → Nat → Int32, (I2447 91 3 = nI (skp t2444 τ2445 p2446) ∧ fr mFr (mj_ui I 91 3 ((I 91 3) + (1 : Int32))) I2447) → (if (nsg t2444 τ2445 p2446) = (58 : Int32) then (mj_G Ω l false mX12_clause d 0 0 Φ 0 0 71 ([some (.ref 91), some (.int x1), none], [], (mk I2447 J))) else ((91 = 91 ∧ mj_isk (mk I2447 J)) ∧ (∀ I2449 : Nat → Nat → Int32, (I2449 = mj_ui I2447 91 4 (bdV I2447)) → (mj_G Ω l false mX12_clause d 0 0 Φ 0 0 71 ([some (.ref 91), some (.int x1), none], [], (mk I2449 J)))))))))))) else (mj_G Ω l false mX12_clause d 0 0 Φ 0 0 71 ([some (.ref 91), some (.int x1), none], [], (mk (mj_ui I 91 3 ((I 91 3) + (1 : Int32))) J)))))) :
    mj_G Ω l false mX12_clause d 0 0 Φ 0 0 40 ([some (.ref 91), some (.int x1), none], [], mk I J) := mj_blk (μ := mX12_clause) (P := pX12_clause_40) (cut := cutX12_clause) (cs := csX12_clause) dX12_clause_40 csX12_clause_ok hd 18 40 _ h
def pX12_clause_71 : List (Nat × Instr × Nat) := [(71, .aload_n 0, 1), (72, .dup, 1), (73, .getfield 109, 3), (76, .iconst 1, 1), (77, .iadd, 1), (78, .putfield 109, 3), (81, .aload_n 0, 1), (82, .getfield 116, 3), (85, .iconst (-1), 1), (86, .if_icmp .eq 4, 3), (89, .return_, 1), (90, .aload_n 0, 1)]
set_option maxRecDepth 100000 in
theorem dX12_clause_71 : mj_pd cX12_clause pX12_clause_71 := mj_pdB (by decide +kernel)
set_option maxRecDepth 100000 in
set_option maxHeartbeats 4000000 in
theorem bX12_clause_71 {Ω : mj_Om} {l : Launch} {d : Nat} {Φ : Option Value → mj_M → Prop} (hd : 42 ≤ d) (x1 : Int32) (I : Nat → Nat → Int32) (J : Nat → Nat → Int64)
    (h : ((if (I 91 4) = (-1 : Int32) then (mj_G Ω l false mX12_clause d 0 0 Φ 0 0 90 ([some (.ref 91), some (.int x1), none], [], (mk (mj_ui I 91 3 ((I 91 3) + (1 : Int32))) J))) else (Φ none (mk (mj_ui I 91 3 ((I 91 3) + (1 : Int32))) J))))) :
    mj_G Ω l false mX12_clause d 0 0 Φ 0 0 71 ([some (.ref 91), some (.int x1), none], [], mk I J) := mj_blk (μ := mX12_clause) (P := pX12_clause_71) (cut := cutX12_clause) (cs := csX12_clause) dX12_clause_71 csX12_clause_ok hd 13 71 _ h
def pX12_clause_90 : List (Nat × Instr × Nat) := [(90, .aload_n 0, 1), (91, .getfield 25, 3), (94, .iload_n 1, 1), (95, .aload_n 0, 1), (96, .getfield 19, 3), (99, .aload_n 0, 1), (100, .getfield 119, 3), (103, .iaload, 1), (104, .iastore, 1), (105, .aload_n 0, 1), (106, .invokevirtual 128, 3), (109, .bipush 33, 2), (111, .if_icmp .eq 12, 3), (114, .aload_n 0, 1), (115, .invokevirtual 128, 3), (118, .bipush 40, 2), (120, .if_icmp .ne 7, 3), (123, .iconst 1, 1), (124, .goto 4, 3), (127, .iconst 0, 1), (128, .istore_n 2, 1), (129, .iload_n 2, 1)]
set_option maxRecDepth 100000 in
theorem dX12_clause_90 : mj_pd cX12_clause pX12_clause_90 := mj_pdB (by decide +kernel)
set_option maxRecDepth 100000 in
set_option maxHeartbeats 4000000 in
theorem bX12_clause_90 {Ω : mj_Om} {l : Launch} {d : Nat} {Φ : Option Value → mj_M → Prop} (hd : 42 ≤ d) (x1 : Int32) (I : Nat → Nat → Int32) (J : Nat → Nat → Int64)
    (h : ((mj_gd (mj_inB (I 91 14) 5) (mj_gd (mj_inB x1 700) ((91 = 91 ∧ mj_isk (mk (mj_ui I 97 (x1).toNatClampNeg (I 95 ((I 91 14)).toNatClampNeg)) J)) ∧ (∃ t2451 : Nat, (∃ τ2452 : Nat → Int32, (∃ p2453 : Nat, ((TM (mj_ui I 97 (x1).toNatClampNeg (I 95 ((I 91 14)).toNatClampNeg)) t2451 τ2452 ∧ (mj_ui I 97 (x1).toNatClampNeg (I 95 ((I 91 14)).toNatClampNeg)) 91 3 = nI p2453 ∧ p2453 ≤ 300) ∧ (∀ I2454 : Nat → Nat → Int32, (I2454 91 3 = nI (skp t2451 τ2452 p2453) ∧ fr mFr (mj_ui I 97 (x1).toNatClampNeg (I 95 ((I 91 14)).toNatClampNeg)) I2454) → (if (nsg t2451 τ2452 p2453) = (33 : Int32) then (mj_G Ω l false mX12_clause d 0 0 Φ 0 0 129 ([some (.ref 91), some (.int x1), some (.int (1 : Int32))], [], (mk I2454 J))) else ((91 = 91 ∧ mj_isk (mk I2454 J)) ∧ (∃ t2456 : Nat, (∃ τ2457 : Nat → Int32, (∃ p2458 : Nat, ((TM I2454 t2456 τ2457 ∧ I2454 91 3 = nI p2458 ∧ p2458 ≤ 300) ∧ (∀ I2459 : Nat → Nat → Int32, (I2459 91 3 = nI (skp t2456 τ2457 p2458) ∧ fr mFr I2454 I2459) → (if (nsg t2456 τ2457 p2458) = (40 : Int32) then (mj_G Ω l false mX12_clause d 0 0 Φ 0 0 129 ([some (.ref 91), some (.int x1), some (.int (1 : Int32))], [], (mk I2459 J))) else (mj_G Ω l false mX12_clause d 0 0 Φ 0 0 129 ([some (.ref 91), some (.int x1), some (.int (0 : Int32))], [], (mk I2459 J))))))))))))))))))))) :
    mj_G Ω l false mX12_clause d 0 0 Φ 0 0 90 ([some (.ref 91), some (.int x1), none], [], mk I J) := mj_blk (μ := mX12_clause) (P := pX12_clause_90) (cut := cutX12_clause) (cs := csX12_clause) dX12_clause_90 csX12_clause_ok hd 23 90 _ h
def pX12_clause_129 : List (Nat × Instr × Nat) := [(129, .iload_n 2, 1), (130, .ifCond .eq 10, 3), (133, .aload_n 0, 1), (134, .invokevirtual 168, 3), (137, .goto 47, 3), (140, .aload_n 0, 1), (141, .invokevirtual 149, 3), (144, .aload_n 0, 1), (145, .getfield 116, 3), (148, .iconst (-1), 1), (149, .if_icmp .ne 17, 3), (152, .aload_n 0, 1), (153, .invokevirtual 128, 3), (156, .invokestatic 162, 3), (159, .ifCond .eq 7, 3), (162, .iconst 1, 1), (163, .goto 4, 3), (166, .iconst 0, 1), (167, .istore_n 2, 1), (168, .iload_n 2, 1), (184, .aload_n 0, 1)]
set_option maxRecDepth 100000 in
theorem dX12_clause_129 : mj_pd cX12_clause pX12_clause_129 := mj_pdB (by decide +kernel)
set_option maxRecDepth 100000 in
set_option maxHeartbeats 4000000 in
theorem bX12_clause_129 {Ω : mj_Om} {l : Launch} {d : Nat} {Φ : Option Value → mj_M → Prop} (hd : 42 ≤ d) (x1 : Int32) (x2 : Int32) (I : Nat → Nat → Int32) (J : Nat → Nat → Int64)
    (h : ((if x2 = (0 : Int32) then ((91 = 91 ∧ mj_isk (mk I J)) ∧ (∃ t2461 : Nat, (∃ τ2462 : Nat → Int32, (∃ p2463 : Nat, (∃ n2464 : Nat, (∃ x2465 : Nat, (∃ z2466 : Nat, ((0 ≤ 6 ∧ prM I t2461 τ2462 p2463 n2464 0 x2465 z2466) ∧ (∀ I2467 : Nat → Nat → Int32, (wrM (smW t2461 τ2462 0 p2463) t2461 0 n2464 x2465 z2466 I I2467) → (if (I2467 91 4) = (-1 : Int32) then ((91 = 91 ∧ mj_isk (mk I2467 J)) ∧ (∃ t2468 : Nat, (∃ τ2469 : Nat → Int32, (∃ p2470 : Nat, ((TM I2467 t2468 τ2469 ∧ I2467 91 3 = nI p2470 ∧ p2470 ≤ 300) ∧ (∀ I2471 : Nat → Nat → Int32, (I2471 91 3 = nI (skp t2468 τ2469 p2470) ∧ fr mFr I2467 I2471) → ((mj_isk (mk I2471 J)) ∧ (if (b2i (¬ cmO (nsg t2468 τ2469 p2470) = 0)) = (0 : Int32) then (mj_G Ω l false mX12_clause d 0 0 Φ 0 0 168 ([some (.ref 91), some (.int x1), some (.int (0 : Int32))], [], (mk I2471 J))) else (mj_G Ω l false mX12_clause d 0 0 Φ 0 0 168 ([some (.ref 91), some (.int x1), some (.int (1 : Int32))], [], (mk I2471 J))))))))))) else (mj_G Ω l false mX12_clause d 0 0 Φ 0 0 168 ([some (.ref 91), some (.int x1), some (.int (0 : Int32))], [], (mk I2467 J))))))))))))) else ((91 = 91 ∧ mj_isk (mk I J)) ∧ (∃ t2475 : Nat, (∃ τ2476 : Nat → Int32, (∃ p2477 : Nat, (∃ n2478 : Nat, (∃ x2479 : Nat, (∃ z2480 : Nat, ((0 ≤ 6 ∧ prM I t2475 τ2476 p2477 n2478 0 x2479 z2480) ∧ (∀ I2481 : Nat → Nat → Int32, (wrM (cdW t2475 τ2476 0 p2477) t2475 0 n2478 x2479 z2480 I I2481) → (mj_G Ω l false mX12_clause d 0 0 Φ 0 0 184 ([some (.ref 91), some (.int x1), some (.int x2)], [], (mk I2481 J))))))))))))))) :
    mj_G Ω l false mX12_clause d 0 0 Φ 0 0 129 ([some (.ref 91), some (.int x1), some (.int x2)], [], mk I J) := mj_blk (μ := mX12_clause) (P := pX12_clause_129) (cut := cutX12_clause) (cs := csX12_clause) dX12_clause_129 csX12_clause_ok hd 22 129 _ h
def pX12_clause_168 : List (Nat × Instr × Nat) := [(168, .iload_n 2, 1), (169, .ifCond .eq 15, 3), (172, .aload_n 0, 1), (173, .invokevirtual 171, 3), (176, .aload_n 0, 1), (177, .invokevirtual 174, 3), (180, .aload_n 0, 1), (181, .invokevirtual 177, 3), (184, .aload_n 0, 1)]
set_option maxRecDepth 100000 in
theorem dX12_clause_168 : mj_pd cX12_clause pX12_clause_168 := mj_pdB (by decide +kernel)
set_option maxRecDepth 100000 in
set_option maxHeartbeats 4000000 in
theorem bX12_clause_168 {Ω : mj_Om} {l : Launch} {d : Nat} {Φ : Option Value → mj_M → Prop} (hd : 42 ≤ d) (x1 : Int32) (x2 : Int32) (I : Nat → Nat → Int32) (J : Nat → Nat → Int64)
    (h : ((if x2 = (0 : Int32) then (mj_G Ω l false mX12_clause d 0 0 Φ 0 0 184 ([some (.ref 91), some (.int x1), some (.int x2)], [], (mk I J))) else ((91 = 91 ∧ mj_isk (mk I J)) ∧ (∃ t2482 : Nat, (∃ τ2483 : Nat → Int32, (∃ p2484 : Nat, (∃ n2485 : Nat, (∃ x2486 : Nat, (∃ z2487 : Nat, ((0 ≤ 6 ∧ prM I t2482 τ2483 p2484 n2485 0 x2486 z2487) ∧ (∀ I2488 : Nat → Nat → Int32, (wrM (cmW t2482 τ2483 0 p2484) t2482 0 n2485 x2486 z2487 I I2488) → ((91 = 91 ∧ mj_isk (mk I2488 J)) ∧ (∃ t2489 : Nat, (∃ τ2490 : Nat → Int32, (∃ p2491 : Nat, (∃ n2492 : Nat, (∃ x2493 : Nat, (∃ z2494 : Nat, ((0 ≤ 6 ∧ (I2488 91 4 = -1 → prM I2488 t2489 τ2490 p2491 n2492 0 x2493 z2494)) ∧ (∀ I2495 : Nat → Nat → Int32, ((¬ I2488 91 4 = -1 → I2495 = I2488) ∧ (I2488 91 4 = -1 → wrM (lpP t2489 τ2490 opA (unW t2489 τ2490 0) (t2489 + 1 - p2491) p2491 []) t2489 0 n2492 x2493 z2494 I2488 I2495)) → ((91 = 91 ∧ mj_isk (mk I2495 J)) ∧ (∃ t2496 : Nat, (∃ τ2497 : Nat → Int32, (∃ p2498 : Nat, (∃ n2499 : Nat, (∃ x2500 : Nat, (∃ z2501 : Nat, ((0 ≤ 6 ∧ (I2495 91 4 = -1 → prM I2495 t2496 τ2497 p2498 n2499 0 x2500 z2501)) ∧ (∀ I2502 : Nat → Nat → Int32, ((¬ I2495 91 4 = -1 → I2502 = I2495) ∧ (I2495 91 4 = -1 → wrM (lpP t2496 τ2497 opO (trW t2496 τ2497 0) (t2496 + 1 - p2498) p2498 []) t2496 0 n2499 x2500 z2501 I2495 I2502)) → (mj_G Ω l false mX12_clause d 0 0 Φ 0 0 184 ([some (.ref 91), some (.int x1), some (.int x2)], [], (mk I2502 J))))))))))))))))))))))))))))))))) :
    mj_G Ω l false mX12_clause d 0 0 Φ 0 0 168 ([some (.ref 91), some (.int x1), some (.int x2)], [], mk I J) := mj_blk (μ := mX12_clause) (P := pX12_clause_168) (cut := cutX12_clause) (cs := csX12_clause) dX12_clause_168 csX12_clause_ok hd 10 168 _ h
def pX12_clause_184 : List (Nat × Instr × Nat) := [(184, .aload_n 0, 1), (185, .getfield 28, 3), (188, .iload_n 1, 1), (189, .aload_n 0, 1), (190, .getfield 25, 3), (193, .iload_n 1, 1), (194, .iaload, 1), (195, .iastore, 1), (196, .iload_n 2, 1), (197, .ifCond .eq 54, 3), (200, .aload_n 0, 1), (201, .getfield 116, 3), (204, .iconst (-1), 1), (205, .if_icmp .ne 46, 3), (208, .aload_n 0, 1), (209, .invokevirtual 128, 3), (212, .bipush 63, 2), (214, .if_icmp .eq 8, 3), (217, .aload_n 0, 1), (218, .invokevirtual 125, 3), (221, .return_, 1), (222, .aload_n 0, 1), (223, .dup, 1), (224, .getfield 109, 3), (227, .iconst 1, 1), (228, .iadd, 1), (229, .putfield 109, 3), (232, .aload_n 0, 1), (233, .getfield 28, 3), (236, .iload_n 1, 1), (237, .aload_n 0, 1), (238, .getfield 19, 3), (241, .aload_n 0, 1), (242, .getfield 119, 3), (245, .iaload, 1), (246, .iastore, 1), (247, .aload_n 0, 1), (248, .invokevirtual 149, 3), (251, .aload_n 0, 1)]
set_option maxRecDepth 100000 in
theorem dX12_clause_184 : mj_pd cX12_clause pX12_clause_184 := mj_pdB (by decide +kernel)
set_option maxRecDepth 100000 in
set_option maxHeartbeats 4000000 in
theorem bX12_clause_184 {Ω : mj_Om} {l : Launch} {d : Nat} {Φ : Option Value → mj_M → Prop} (hd : 42 ≤ d) (x1 : Int32) (x2 : Int32) (I : Nat → Nat → Int32) (J : Nat → Nat → Int64)
    (h : ((mj_gd (mj_inB x1 700) (mj_gd (mj_inB x1 700) (if x2 = (0 : Int32) then (mj_G Ω l false mX12_clause d 0 0 Φ 0 0 251 ([some (.ref 91), some (.int x1), some (.int x2)], [], (mk (mj_ui I 98 (x1).toNatClampNeg (I 97 (x1).toNatClampNeg)) J))) else (if (I 91 4) = (-1 : Int32) then ((91 = 91 ∧ mj_isk (mk (mj_ui I 98 (x1).toNatClampNeg (I 97 (x1).toNatClampNeg)) J)) ∧ (∃ t2503 : Nat, (∃ τ2504 : Nat → Int32, (∃ p2505 : Nat, ((TM (mj_ui I 98 (x1).toNatClampNeg (I 97 (x1).toNatClampNeg)) t2503 τ2504 ∧ (mj_ui I 98 (x1).toNatClampNeg (I 97 (x1).toNatClampNeg)) 91 3 = nI p2505 ∧ p2505 ≤ 300) ∧ (∀ I2506 : Nat → Nat → Int32, (I2506 91 3 = nI (skp t2503 τ2504 p2505) ∧ fr mFr (mj_ui I 98 (x1).toNatClampNeg (I 97 (x1).toNatClampNeg)) I2506) → (if (nsg t2503 τ2504 p2505) = (63 : Int32) then (mj_gd (mj_inB (I2506 91 14) 5) (mj_gd (mj_inB x1 700) ((91 = 91 ∧ mj_isk (mk (mj_ui (mj_ui I2506 91 3 ((I2506 91 3) + (1 : Int32))) 98 (x1).toNatClampNeg (I2506 95 ((I2506 91 14)).toNatClampNeg)) J)) ∧ (∃ t2508 : Nat, (∃ τ2509 : Nat → Int32, (∃ p2510 : Nat, (∃ n2511 : Nat, (∃ x2512 : Nat, (∃ z2513 : Nat, ((0 ≤ 6 ∧ prM (mj_ui (mj_ui I2506 91 3 ((I2506 91 3) + (1 : Int32))) 98 (x1).toNatClampNeg (I2506 95 ((I2506 91 14)).toNatClampNeg)) t2508 τ2509 p2510 n2511 0 x2512 z2513) ∧ (∀ I2514 : Nat → Nat → Int32, (wrM (smW t2508 τ2509 0 p2510) t2508 0 n2511 x2512 z2513 (mj_ui (mj_ui I2506 91 3 ((I2506 91 3) + (1 : Int32))) 98 (x1).toNatClampNeg (I2506 95 ((I2506 91 14)).toNatClampNeg)) I2514) → (mj_G Ω l false mX12_clause d 0 0 Φ 0 0 251 ([some (.ref 91), some (.int x1), some (.int x2)], [], (mk I2514 J)))))))))))))) else ((91 = 91 ∧ mj_isk (mk I2506 J)) ∧ (∀ I2515 : Nat → Nat → Int32, (I2515 = mj_ui I2506 91 4 (bdV I2506)) → (Φ none (mk I2515 J))))))))))) else (mj_G Ω l false mX12_clause d 0 0 Φ 0 0 251 ([some (.ref 91), some (.int x1), some (.int x2)], [], (mk (mj_ui I 98 (x1).toNatClampNeg (I 97 (x1).toNatClampNeg)) J))))))))) :
    mj_G Ω l false mX12_clause d 0 0 Φ 0 0 184 ([some (.ref 91), some (.int x1), some (.int x2)], [], mk I J) := mj_blk (μ := mX12_clause) (P := pX12_clause_184) (cut := cutX12_clause) (cs := csX12_clause) dX12_clause_184 csX12_clause_ok hd 40 184 _ h
def pX12_clause_251 : List (Nat × Instr × Nat) := [(251, .aload_n 0, 1), (252, .getfield 31, 3), (255, .iload_n 1, 1), (256, .aload_n 0, 1), (257, .getfield 19, 3), (260, .aload_n 0, 1), (261, .getfield 119, 3), (264, .iaload, 1), (265, .iastore, 1), (266, .aload_n 0, 1), (267, .getfield 22, 3), (270, .aload_n 0, 1), (271, .getfield 119, 3), (274, .dup2, 1), (275, .iaload, 1), (276, .iconst 1, 1), (277, .iadd, 1), (278, .iastore, 1), (279, .return_, 1)]
set_option maxRecDepth 100000 in
theorem dX12_clause_251 : mj_pd cX12_clause pX12_clause_251 := mj_pdB (by decide +kernel)
set_option maxRecDepth 100000 in
set_option maxHeartbeats 4000000 in
theorem bX12_clause_251 {Ω : mj_Om} {l : Launch} {d : Nat} {Φ : Option Value → mj_M → Prop} (hd : 42 ≤ d) (x1 : Int32) (x2 : Int32) (I : Nat → Nat → Int32) (J : Nat → Nat → Int64)
    (h : ((mj_gd (mj_inB (I 91 14) 5) (mj_gd (mj_inB x1 700) (mj_gd (mj_inB (I 91 14) 5) (mj_gd (mj_inB (I 91 14) 5) (Φ none (mk (mj_ui (mj_ui I 99 (x1).toNatClampNeg (I 95 ((I 91 14)).toNatClampNeg)) 96 ((I 91 14)).toNatClampNeg ((I 96 ((I 91 14)).toNatClampNeg) + (1 : Int32))) J)))))))) :
    mj_G Ω l false mX12_clause d 0 0 Φ 0 0 251 ([some (.ref 91), some (.int x1), some (.int x2)], [], mk I J) := mj_blk (μ := mX12_clause) (P := pX12_clause_251) (cut := cutX12_clause) (cs := csX12_clause) dX12_clause_251 csX12_clause_ok hd 20 251 _ h
def tX12_clause : mj_PT := fun as M Φ => match as with
  | [.ref this] => ((this = 91 ∧ mj_isk M) ∧ (∃ t : Nat, (∃ τ : Nat → Int32, (∃ p : Nat, (∃ n : Nat, (∃ x : Nat, (∃ k : Nat, ((prM M.2.2.1 t τ p n 0 x 0 ∧ M.2.2.1 96 x = nI k ∧ k < 140) ∧ (∀ I1 : Nat → Nat → Int32, (clM (clP t τ p) x n k M.2.2.1 I1) → Φ none (M.1, M.2.1, I1, M.2.2.2))))))))))
  | _ => False
set_option maxHeartbeats 32000000 in
theorem mnX12_clause {Ω : mj_Om} {l : Launch} {d : Nat} {Φ : Option Value → mj_M → Prop} (hd : 42 ≤ d) (t : Nat) (τ : Nat → Int32) (p : Nat) (n : Nat) (x : Nat) (k : Nat) (I : Nat → Nat → Int32) (J : Nat → Nat → Int64) (hp : prM I t τ p n 0 x 0 ∧ I 96 x = nI k ∧ k < 140) (h : ∀ I1 : Nat → Nat → Int32, (clM (clP t τ p) x n k I I1) → Φ none (mk I1 J)) : mj_Met Ω l false mX12_clause d 0 0 [.ref 91] (mk I J) Φ := by
  refine inX12_clause hd I J ?_
  obtain ⟨⟨hT, h3, hpt, h4, h5, h14, hx, h95, hn⟩, h96, hk⟩ := hp
  have ht := hT.1.1
  have k1 := skp_le (τ := τ) hpt
  have k2 := skp_ge (t := t) (τ := τ) (p := p)
  have e1 : 140 * nI x + nI k = nI (140 * x + k) := by rw [show (140 : Int32) = nI 140 from rfl, jn_mul, jn_add]
  have hy : 140 * x + k < 700 := by omega
  have k251 : ∀ (x2 : Int32) (B : Nat → Nat → Int32) (c : Nat), fr (qF x k) I B → B 95 x = nI c → Φ none (mk (mj_ui (mj_ui B 99 (140 * x + k) (nI c)) 96 x (nI (k + 1))) J) → mj_G Ω l false mX12_clause d 0 0 Φ 0 0 251 ([some (.ref 91), some (.int (nI (140 * x + k))), some (.int x2)], [], mk B J) := by
    intro x2 B c bF b95 hΦ
    refine bX12_clause_251 hd (nI (140 * x + k)) x2 B J ?_
    rw [q_14 bF, h14]
    simp (disch := omega) only [jn_in, jn_cl, gd_dec]
    rw [b95, q_96 bF, h96, jn_succ]
    exact hΦ
  have f251 : ∀ (B : Nat → Nat → Int32) (c : Nat), fr (qF x k) I B → fr (lF x k) I (mj_ui (mj_ui B 99 (140 * x + k) (nI c)) 96 x (nI (k + 1))) := fun B c bF => fr_ui (fr_ui (q_lF bF) (Or.inl (Or.inr ⟨Or.inr (Or.inr rfl), rfl⟩))) (Or.inr ⟨rfl, rfl⟩)
  have kerr : ∀ (x2 : Int32) (B : Nat → Nat → Int32) (e c : Nat), e ≤ 300 → clP t τ p = .error e → fr (qF x k) I B → B 91 4 = nI e → B 95 x = nI c → mj_G Ω l false mX12_clause d 0 0 Φ 0 0 251 ([some (.ref 91), some (.int (nI (140 * x + k))), some (.int x2)], [], mk B J) := by
    intro x2 B e c he3 he bF b4 b95
    refine k251 x2 B c bF b95 (h _ ⟨f251 B c bF, fun e' h' => ?_, fun q h' => ?_⟩)
    · rw [he] at h'; cases h'; exact ⟨he3, by rw [ui_c (by decide), ui_c (by decide)]; exact b4⟩
    · rw [he] at h'; cases h'
  have err184 : ∀ (x2 : Int32) (B : Nat → Nat → Int32) (e c : Nat), e ≤ 300 → clP t τ p = .error e → fr (qF x k) I B → B 91 4 = nI e → B 95 x = nI c → mj_G Ω l false mX12_clause d 0 0 Φ 0 0 184 ([some (.ref 91), some (.int (nI (140 * x + k))), some (.int x2)], [], mk B J) := by
    intro x2 B e c he3 he bF b4 b95
    refine bX12_clause_184 hd (nI (140 * x + k)) x2 B J ?_
    simp (disch := omega) only [jn_in, jn_cl, gd_dec]
    have to251 := kerr x2 (mj_ui B 98 (140 * x + k) (B 97 (140 * x + k))) e c he3 he (fr_ui bF (Or.inr ⟨Or.inr (Or.inl rfl), rfl⟩)) (by rw [ui_c (by decide)]; exact b4) (by rw [ui_c (by decide)]; exact b95)
    by_cases q : x2 = 0
    · rw [if_pos q]; exact to251
    · rw [if_neg q, if_neg (by rw [b4]; exact nI_n1 he3)]; exact to251
  have ok251 : ∀ (x2 : Int32) (B : Nat → Nat → Int32) (q : Nat × (List Int32 × List Int32)), clP t τ p = .ok q → fr (qF x k) I B → B 91 3 = nI q.1 → B 91 4 = -1 → B 91 5 = nI 0 → CdM B x n (q.2.1 ++ q.2.2) I → B 97 (140 * x + k) = nI n → B 98 (140 * x + k) = nI (n + q.2.1.length) → mj_G Ω l false mX12_clause d 0 0 Φ 0 0 251 ([some (.ref 91), some (.int (nI (140 * x + k))), some (.int x2)], [], mk B J) := by
    intro x2 B q he bF b3 b4 b5 bC b97 b98
    have b95 : B 95 x = nI (n + q.2.1.length + q.2.2.length) := by rw [bC.1, List.length_append, Nat.add_assoc]
    refine k251 x2 B _ bF b95 (h _ ⟨f251 B _ bF, fun e' h' => ?_, fun q' h' => ?_⟩)
    · rw [he] at h'; cases h'
    · rw [he] at h'; cases h'
      exact ⟨by rw [ui_c (by decide), ui_c (by decide)]; exact b3, by rw [ui_c (by decide), ui_c (by decide)]; exact b4, by rw [ui_c (by decide), ui_c (by decide)]; exact b5, CdM_q bC (fun j => by rw [ui_c (by decide), ui_c (by decide)]) (fun j => by rw [ui_c (by decide), ui_c (by decide)]) (by rw [ui_c (by decide), ui_c (by decide)]), ui_s, by rw [ui_c (by decide), ui_c (by decide)]; exact b97, by rw [ui_c (by decide), ui_c (by decide)]; exact b98, by rw [ui_c (by decide), ui_s]⟩
  have noT184 : ∀ (B : Nat → Nat → Int32) (p1 : Nat) (xs : List Int32), fr (qF x k) I B → B 91 3 = nI p1 → B 91 4 = -1 → B 91 5 = nI 0 → CdM B x n xs I → B 97 (140 * x + k) = nI n → clP t τ p = .ok (p1, ([], xs)) → mj_G Ω l false mX12_clause d 0 0 Φ 0 0 184 ([some (.ref 91), some (.int (nI (140 * x + k))), some (.int 0)], [], mk B J) := by
    intro B p1 xs bF b3 b4 b5 bC b97 he
    refine bX12_clause_184 hd (nI (140 * x + k)) 0 B J ?_
    simp (disch := omega) only [jn_in, jn_cl, gd_dec]
    rw [if_pos trivial, b97]
    exact ok251 0 _ (p1, ([], xs)) he (fr_ui bF (Or.inr ⟨Or.inr (Or.inl rfl), rfl⟩)) (by rw [ui_c (by decide)]; exact b3) (by rw [ui_c (by decide)]; exact b4) (by rw [ui_c (by decide)]; exact b5) (CdM_q bC (fun j => by rw [ui_c (by decide)]) (fun j => by rw [ui_c (by decide)]) (by rw [ui_c (by decide)])) (by rw [ui_c (by decide)]; exact b97) ui_s
  have ans184 : ∀ (B : Nat → Nat → Int32) (p1 : Nat) (xs : List Int32), p1 ≤ t → n + xs.length ≤ p1 → fr (qF x k) I B → B 91 3 = nI p1 → B 91 4 = -1 → B 91 5 = nI 0 → CdM B x n xs I → B 97 (140 * x + k) = nI n → clP t τ p = anP t τ p1 xs → mj_G Ω l false mX12_clause d 0 0 Φ 0 0 184 ([some (.ref 91), some (.int (nI (140 * x + k))), some (.int 1)], [], mk B J) := by
    intro B p1 xs hp1 hl bF b3 b4 b5 bC b97 he
    have j1 := skp_le (τ := τ) hp1
    have j2 := skp_ge (t := t) (τ := τ) (p := p1)
    rw [anP_Q] at he
    refine bX12_clause_184 hd (nI (140 * x + k)) 1 B J ?_
    simp (disch := omega) only [jn_in, jn_cl, gd_dec]
    rw [if_neg (by decide), if_pos b4, b97]
    have bF' : fr (qF x k) I (mj_ui B 98 (140 * x + k) (nI n)) := fr_ui bF (Or.inr ⟨Or.inr (Or.inl rfl), rfl⟩)
    refine ⟨⟨by trivial, mj_isk_mk _ _⟩, t, τ, p1, ⟨TM_q hT bF', by rw [ui_c (by decide)]; exact b3, by omega⟩, fun C hC => ?_⟩
    obtain ⟨c3, cm⟩ := hC
    have dC := m_dF cm
    have cF : fr (qF x k) I C := fr_tr bF' (d_qF dC)
    have c4 : C 91 4 = -1 := by rw [cm 91 4 (by unfold mFr; omega), ui_c (by decide)]; exact b4
    have c5 : C 91 5 = nI 0 := by rw [cm 91 5 (by unfold mFr; omega), ui_c (by decide)]; exact b5
    have cC : CdM C x n xs I := CdM_d (CdM_q bC (fun j => by rw [ui_c (by decide)]) (fun j => by rw [ui_c (by decide)]) (by rw [ui_c (by decide)])) dC
    have c97 : C 97 (140 * x + k) = nI n := by rw [cm 97 _ (by unfold mFr; omega), ui_c (by decide)]; exact b97
    by_cases s1 : nsg t τ p1 = 63
    case neg =>
      rw [if_neg s1]
      refine ⟨⟨by trivial, mj_isk_mk _ _⟩, fun D hD => ?_⟩
      have hb : bdV C = nI (skp t τ p1) := by unfold bdV; rw [if_pos c4, c3]
      rw [hb] at hD
      have he' : clP t τ p = .error (skp t τ p1) := by rw [he]; unfold anQ; rw [if_neg s1]; rfl
      refine h D ⟨q_lF (by rw [hD]; exact fr_ui cF (Or.inl (Or.inl ⟨rfl, by omega⟩))), fun e' h' => ?_, fun q' h' => ?_⟩
      · rw [he'] at h'; cases h'; exact ⟨by omega, by rw [hD, ui_s]⟩
      · rw [he'] at h'; cases h'
    rw [if_pos s1, q_14 cF, h14]
    have h3' : skp t τ p1 < t := nsg_p s1 (by decide)
    simp (disch := omega) only [jn_in, jn_cl, gd_dec]
    rw [c3, jn_succ, cC.1]
    have eQ : anQ t τ p1 = smW t τ 0 (skp t τ p1 + 1) := if_pos s1
    rw [eQ] at he
    generalize hD : mj_ui (mj_ui C 91 3 (nI (skp t τ p1 + 1))) 98 (140 * x + k) (nI (n + xs.length)) = D
    have dF : fr (qF x k) I D := by rw [← hD]; exact fr_ui (fr_ui cF (Or.inl (Or.inl ⟨rfl, by omega⟩))) (Or.inr ⟨Or.inr (Or.inl rfl), rfl⟩)
    have d3 : D 91 3 = nI (skp t τ p1 + 1) := by rw [← hD, ui_c (by decide), ui_s]
    have d4 : D 91 4 = -1 := by rw [← hD, ui_c (by decide), ui_k (by decide)]; exact c4
    have d5 : D 91 5 = nI 0 := by rw [← hD, ui_c (by decide), ui_k (by decide)]; exact c5
    have dC2 : CdM D x n xs I := by rw [← hD]; exact CdM_q cC (fun j => by rw [ui_c (by decide), ui_c (by decide)]) (fun j => by rw [ui_c (by decide), ui_c (by decide)]) (by rw [ui_c (by decide), ui_c (by decide)])
    have d97 : D 97 (140 * x + k) = nI n := by rw [← hD, ui_c (by decide), ui_c (by decide)]; exact c97
    have d98 : D 98 (140 * x + k) = nI (n + xs.length) := by rw [← hD, ui_s]
    refine ⟨⟨by trivial, mj_isk_mk _ _⟩, t, τ, skp t τ p1 + 1, n + xs.length, x, 0, ⟨by decide, TM_q hT dF, d3, h3', d4, d5, by rw [q_14 dF]; exact h14, hx, dC2.1, by omega⟩, fun E hE => ?_⟩
    obtain ⟨r1, r2, r3⟩ := hE
    have eF : fr (qF x k) I E := fr_tr dF (m_qF r1)
    cases hs : smW t τ 0 (skp t τ p1 + 1) with
    | error e =>
      obtain ⟨e3, g4, a, c, g3, ga, gc, gz⟩ := r2 e hs
      exact kerr 1 E e c e3 (by rw [he, pgo_e hs]) eF g4 gc
    | ok y =>
      obtain ⟨g3, g4, g5, gC⟩ := r3 y hs
      exact ok251 1 E (y.1, (xs, y.2)) (by rw [he, pgo_o hs]) eF g3 g4 g5 (CdM_app dC2 gC) (by rw [r1 97 _ (by unfold mF; omega)]; exact d97) (by rw [r1 98 _ (by unfold mF; omega)]; exact d98)
  rw [h14]
  simp (disch := omega) only [jn_in, jn_cl, gd_dec]
  rw [h96, if_pos h4, e1]
  refine ⟨⟨by trivial, mj_isk_mk _ _⟩, t, τ, p, ⟨hT, h3, by omega⟩, fun A hA => ?_⟩
  obtain ⟨a3, am⟩ := hA
  have dA := m_dF am
  have a4 : A 91 4 = -1 := by rw [am 91 4 (by unfold mFr; omega)]; exact h4
  have a5 : A 91 5 = nI 0 := by rw [am 91 5 (by unfold mFr; omega)]; exact h5
  by_cases s1 : nsg t τ p = 121
  case neg =>
    rw [if_neg s1]
    refine ⟨⟨by trivial, mj_isk_mk _ _⟩, fun D hD => ?_⟩
    have hb : bdV A = nI (skp t τ p) := by unfold bdV; rw [if_pos a4, a3]
    rw [hb] at hD
    have d4 : D 91 4 = nI (skp t τ p) := by rw [hD, ui_s]
    have dF : fr (qF x k) I D := by rw [hD]; exact fr_ui (d_qF dA) (Or.inl (Or.inl ⟨rfl, by omega⟩))
    refine bX12_clause_40 hd (nI (140 * x + k)) D J ?_
    rw [if_neg (by rw [d4]; exact nI_n1 (by omega))]
    refine bX12_clause_71 hd (nI (140 * x + k)) _ J ?_
    rw [ui_k (k' := 4) (by decide), if_neg (by rw [d4]; exact nI_n1 (by omega))]
    have he' : clP t τ p = .error (skp t τ p) := by unfold clP; rw [if_neg s1]
    refine h _ ⟨q_lF (fr_ui (fr_ui dF (Or.inl (Or.inl ⟨rfl, by omega⟩))) (Or.inl (Or.inl ⟨rfl, by omega⟩))), fun e' h' => ?_, fun q' h' => ?_⟩
    · rw [he'] at h'; cases h'; exact ⟨by omega, by rw [ui_k (by decide), ui_k (by decide)]; exact d4⟩
    · rw [he'] at h'; cases h'
  rw [if_pos s1]
  have h3' : skp t τ p + 1 ≤ t := nsg_p s1 (by decide)
  have k3 := skp_le (τ := τ) h3'
  have k4 := skp_ge (t := t) (τ := τ) (p := skp t τ p + 1)
  refine bX12_clause_40 hd (nI (140 * x + k)) A J ?_
  rw [if_pos a4, a3, jn_succ]
  have dB : fr dFr I (mj_ui A 91 3 (nI (skp t τ p + 1))) := fr_ui dA ⟨rfl, by omega⟩
  refine ⟨⟨by trivial, mj_isk_mk _ _⟩, t, τ, skp t τ p + 1, ⟨TM_d hT dB, ui_s, by omega⟩, fun B hB => ?_⟩
  obtain ⟨b3, bm⟩ := hB
  have dB2 : fr dFr I B := fr_tr dB (m_dF bm)
  have b4 : B 91 4 = -1 := by rw [bm 91 4 (by unfold mFr; omega), ui_k (by decide)]; exact a4
  have b5 : B 91 5 = nI 0 := by rw [bm 91 5 (by unfold mFr; omega), ui_k (by decide)]; exact a5
  by_cases s2 : nsg t τ (skp t τ p + 1) = 58
  case neg =>
    rw [if_neg s2]
    refine ⟨⟨by trivial, mj_isk_mk _ _⟩, fun D hD => ?_⟩
    have hb : bdV B = nI (skp t τ (skp t τ p + 1)) := by unfold bdV; rw [if_pos b4, b3]
    rw [hb] at hD
    have d4 : D 91 4 = nI (skp t τ (skp t τ p + 1)) := by rw [hD, ui_s]
    have dF : fr (qF x k) I D := by rw [hD]; exact fr_ui (d_qF dB2) (Or.inl (Or.inl ⟨rfl, by omega⟩))
    refine bX12_clause_71 hd (nI (140 * x + k)) D J ?_
    rw [if_neg (by rw [d4]; exact nI_n1 (by omega))]
    have he' : clP t τ p = .error (skp t τ (skp t τ p + 1)) := by unfold clP; rw [if_pos s1, if_neg s2]
    refine h _ ⟨q_lF (fr_ui dF (Or.inl (Or.inl ⟨rfl, by omega⟩))), fun e' h' => ?_, fun q' h' => ?_⟩
    · rw [he'] at h'; cases h'; exact ⟨by omega, by rw [ui_k (by decide)]; exact d4⟩
    · rw [he'] at h'; cases h'
  rw [if_pos s2]
  have h4' : skp t τ (skp t τ p + 1) + 1 ≤ t := nsg_p s2 (by decide)
  have eC : clP t τ p = bdP t τ (skp t τ (skp t τ p + 1) + 1) := by unfold clP; rw [if_pos s1, if_pos s2]
  refine bX12_clause_71 hd (nI (140 * x + k)) B J ?_
  rw [if_pos b4, b3, jn_succ]
  generalize hq : skp t τ (skp t τ p + 1) + 1 = q at h4' eC
  have hpq : p + 2 ≤ q := by omega
  have k5 := skp_le (τ := τ) h4'
  have k6 := skp_ge (t := t) (τ := τ) (p := q)
  have dQ : fr dFr I (mj_ui B 91 3 (nI q)) := fr_ui dB2 ⟨rfl, by omega⟩
  refine bX12_clause_90 hd (nI (140 * x + k)) _ J ?_
  rw [ui_k (k' := 14) (by decide), d_14 dB2, h14]
  simp (disch := omega) only [jn_in, jn_cl, gd_dec]
  rw [ui_c (c' := 95) (by decide), d_95 dB2, h95]
  generalize hZ : mj_ui (mj_ui B 91 3 (nI q)) 97 (140 * x + k) (nI n) = Z
  have zF : fr (qF x k) I Z := by rw [← hZ]; exact fr_ui (d_qF dQ) (Or.inr ⟨Or.inl rfl, rfl⟩)
  have z3 : Z 91 3 = nI q := by rw [← hZ, ui_c (by decide), ui_s]
  have z4 : Z 91 4 = -1 := by rw [← hZ, ui_c (by decide), ui_k (by decide)]; exact b4
  have z5 : Z 91 5 = nI 0 := by rw [← hZ, ui_c (by decide), ui_k (by decide)]; exact b5
  have z95 : Z 95 x = nI n := by rw [← hZ, ui_c (by decide), ui_c (by decide), d_95 dB2]; exact h95
  have z97 : Z 97 (140 * x + k) = nI n := by rw [← hZ, ui_s]
  have z93 : ∀ j, Z 93 j = I 93 j := fun j => by rw [← hZ, ui_c (by decide), ui_c (by decide)]; exact dB2 93 j (by unfold dFr; omega)
  have z94 : ∀ j, Z 94 j = I 94 j := fun j => by rw [← hZ, ui_c (by decide), ui_c (by decide)]; exact dB2 94 j (by unfold dFr; omega)
  have go : ∀ (C : Nat → Nat → Int32) (x2 : Int32), fr dFr Z C → C 91 3 = nI (skp t τ q) → C 91 4 = -1 → C 91 5 = nI 0 → (x2 = 1 ∧ (nsg t τ q = 33 ∨ nsg t τ q = 40)) ∨ (x2 = 0 ∧ ¬ (nsg t τ q = 33 ∨ nsg t τ q = 40)) → mj_G Ω l false mX12_clause d 0 0 Φ 0 0 129 ([some (.ref 91), some (.int (nI (140 * x + k))), some (.int x2)], [], mk C J) := by
    intro C x2 dC c3 c4 c5 hs
    have cF : fr (qF x k) I C := fr_tr zF (d_qF dC)
    have c95 : C 95 x = nI n := by rw [d_95 dC]; exact z95
    have c14 : C 91 14 = nI x := by rw [q_14 cF]; exact h14
    have c97 : C 97 (140 * x + k) = nI n := by rw [dC 97 _ (by unfold dFr; omega)]; exact z97
    have toI : ∀ (E : Nat → Nat → Int32) (m : Nat) (xs : List Int32), m = n → CdM E x m xs C → CdM E x n xs I := fun E m xs hm hc => by
      subst hm
      exact CdM_v hc (fun j => by rw [dC 93 j (by unfold dFr; omega)]; exact z93 j) (fun j => by rw [dC 94 j (by unfold dFr; omega)]; exact z94 j)
    refine bX12_clause_129 hd (nI (140 * x + k)) x2 C J ?_
    rcases hs with ⟨hx2, hs⟩ | ⟨hx2, hs⟩
    · subst hx2
      rw [if_neg (by decide)]
      have eB : bdP t τ q = pgo (cdW t τ 0 (skp t τ q)) (fun p1 xs => anP t τ p1 xs) := by unfold bdP; rw [if_pos hs]
      refine ⟨⟨by trivial, mj_isk_mk _ _⟩, t, τ, skp t τ q, n, x, 0, ⟨by decide, TM_q hT cF, c3, k5, c4, c5, c14, hx, c95, by omega⟩, fun E hE => ?_⟩
      obtain ⟨r1, r2, r3⟩ := hE
      have eF : fr (qF x k) I E := fr_tr cF (m_qF r1)
      cases hs : cdW t τ 0 (skp t τ q) with
      | error e =>
        obtain ⟨e3, g4, a, c, g3, ga, gc, gz⟩ := r2 e hs
        exact err184 1 E e c e3 (by rw [eC, eB, pgo_e hs]) eF g4 gc
      | ok y =>
        obtain ⟨g3, g4, g5, gC⟩ := r3 y hs
        have yb := (pOk_cdW (τ := τ) (w := 0) (skp t τ q) k5).2 y hs
        exact ans184 E y.1 y.2 yb.2.1 (by omega) eF g3 g4 g5 (toI E n y.2 rfl gC) (by rw [r1 97 _ (by unfold mF; omega)]; exact c97) (by rw [eC, eB, pgo_o hs])
    · subst hx2
      rw [if_pos rfl]
      have eB : bdP t τ q = pgo (smW t τ 0 (skp t τ q)) (fun p1 xs => if cmO (nsg t τ p1) = 0 then .ok (skp t τ p1, ([], xs)) else pgo (cdX t τ 0 1 (skp t τ p1)) (fun p2 ys => anP t τ p2 (xs ++ ys))) := by unfold bdP; rw [if_neg hs]
      refine ⟨⟨by trivial, mj_isk_mk _ _⟩, t, τ, skp t τ q, n, x, 0, ⟨by decide, TM_q hT cF, c3, k5, c4, c5, c14, hx, c95, by omega⟩, fun E hE => ?_⟩
      obtain ⟨r1, r2, r3⟩ := hE
      have eF : fr (qF x k) I E := fr_tr cF (m_qF r1)
      have e97 : E 97 (140 * x + k) = nI n := by rw [r1 97 _ (by unfold mF; omega)]; exact c97
      cases hs : smW t τ 0 (skp t τ q) with
      | error e =>
        obtain ⟨e3, g4, a, c, g3, ga, gc, gz⟩ := r2 e hs
        rw [if_neg (by rw [g4]; exact nI_n1 e3)]
        refine bX12_clause_168 hd (nI (140 * x + k)) 0 E J ?_
        rw [if_pos rfl]
        exact err184 0 E e c e3 (by rw [eC, eB, pgo_e hs]) eF g4 gc
      | ok y =>
        obtain ⟨g3, g4, g5, gC⟩ := r3 y hs
        have yb := (pOk_smW (τ := τ) (w := 0) (skp t τ q) k5).2 y hs
        have k7 := skp_le (τ := τ) yb.2.1
        have k8 := skp_ge (t := t) (τ := τ) (p := y.1)
        rw [pgo_o hs] at eB
        rw [if_pos g4]
        refine ⟨⟨by trivial, mj_isk_mk _ _⟩, t, τ, y.1, ⟨TM_q hT eF, g3, by omega⟩, fun F hF => ⟨mj_isk_mk _ _, ?_⟩⟩
        obtain ⟨f3, fm⟩ := hF
        have dF := m_dF fm
        have fF : fr (qF x k) I F := fr_tr eF (d_qF dF)
        have f4 : F 91 4 = -1 := by rw [fm 91 4 (by unfold mFr; omega)]; exact g4
        have f5 : F 91 5 = nI 0 := by rw [fm 91 5 (by unfold mFr; omega)]; exact g5
        have f97 : F 97 (140 * x + k) = nI n := by rw [fm 97 _ (by unfold mFr; omega)]; exact e97
        have fC : CdM F x n y.2 I := CdM_d (toI E n y.2 rfl gC) dF
        by_cases zc : cmO (nsg t τ y.1) = 0
        · rw [if_pos (by rw [b2i_e0]; exact fun u => u zc)]
          rw [if_pos zc] at eB
          refine bX12_clause_168 hd (nI (140 * x + k)) 0 F J ?_
          rw [if_pos rfl]
          exact noT184 F (skp t τ y.1) y.2 fF f3 f4 f5 fC f97 (by rw [eC, eB])
        · rw [if_neg (by rw [b2i_e0]; exact fun u => u zc)]
          rw [if_neg zc] at eB
          refine bX12_clause_168 hd (nI (140 * x + k)) 1 F J ?_
          rw [if_neg (by decide)]
          have f14 : F 91 14 = nI x := by rw [q_14 fF]; exact h14
          have TF := TM_q hT fF
          refine ⟨⟨by trivial, mj_isk_mk _ _⟩, t, τ, skp t τ y.1, n + y.2.length, x, 0, ⟨by decide, TF, f3, k7, f4, f5, f14, hx, fC.1, by omega⟩, fun G hG => ?_⟩
          refine andM (A1 := unW) (op := opA) (w := 0) (by decide) TF f14 hx pOk_cmW k7 (by omega) hG (fun H hH => ?_)
          rw [← unX_1] at hH
          change wrM (trX t τ 0 1 (skp t τ y.1)) t 0 (n + y.2.length) x 0 F H at hH
          refine andM (A1 := trW) (op := opO) (w := 0) (by decide) TF f14 hx pOk_trX k7 (by omega) hH (fun K hK => ?_)
          change wrM (cdX t τ 0 1 (skp t τ y.1)) t 0 (n + y.2.length) x 0 F K at hK
          obtain ⟨u1, u2, u3⟩ := hK
          have kF : fr (qF x k) I K := fr_tr fF (m_qF u1)
          cases hs2 : cdX t τ 0 1 (skp t τ y.1) with
          | error e =>
            obtain ⟨e3, j4, a, c, j3, ja, jc, jz⟩ := u2 e hs2
            exact err184 1 K e c e3 (by rw [eC, eB, pgo_e hs2]) kF j4 jc
          | ok r =>
            obtain ⟨j3, j4, j5, jC⟩ := u3 r hs2
            have rb := (pOk_cdX (τ := τ) (w := 0) (b := 1) (skp t τ y.1) k7).2 r hs2
            exact ans184 K r.1 (y.2 ++ r.2) rb.2.1 (by rw [List.length_append]; omega) kF j3 j4 j5 (CdM_app fC jC) (by rw [u1 97 _ (by unfold mF; omega)]; exact f97) (by rw [eC, eB, pgo_o hs2])
  refine ⟨⟨by trivial, mj_isk_mk _ _⟩, t, τ, q, ⟨TM_q hT zF, z3, by omega⟩, fun C hC => ?_⟩
  obtain ⟨c3, cm⟩ := hC
  have c4 : C 91 4 = -1 := by rw [cm 91 4 (by unfold mFr; omega)]; exact z4
  have c5 : C 91 5 = nI 0 := by rw [cm 91 5 (by unfold mFr; omega)]; exact z5
  by_cases s3 : nsg t τ q = 33
  · rw [if_pos s3]; exact go C 1 (m_dF cm) c3 c4 c5 (Or.inl ⟨rfl, Or.inl s3⟩)
  rw [if_neg s3]
  refine ⟨⟨by trivial, mj_isk_mk _ _⟩, t, τ, skp t τ q, ⟨TM_q hT (fr_tr zF (d_qF (m_dF cm))), c3, by omega⟩, fun D hD => ?_⟩
  obtain ⟨d3, dm⟩ := hD
  rw [skp_skp] at d3
  rw [nsg_skp]
  have d4 : D 91 4 = -1 := by rw [dm 91 4 (by unfold mFr; omega)]; exact c4
  have d5 : D 91 5 = nI 0 := by rw [dm 91 5 (by unfold mFr; omega)]; exact c5
  have dd : fr dFr Z D := fr_tr (m_dF cm) (m_dF dm)
  by_cases s4 : nsg t τ q = 40
  · rw [if_pos s4]; exact go D 1 dd d3 d4 d5 (Or.inl ⟨rfl, Or.inr s4⟩)
  · rw [if_neg s4]; exact go D 0 dd d3 d4 d5 (Or.inr ⟨rfl, fun w => w.elim s3 s4⟩)
theorem sdX12_clause : mj_Sd mX12_clause 42 tX12_clause := by
  intro Ω l d hd as M Φ h
  unfold tX12_clause at h
  split at h
  · rename_i z_this
    obtain ⟨⟨rfl, hM⟩, t, τ, p, n, x, k, hp, h⟩ := h
    rw [mj_isk_of hM]
    exact mnX12_clause hd t τ p n x k _ _ hp (by
      rw [mj_isk_of hM] at h
      exact h)
  · exact h.elim
