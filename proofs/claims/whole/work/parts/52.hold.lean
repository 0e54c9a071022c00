/-! ===== hold, flag: the class (by program, wip/whole/p52.py) ===== -/
theorem FOk_hld {u : Int} {n b : Nat} {C : Nat → Int32} {R : RF} {F : Vw} {s : Int32} (hn : n ≤ 8) (h : FOk u n C F s) : ∀ k : Nat, s.toInt + k ≤ (C 5).toInt → FOk u n C (hldV n C R b F s k) (s + nI k) ∧ (s + nI k).toInt = s.toInt + k := by
  have l5 := h.1.2.2.2.2.2.1
  intro k
  induction k with
  | zero => intro _; rw [show nI 0 = 0 from rfl, Int32.add_zero]; exact ⟨h, by omega⟩
  | succ k ih =>
    intro hk
    obtain ⟨h1, h2⟩ := ih (by omega)
    have e : s + nI (k + 1) = s + nI k + 1 := by rw [Int32.add_assoc, jn_succ]
    rw [e]
    exact ⟨FOk_passH hn h1 (by omega), by rw [i_add1 (by omega)]; omega⟩
theorem FOk_gunR {u : Int} {n b : Nat} {C : Nat → Int32} {R : RF} (hn : n ≤ 8) : ∀ (k : Nat) (F : Vw) (s : Int32), s.toInt + k ≤ (C 5).toInt → FOk u n C F s → ∃ s', FOk u n C (gunR n C R b k F s) s' := by
  intro k
  induction k with
  | zero => intro F s _ h; exact ⟨s, h⟩
  | succ k ih =>
    intro F s hs h
    have e := i_add1 (x := s) (by have := Int32.toInt_lt (C 5); omega)
    exact ih _ _ (by omega) (FOk_passR hn h (by omega))
theorem place_c {n : Nat} {C C' : Nat → Int32} {fl : Int32} {F : Vw} {b : Nat} (h0 : C 0 = C' 0) (h1 : C 1 = C' 1) (h2 : C 2 = C' 2) : place n C fl F b = place n C' fl F b := by
  have e : ∀ i, score n C fl F i = score n C' fl F i := fun i => by
    unfold score wcol
    rw [h0, h1, h2]
  unfold place
  simp only [e]
theorem place_b {n : Nat} {C : Nat → Int32} {fl : Int32} {F : Vw} {b : Nat} (hn : n ≤ 8) : place n C fl F b ≤ 9 := by
  unfold place
  have := cnt_le (fun i => ¬ i = b ∧ (score n C fl F b < score n C fl F i ∨ (score n C fl F i = score n C fl F b ∧ i < b))) n
  omega
def csX11_hold : List (Nat × Nat × Nat × mj_PT) := [(134, 0, 2, mj_rcv 3 tX3_copyFrom), (160, 0, 2, mj_rcv 11 tX11_isBoat), (195, 0, 3, mj_rcv 1 tX1_scoreOf), (243, 0, 2, mj_rcv 1 tX1_secondsLeft), (254, 1, 1, tX11_isChoice), (261, 0, 4, mj_rcv 4 tX4_passToGunReleased), (265, 0, 4, mj_rcv 4 tX4_passHeldSecond)]
theorem csX11_hold_ok : mj_Cs mX11_hold 5 csX11_hold := (mj_CsV (D' := 1) (ci := 3) (q := (RX3, TX3, 10)) sdX3_copyFrom (Nat.le_of_ble_eq_true rfl) fX3_copyFrom rfl rfl iX3_copyFrom vX3_copyFrom (by decide +kernel) l11_134 (mj_CsV (D' := 1) (ci := 11) (q := (RX11, TX11, 18)) sdX11_isBoat (Nat.le_of_ble_eq_true rfl) fX11_isBoat rfl rfl iX11_isBoat vX11_isBoat (by decide +kernel) l11_160 (mj_CsV (D' := 3) (ci := 1) (q := (RX1, TX1, 1)) sdX1_scoreOf (Nat.le_of_ble_eq_true rfl) fX1_scoreOf rfl rfl iX1_scoreOf vX1_scoreOf (by decide +kernel) l11_195 (mj_CsV (D' := 1) (ci := 1) (q := (RX1, TX1, 1)) sdX1_secondsLeft (Nat.le_of_ble_eq_true rfl) fX1_secondsLeft rfl rfl iX1_secondsLeft vX1_secondsLeft (by decide +kernel) l11_243 (mj_CsS (D' := 1) sdX11_isChoice (Nat.le_of_ble_eq_true rfl) fX11_isChoice sX11_isChoice (by decide +kernel) l11_254 (mj_CsV (D' := 4) (ci := 4) (q := (RX4, TX4, 4)) sdX4_passToGunReleased (Nat.le_of_ble_eq_true rfl) fX4_passToGunReleased rfl rfl iX4_passToGunReleased vX4_passToGunReleased (by decide +kernel) l11_261 (mj_CsV (D' := 4) (ci := 4) (q := (RX4, TX4, 4)) sdX4_passHeldSecond (Nat.le_of_ble_eq_true rfl) fX4_passHeldSecond rfl rfl iX4_passHeldSecond vX4_passHeldSecond (by decide +kernel) l11_265 mj_Cs0)))))))
def cutX11_hold : List (Nat × List Bool) := [(52, [true, true, true, true, true, true, true, false]), (113, [true, true, true, true, true, true, true, true])]
def pX11_hold_0 : List (Nat × Instr × Nat) := [(0, .aload_n 0, 1), (1, .iload_n 1, 1), (2, .invokevirtual 160, 3), (5, .ifCond .eq 10, 3), (8, .iload_n 2, 1), (9, .invokestatic 254, 3), (12, .ifCond .ne 6, 3), (15, .ldc 250, 2), (17, .ireturn, 1), (18, .ldc 250, 2), (20, .istore_n 3, 1), (21, .ldc 250, 2), (23, .istore 4, 2), (25, .aload_n 0, 1), (26, .getfield 42, 3), (29, .aload_n 0, 1), (30, .getfield 56, 3), (33, .invokevirtual 243, 3), (36, .istore 5, 2), (38, .aload_n 0, 1), (39, .getfield 62, 3), (42, .aload_n 0, 1), (43, .getfield 56, 3), (46, .invokevirtual 134, 3), (49, .iconst 0, 1), (50, .istore 6, 2), (52, .iload 6, 2)]
set_option maxRecDepth 100000 in
theorem dX11_hold_0 : mj_pd cX11_hold pX11_hold_0 := mj_pdB (by decide +kernel)
set_option maxRecDepth 100000 in
set_option maxHeartbeats 4000000 in
theorem inX11_hold {Ω : mj_Om} {l : Launch} {d : Nat} {Φ : Option Value → mj_M → Prop} (hd : 5 ≤ d) (b : Int32) (w : Int32) (I : Nat → Nat → Int32) (J : Nat → Nat → Int64)
    (h : ((if b < (0 : Int32) then (Φ (some (.int (-1000000 : Int32))) (mk I J)) else (if b < (I 39 8) then (if w = (0 : Int32) then ((isFG 57 39 ∧ mj_isk (mk I J)) ∧ ((okF I 39) ∧ (∀ I465 : Nat → Nat → Int32, (okF I465 57 ∧ nF I465 57 = nF I 39 ∧ VF I465 57 = VF I 39 ∧ I465 57 9 = I 39 9 ∧ fr (fun c _ => 57 ≤ c ∧ c ≤ 57 + 8) I I465) → (mj_G Ω l false mX11_hold d 0 0 Φ 0 0 52 ([some (.ref 0), some (.int b), some (.int w), some (.int (-1000000 : Int32)), some (.int (-1000000 : Int32)), some (.int ((I 27 5) - (I 39 9))), some (.int (0 : Int32)), none], [], (mk I465 J)))))) else (if w = (1 : Int32) then ((isFG 57 39 ∧ mj_isk (mk I J)) ∧ ((okF I 39) ∧ (∀ I467 : Nat → Nat → Int32, (okF I467 57 ∧ nF I467 57 = nF I 39 ∧ VF I467 57 = VF I 39 ∧ I467 57 9 = I 39 9 ∧ fr (fun c _ => 57 ≤ c ∧ c ≤ 57 + 8) I I467) → (mj_G Ω l false mX11_hold d 0 0 Φ 0 0 52 ([some (.ref 0), some (.int b), some (.int w), some (.int (-1000000 : Int32)), some (.int (-1000000 : Int32)), some (.int ((I 27 5) - (I 39 9))), some (.int (0 : Int32)), none], [], (mk I467 J)))))) else (Φ (some (.int (-1000000 : Int32))) (mk I J)))) else (Φ (some (.int (-1000000 : Int32))) (mk I J)))))) :
    mj_Met Ω l false mX11_hold d 0 0 [.ref 0, .int b, .int w] (mk I J) Φ := mj_entry (by decide) rfl (fun h => (by cases h)) (Nat.le_of_ble_eq_true rfl) (mj_blk (μ := mX11_hold) (P := pX11_hold_0) (cut := cutX11_hold) (cs := csX11_hold) dX11_hold_0 csX11_hold_ok hd 28 0 _ h)
def pX11_hold_52 : List (Nat × Instr × Nat) := [(52, .iload 6, 2), (54, .iload 5, 2), (56, .if_icmp .gt 79, 3), (59, .aload_n 0, 1), (60, .getfield 59, 3), (63, .aload_n 0, 1), (64, .getfield 62, 3), (67, .invokevirtual 134, 3), (70, .aload_n 0, 1), (71, .getfield 73, 3), (74, .aload_n 0, 1), (75, .getfield 42, 3), (78, .aload_n 0, 1), (79, .getfield 59, 3), (82, .iload_n 1, 1), (83, .invokevirtual 261, 3), (86, .aload_n 0, 1), (87, .getfield 42, 3), (90, .aload_n 0, 1), (91, .getfield 59, 3), (94, .iload_n 1, 1), (95, .invokevirtual 195, 3), (98, .istore 7, 2), (100, .iload 7, 2), (102, .iload_n 3, 1), (103, .if_icmp .le 10, 3), (106, .iload 7, 2), (108, .istore_n 3, 1), (109, .iload 6, 2), (111, .istore 4, 2), (113, .aload_n 0, 1), (135, .iload_n 2, 1), (136, .ifCond .ne 8, 3), (139, .iload 4, 2), (141, .goto 4, 3), (144, .iload_n 3, 1), (145, .ireturn, 1)]
set_option maxRecDepth 100000 in
theorem dX11_hold_52 : mj_pd cX11_hold pX11_hold_52 := mj_pdB (by decide +kernel)
set_option maxRecDepth 100000 in
set_option maxHeartbeats 4000000 in
theorem bX11_hold_52 {Ω : mj_Om} {l : Launch} {d : Nat} {Φ : Option Value → mj_M → Prop} (hd : 5 ≤ d) (x1 : Int32) (x2 : Int32) (x3 : Int32) (x4 : Int32) (x5 : Int32) (x6 : Int32) (I : Nat → Nat → Int32) (J : Nat → Nat → Int64)
    (h : ((if x5 < x6 then (if x2 = (0 : Int32) then (Φ (some (.int x4)) (mk I J)) else (Φ (some (.int x3)) (mk I J))) else ((isFG 48 57 ∧ mj_isk (mk I J)) ∧ ((okF I 57) ∧ (∀ I469 : Nat → Nat → Int32, (okF I469 48 ∧ nF I469 48 = nF I 57 ∧ VF I469 48 = VF I 57 ∧ I469 48 9 = I 57 9 ∧ fr (fun c _ => 48 ≤ c ∧ c ≤ 48 + 8) I I469) → ((75 = 75 ∧ isCF 26 48 ∧ mj_isk (mk I469 J)) ∧ (∃ b471 : Nat, x1 = nI b471 ∧ (∃ u472 : Int, (∃ m473 : Nat, (∃ R474 : RF, ((u472 ≤ 1000 ∧ FC u472 I469 26 48 ∧ RuC I469 m473 R474 ∧ b471 < nF I469 48) ∧ (∀ I475 : Nat → Nat → Int32, (VF I475 48 = gunR (nF I469 48) (lv7 (I469 (26 + 1))) R474 b471 ((lv7 (I469 (26 + 1))) 5 - (I469 48 9)).toNatClampNeg (VF I469 48) (I469 48 9) ∧ I475 48 9 = (lv7 (I469 (26 + 1))) 5 ∧ fr (fun c k => (48 + 1 ≤ c ∧ c ≤ 48 + 8) ∨ (c = 48 ∧ k = 9) ∨ c = 10 ∨ (76 ≤ c ∧ c ≤ 78)) I469 I475) → ((isCF 26 48 ∧ mj_isk (mk I475 J)) ∧ ((okF I475 48 ∧ isB (nF I475 48) x1 ∧ lineOk (lv7 (I475 (26 + 1)))) ∧ (if x3 < (score (nF I475 48) (lv7 (I475 (26 + 1))) (I475 (26 + 1) 6) (VF I475 48) (x1).toNatClampNeg) then (mj_G Ω l false mX11_hold d 0 0 Φ 0 0 113 ([some (.ref 0), some (.int x1), some (.int x2), some (.int (score (nF I475 48) (lv7 (I475 (26 + 1))) (I475 (26 + 1) 6) (VF I475 48) (x1).toNatClampNeg)), some (.int x6), some (.int x5), some (.int x6), some (.int (score (nF I475 48) (lv7 (I475 (26 + 1))) (I475 (26 + 1) 6) (VF I475 48) (x1).toNatClampNeg))], [], (mk I475 J))) else (mj_G Ω l false mX11_hold d 0 0 Φ 0 0 113 ([some (.ref 0), some (.int x1), some (.int x2), some (.int x3), some (.int x4), some (.int x5), some (.int x6), some (.int (score (nF I475 48) (lv7 (I475 (26 + 1))) (I475 (26 + 1) 6) (VF I475 48) (x1).toNatClampNeg))], [], (mk I475 J))))))))))))))))))) :
    mj_G Ω l false mX11_hold d 0 0 Φ 0 0 52 ([some (.ref 0), some (.int x1), some (.int x2), some (.int x3), some (.int x4), some (.int x5), some (.int x6), none], [], mk I J) := mj_blk (μ := mX11_hold) (P := pX11_hold_52) (cut := cutX11_hold) (cs := csX11_hold) dX11_hold_52 csX11_hold_ok hd 38 52 _ h
def pX11_hold_113 : List (Nat × Instr × Nat) := [(52, .iload 6, 2), (113, .aload_n 0, 1), (114, .getfield 73, 3), (117, .aload_n 0, 1), (118, .getfield 42, 3), (121, .aload_n 0, 1), (122, .getfield 62, 3), (125, .iload_n 1, 1), (126, .invokevirtual 265, 3), (129, .iinc 6 1, 3), (132, .goto (-80), 3)]
set_option maxRecDepth 100000 in
theorem dX11_hold_113 : mj_pd cX11_hold pX11_hold_113 := mj_pdB (by decide +kernel)
set_option maxRecDepth 100000 in
set_option maxHeartbeats 4000000 in
theorem bX11_hold_113 {Ω : mj_Om} {l : Launch} {d : Nat} {Φ : Option Value → mj_M → Prop} (hd : 5 ≤ d) (x1 : Int32) (x2 : Int32) (x3 : Int32) (x4 : Int32) (x5 : Int32) (x6 : Int32) (x7 : Int32) (I : Nat → Nat → Int32) (J : Nat → Nat → Int64)
    (h : (((75 = 75 ∧ isCF 26 57 ∧ mj_isk (mk I J)) ∧ (∃ b477 : Nat, x1 = nI b477 ∧ (∃ u478 : Int, (∃ m479 : Nat, (∃ R480 : RF, ((u478 ≤ 1000 ∧ FC u478 I 26 57 ∧ RuC I m479 R480 ∧ b477 < nF I 57) ∧ (∀ I481 : Nat → Nat → Int32, (VF I481 57 = passH (nF I 57) (lv7 (I (26 + 1))) R480 b477 (VF I 57) (I 57 9) ∧ I481 57 9 = (I 57 9) + 1 ∧ fr (fun c k => (57 + 1 ≤ c ∧ c ≤ 57 + 8) ∨ (c = 57 ∧ k = 9) ∨ c = 10 ∨ (76 ≤ c ∧ c ≤ 78)) I I481) → (mj_G Ω l false mX11_hold d 0 0 Φ 0 0 52 ([some (.ref 0), some (.int x1), some (.int x2), some (.int x3), some (.int x4), some (.int x5), some (.int (x6 + (1 : Int32))), none], [], (mk I481 J)))))))))))) :
    mj_G Ω l false mX11_hold d 0 0 Φ 0 0 113 ([some (.ref 0), some (.int x1), some (.int x2), some (.int x3), some (.int x4), some (.int x5), some (.int x6), some (.int x7)], [], mk I J) := mj_blk (μ := mX11_hold) (P := pX11_hold_113) (cut := cutX11_hold) (cs := csX11_hold) dX11_hold_113 csX11_hold_ok hd 12 113 _ h
def tX11_hold : mj_PT := fun as M Φ => match as with
  | [.ref this, .int b, .int w] => ((this = 0 ∧ mj_isk M) ∧ (∃ m : Nat, (∃ R : RF, ((qC M.2.2.1 m R) ∧ (∀ I1 : Nat → Nat → Int32, (fr Scr M.2.2.1 I1) → Φ (some (.int (holdR (nF M.2.2.1 39) (lv7 (M.2.2.1 27)) R (VF M.2.2.1 39) (M.2.2.1 39 9) b w))) (M.1, M.2.1, I1, M.2.2.2))))))
  | _ => False
set_option maxHeartbeats 8000000 in
theorem mnX11_hold {Ω : mj_Om} {l : Launch} {d : Nat} {Φ : Option Value → mj_M → Prop} (hd : 5 ≤ d) (b : Int32) (w : Int32) (m : Nat) (R : RF) (I : Nat → Nat → Int32) (J : Nat → Nat → Int64) (hp : qC I m R) (h : ∀ I1 : Nat → Nat → Int32, (fr Scr I I1) → Φ (some (.int (holdR (nF I 39) (lv7 (I 27)) R (VF I 39) (I 39 9) b w))) (mk I1 J)) : mj_Met Ω l false mX11_hold d 0 0 [.ref 0, .int b, .int w] (mk I J) Φ := by
  refine inX11_hold hd b w I J ?_
  obtain ⟨⟨hc, hn⟩, hR, hFF⟩ := id hp
  have hH : ¬ (okBN (nF I 39) b ∧ (w = 0 ∨ w = 1)) → Φ (some (.int (-1000000))) (mk I J) := fun q => by
    have := h I fr_rf
    unfold holdR at this
    rwa [cif_f q] at this
  by_cases hb0 : b < 0
  · rw [if_pos hb0]; exact hH (fun w => absurd hb0 (Int32.not_lt.mpr w.1.1))
  rw [if_neg hb0, hc]
  by_cases hb1 : b < nI (nF I 39)
  case neg => rw [if_neg hb1]; exact hH (fun w => hb1 w.1.2)
  rw [if_pos hb1]
  obtain ⟨k, hk, rfl⟩ := okB_of hb0 hb1 hn
  have hF := hFF (by omega)
  have hok := okBN_n hk hn
  have l5 := hF.1.2.2.2.2.2.1
  have hs := hF.2.1
  have e5 : I 27 5 = lv7 (I 27) 5 := (lv7_at (by decide)).symm
  have eL := i_sub (x := lv7 (I 27) 5) (y := I 39 9) (by omega)
  have hcl : (lv7 (I 27) 5 - I 39 9).toNatClampNeg = (lv7 (I 27) 5 - I 39 9).toInt.toNat := rfl
  have eLn : lv7 (I 27) 5 - I 39 9 = nI (lv7 (I 27) 5 - I 39 9).toNatClampNeg := jn_of (by rw [Int32.le_iff_toInt_le, i_0]; omega)
  have hS : ∀ v, holdS (nF I 39) (lv7 (I 27)) R (VF I 39) (I 39 9) k v = score (nF I 39) (lv7 (I 27)) (lv7 (I 27) 6) (gunR (nF I 39) (lv7 (I 27)) R k ((lv7 (I 27) 5 - I 39 9).toNatClampNeg - v) (hldV (nF I 39) (lv7 (I 27)) R k (VF I 39) (I 39 9) v) (I 39 9 + nI v)) k := fun v => rfl
  unfold holdR at h
  rw [jn_cl (by omega)] at h
  rw [e5]
  generalize hL : lv7 (I 27) 5 - I 39 9 = L at *
  have key : ∀ (j v : Nat) (x3 x4 : Int32) (I' : Nat → Nat → Int32), v + j = L.toNatClampNeg + 1 → bC (bstN (fun _ => True) (fun v => holdS (nF I 39) (lv7 (I 27)) R (VF I 39) (I 39 9) k v) v) x3 x4 → okF I' 57 → nF I' 57 = nF I 39 → (VF I' 57 = hldV (nF I 39) (lv7 (I 27)) R k (VF I 39) (I 39 9) v) → (I' 57 9 = I 39 9 + nI v) → fr Scr I I' → (w = 0 ∨ w = 1) → mj_G Ω l false mX11_hold d 0 0 Φ 0 0 52 ([some (.ref 0), some (.int (nI k)), some (.int w), some (.int x3), some (.int x4), some (.int L), some (.int (nI v)), none], [], mk I' J) := by
    intro j
    induction j with
    | zero =>
      intro v x3 x4 I' hv hb o2 n2 V2 s2 hfr hw
      refine bX11_hold_52 hd (nI k) w x3 x4 L (nI v) I' J ?_
      rw [if_pos (by rw [eLn, jn_lt (by omega) (by omega)]; omega)]
      have h' := h I' hfr
      rw [cif_t ⟨hok, hw⟩] at h'
      rw [show v = L.toNatClampNeg + 1 by omega] at hb
      rw [bC_r hb] at h'
      split
      · rename_i z; rw [if_pos z] at h'; exact h'
      · rename_i z; rw [if_neg z] at h'; exact h'
    | succ j ih =>
      intro v x3 x4 I' hv hb o2 n2 V2 s2 hfr hw
      refine bX11_hold_52 hd (nI k) w x3 x4 L (nI v) I' J ?_
      rw [if_neg (by rw [eLn, jn_lt (by omega) (by omega)]; omega)]
      obtain ⟨hF2, hs2⟩ := FOk_hld (b := k) (R := R) hn hF v (by omega)
      refine ⟨⟨by unfold isFG; omega, mj_isk_mk _ _⟩, o2, fun A hA => ?_⟩
      obtain ⟨a1, a2, a3, a4, a5⟩ := hA
      have CA : lv7 (A (26 + 1)) = lv7 (I 27) := lv7_fr (fun q => by rw [a5 27 q (by (try dsimp only); omega)]; exact hfr 27 q (by unfold Scr; omega))
      rw [n2] at a2
      rw [V2] at a3
      rw [s2] at a4
      have RA : RuC A m R := RuC_fr hR (fun c q q1 q2 => by rw [a5 c q (by (try dsimp only); omega)]; exact hfr c q (by unfold Scr; omega))
      refine ⟨⟨by trivial, by unfold isCF; omega, mj_isk_mk _ _⟩, k, rfl, 19, m, R, ⟨by decide, ⟨a1, by rw [a2, CA, a3, a4]; exact hF2⟩, RA, by omega⟩, fun D hD => ?_⟩
      obtain ⟨d1, d2, d3⟩ := hD
      have nD : nF D 48 = nF I 39 := by rw [(fr_n d3 (f := 48) (by (try dsimp only); omega)).2]; exact a2
      have oD : okF D 48 := fr_okF d3 (by (try dsimp only); omega) a1
      have CD : lv7 (D (26 + 1)) = lv7 (I 27) := by rw [lv7_fr (fun q => d3 (26 + 1) q (by (try dsimp only); omega))]; exact CA
      have e6 : D (26 + 1) 6 = lv7 (I 27) 6 := by rw [← CD, lv7_at (by decide)]
      have eLv : (lv7 (I 27) 5 - (I 39 9 + nI v)).toNatClampNeg = L.toNatClampNeg - v := by
        rw [Int32.toNatClampNeg, i_sub (by omega), hs2]
        omega
      rw [a2, CA, a3, a4, eLv] at d1
      refine ⟨⟨by unfold isCF; omega, mj_isk_mk _ _⟩, ⟨oD, by rw [nD]; exact isB_nI hk hn, by rw [CD]; exact hF.1⟩, ?_⟩
      try simp (disch := omega) only [jn_cl]
      rw [nD, CD, d1, e6, ← hS v]
      have hsb : -2000 ≤ (holdS (nF I 39) (lv7 (I 27)) R (VF I 39) (I 39 9) k v).toInt := by
        obtain ⟨s', hG⟩ := FOk_gunR (b := k) (R := R) hn (L.toNatClampNeg - v) _ _ (by rw [hs2]; omega) hF2
        rw [hS v]
        exact (score_b (by decide) hG hk).1
      have nxt : ∀ y3 y4 sc : Int32, bC (bstN (fun _ => True) (fun v => holdS (nF I 39) (lv7 (I 27)) R (VF I 39) (I 39 9) k v) (v + 1)) y3 y4 → mj_G Ω l false mX11_hold d 0 0 Φ 0 0 113 ([some (.ref 0), some (.int (nI k)), some (.int w), some (.int y3), some (.int y4), some (.int L), some (.int (nI v)), some (.int sc)], [], mk D J) := by
        intro y3 y4 sc hb2
        refine bX11_hold_113 hd (nI k) w y3 y4 L (nI v) sc D J ?_
        obtain ⟨f1, f2, f3, f4⟩ := FF_fr (I := I') (I1 := D) (f := 57) (fun c q h1 h2 => by rw [d3 c q (by (try dsimp only); omega), a5 c q (by (try dsimp only); omega)])
        have RD : RuC D m R := RuC_fr RA (fun c q q1 q2 => d3 c q (by (try dsimp only); omega))
        refine ⟨⟨by trivial, by unfold isCF; omega, mj_isk_mk _ _⟩, k, rfl, 19, m, R, ⟨by decide, ⟨f3 o2, by rw [f1, n2, CD, f2, V2, f4, s2]; exact hF2⟩, RD, by omega⟩, fun E hE => ?_⟩
        obtain ⟨g1, g2, g3⟩ := hE
        rw [f1, n2, CD, f2, V2, f4, s2] at g1
        rw [f4, s2] at g2
        rw [jn_succ]
        refine ih (v + 1) y3 y4 E (by omega) hb2 (fr_okF g3 (by (try dsimp only); omega) (f3 o2)) (by rw [(fr_n g3 (f := 57) (by (try dsimp only); omega)).2, f1, n2]) g1 (by rw [g2, Int32.add_assoc, jn_succ]) (fun c q y => ?_) hw
        rw [g3 c q (fun z => y (by (try dsimp only at z); unfold Scr; omega)), d3 c q (fun z => y (by (try dsimp only at z); unfold Scr; omega)), a5 c q (fun z => y (by (try dsimp only at z); unfold Scr; omega)), hfr c q y]
      by_cases z : x3 < holdS (nF I 39) (lv7 (I 27)) R (VF I 39) (I 39 9) k v
      · rw [if_pos z]
        exact nxt _ _ _ (bC_y1 hb trivial z)
      · rw [if_neg z]
        exact nxt _ _ _ (bC_y0 hb hsb z)
  have go : (w = 0 ∨ w = 1) → ∀ A : Nat → Nat → Int32, (okF A 57 ∧ nF A 57 = nF I 39 ∧ VF A 57 = VF I 39 ∧ A 57 9 = I 39 9 ∧ fr (fun c _ => 57 ≤ c ∧ c ≤ 57 + 8) I A) → mj_G Ω l false mX11_hold d 0 0 Φ 0 0 52 ([some (.ref 0), some (.int (nI k)), some (.int w), some (.int (-1000000 : Int32)), some (.int (-1000000 : Int32)), some (.int L), some (.int (nI 0)), none], [], mk A J) := by
    intro hw A hA
    obtain ⟨a1, a2, a3, a4, a5⟩ := hA
    exact key (L.toNatClampNeg + 1) 0 _ _ A (by omega) ⟨rfl, rfl⟩ a1 a2 a3 (by rw [a4, show nI 0 = 0 from rfl, Int32.add_zero]) (fr_mo a5 (fun c q y => by (try dsimp only at y); unfold Scr; omega)) hw
  by_cases w0 : w = 0
  · rw [if_pos w0]
    exact ⟨⟨by unfold isFG; omega, mj_isk_mk _ _⟩, ⟨hc, hn⟩, fun A hA => go (Or.inl w0) A hA⟩
  rw [if_neg w0]
  by_cases w1 : w = 1
  · rw [if_pos w1]
    exact ⟨⟨by unfold isFG; omega, mj_isk_mk _ _⟩, ⟨hc, hn⟩, fun A hA => go (Or.inr w1) A hA⟩
  rw [if_neg w1]
  have h' := h I fr_rf
  rw [cif_f (fun z => z.2.elim w0 w1)] at h'
  exact h'
theorem sdX11_hold : mj_Sd mX11_hold 5 tX11_hold := by
  intro Ω l d hd as M Φ h
  unfold tX11_hold at h
  split at h
  · rename_i z_this b w
    obtain ⟨⟨rfl, hM⟩, m, R, hp, h⟩ := h
    rw [mj_isk_of hM]
    exact mnX11_hold hd b w m R _ _ hp (by
      rw [mj_isk_of hM] at h
      exact h)
  · exact h.elim
def csX11_flag : List (Nat × Nat × Nat × mj_PT) := [(129, 0, 2, mj_rcv 1 tX1_copyFrom), (134, 0, 2, mj_rcv 3 tX3_copyFrom), (160, 0, 2, mj_rcv 11 tX11_isBoat), (198, 0, 3, mj_rcv 1 tX1_placeOf), (251, 0, 3, mj_rcv 4 tX4_passToGun)]
theorem csX11_flag_ok : mj_Cs mX11_flag 6 csX11_flag := (mj_CsV (D' := 2) (ci := 1) (q := (RX1, TX1, 1)) sdX1_copyFrom (Nat.le_of_ble_eq_true rfl) fX1_copyFrom rfl rfl iX1_copyFrom vX1_copyFrom (by decide +kernel) l11_129 (mj_CsV (D' := 1) (ci := 3) (q := (RX3, TX3, 10)) sdX3_copyFrom (Nat.le_of_ble_eq_true rfl) fX3_copyFrom rfl rfl iX3_copyFrom vX3_copyFrom (by decide +kernel) l11_134 (mj_CsV (D' := 1) (ci := 11) (q := (RX11, TX11, 18)) sdX11_isBoat (Nat.le_of_ble_eq_true rfl) fX11_isBoat rfl rfl iX11_isBoat vX11_isBoat (by decide +kernel) l11_160 (mj_CsV (D' := 4) (ci := 1) (q := (RX1, TX1, 1)) sdX1_placeOf (Nat.le_of_ble_eq_true rfl) fX1_placeOf rfl rfl iX1_placeOf vX1_placeOf (by decide +kernel) l11_198 (mj_CsV (D' := 5) (ci := 4) (q := (RX4, TX4, 4)) sdX4_passToGun (Nat.le_of_ble_eq_true rfl) fX4_passToGun rfl rfl iX4_passToGun vX4_passToGun (by decide +kernel) l11_251 mj_Cs0)))))
def cutX11_flag : List (Nat × List Bool) := [(36, [true, true, false, false]), (58, [true, true, false, false]), (82, [true, true, true, false])]
set_option maxRecDepth 100000 in
set_option maxHeartbeats 4000000 in
theorem inX11_flag {Ω : mj_Om} {l : Launch} {d : Nat} {Φ : Option Value → mj_M → Prop} (hd : 6 ≤ d) (b : Int32) (I : Nat → Nat → Int32) (J : Nat → Nat → Int64)
    (h : ((if b < (0 : Int32) then (Φ (some (.int (-1 : Int32))) (mk I J)) else (if b < (I 39 8) then ((isFG 48 39 ∧ mj_isk (mk I J)) ∧ ((okF I 39) ∧ (∀ I496 : Nat → Nat → Int32, (okF I496 48 ∧ nF I496 48 = nF I 39 ∧ VF I496 48 = VF I 39 ∧ I496 48 9 = I 39 9 ∧ fr (fun c _ => 48 ≤ c ∧ c ≤ 48 + 8) I I496) → ((75 = 75 ∧ isCF 26 48 ∧ mj_isk (mk I496 J)) ∧ (∃ u498 : Int, (∃ m499 : Nat, (∃ R500 : RF, ((u498 ≤ 1000 ∧ FC u498 I496 26 48 ∧ RuC I496 m499 R500) ∧ (∀ I501 : Nat → Nat → Int32, (VF I501 48 = gunV (nF I496 48) (lv7 (I496 (26 + 1))) R500 ((lv7 (I496 (26 + 1))) 5 - (I496 48 9)).toNatClampNeg (VF I496 48) (I496 48 9) ∧ I501 48 9 = (lv7 (I496 (26 + 1))) 5 ∧ fr (fun c k => (48 + 1 ≤ c ∧ c ≤ 48 + 8) ∨ (c = 48 ∧ k = 9) ∨ c = 10 ∨ (76 ≤ c ∧ c ≤ 78)) I496 I501) → (mj_G Ω l false mX11_flag d 0 0 Φ 0 0 36 ([some (.ref 0), some (.int b), none, none], [], (mk I501 J)))))))))))) else (Φ (some (.int (-1 : Int32))) (mk I J)))))) :
    mj_Met Ω l false mX11_flag d 0 0 [.ref 0, .int b] (mk I J) Φ := mj_entry (by decide) rfl (fun h => (by cases h)) (Nat.le_of_ble_eq_true rfl) (mj_blk (μ := mX11_flag) (P := pX11_flag) (cut := cutX11_flag) (cs := csX11_flag) dX11_flag csX11_flag_ok hd 57 0 _ h)
set_option maxRecDepth 100000 in
set_option maxHeartbeats 4000000 in
theorem bX11_flag_36 {Ω : mj_Om} {l : Launch} {d : Nat} {Φ : Option Value → mj_M → Prop} (hd : 6 ≤ d) (x1 : Int32) (I : Nat → Nat → Int32) (J : Nat → Nat → Int64)
    (h : ((mj_G Ω l false mX11_flag d 0 0 Φ 0 0 58 ([some (.ref 0), some (.int x1), none, none], [], (mk (mj_ui (mj_uc I 29 (va_cpy (I 27) (I 29) 0 0 7)) 29 6 (0 : Int32)) J))))) :
    mj_G Ω l false mX11_flag d 0 0 Φ 0 0 36 ([some (.ref 0), some (.int x1), none, none], [], mk I J) := mj_blk (μ := mX11_flag) (P := pX11_flag) (cut := cutX11_flag) (cs := csX11_flag) dX11_flag csX11_flag_ok hd 57 36 _ h
set_option maxRecDepth 100000 in
set_option maxHeartbeats 4000000 in
theorem bX11_flag_58 {Ω : mj_Om} {l : Launch} {d : Nat} {Φ : Option Value → mj_M → Prop} (hd : 6 ≤ d) (x1 : Int32) (I : Nat → Nat → Int32) (J : Nat → Nat → Int64)
    (h : (((isCF 28 48 ∧ mj_isk (mk I J)) ∧ (∃ b503 : Nat, x1 = nI b503 ∧ ((okF I 48 ∧ b503 < nF I 48 ∧ lineOk (lv7 (I (28 + 1)))) ∧ (mj_G Ω l false mX11_flag d 0 0 Φ 0 0 82 ([some (.ref 0), some (.int x1), some (.int (nI (place (nF I 48) (lv7 (I (28 + 1))) (I (28 + 1) 6) (VF I 48) b503))), none], [], (mk (mj_ui I 29 6 (1 : Int32)) J)))))))) :
    mj_G Ω l false mX11_flag d 0 0 Φ 0 0 58 ([some (.ref 0), some (.int x1), none, none], [], mk I J) := mj_blk (μ := mX11_flag) (P := pX11_flag) (cut := cutX11_flag) (cs := csX11_flag) dX11_flag csX11_flag_ok hd 57 58 _ h
set_option maxRecDepth 100000 in
set_option maxHeartbeats 4000000 in
theorem bX11_flag_82 {Ω : mj_Om} {l : Launch} {d : Nat} {Φ : Option Value → mj_M → Prop} (hd : 6 ≤ d) (x1 : Int32) (x2 : Int32) (I : Nat → Nat → Int32) (J : Nat → Nat → Int64)
    (h : (((isCF 28 48 ∧ mj_isk (mk I J)) ∧ (∃ b506 : Nat, x1 = nI b506 ∧ ((okF I 48 ∧ b506 < nF I 48 ∧ lineOk (lv7 (I (28 + 1)))) ∧ (if (nI (place (nF I 48) (lv7 (I (28 + 1))) (I (28 + 1) 6) (VF I 48) b506)) < x2 then (Φ (some (.int (1 : Int32))) (mk I J)) else (Φ (some (.int (0 : Int32))) (mk I J)))))))) :
    mj_G Ω l false mX11_flag d 0 0 Φ 0 0 82 ([some (.ref 0), some (.int x1), some (.int x2), none], [], mk I J) := mj_blk (μ := mX11_flag) (P := pX11_flag) (cut := cutX11_flag) (cs := csX11_flag) dX11_flag csX11_flag_ok hd 57 82 _ h
def tX11_flag : mj_PT := fun as M Φ => match as with
  | [.ref this, .int b] => ((this = 0 ∧ mj_isk M) ∧ (∃ m : Nat, (∃ R : RF, ((qC M.2.2.1 m R) ∧ (∀ I1 : Nat → Nat → Int32, (fr Scr M.2.2.1 I1) → Φ (some (.int (flagR (nF M.2.2.1 39) (lv7 (M.2.2.1 27)) R (VF M.2.2.1 39) (M.2.2.1 39 9) b))) (M.1, M.2.1, I1, M.2.2.2))))))
  | _ => False
set_option maxHeartbeats 4000000 in
theorem mnX11_flag {Ω : mj_Om} {l : Launch} {d : Nat} {Φ : Option Value → mj_M → Prop} (hd : 6 ≤ d) (b : Int32) (m : Nat) (R : RF) (I : Nat → Nat → Int32) (J : Nat → Nat → Int64) (hp : qC I m R) (h : ∀ I1 : Nat → Nat → Int32, (fr Scr I I1) → Φ (some (.int (flagR (nF I 39) (lv7 (I 27)) R (VF I 39) (I 39 9) b))) (mk I1 J)) : mj_Met Ω l false mX11_flag d 0 0 [.ref 0, .int b] (mk I J) Φ := by
  refine inX11_flag hd b I J ?_
  obtain ⟨⟨hc, hn⟩, hR, hFF⟩ := id hp
  have hH : ¬ (okBN (nF I 39) b) → Φ (some (.int (-1))) (mk I J) := fun q => by
    have := h I fr_rf
    unfold flagR at this
    rwa [cif_f q] at this
  by_cases hb0 : b < 0
  · rw [if_pos hb0]; exact hH (fun w => absurd hb0 (Int32.not_lt.mpr w.1))
  rw [if_neg hb0, hc]
  by_cases hb1 : b < nI (nF I 39)
  case neg => rw [if_neg hb1]; exact hH (fun w => hb1 w.2)
  rw [if_pos hb1]
  obtain ⟨k, hk, rfl⟩ := okB_of hb0 hb1 hn
  have hF := hFF (by omega)
  have hok := okBN_n hk hn
  refine ⟨⟨by unfold isFG; omega, mj_isk_mk _ _⟩, ⟨hc, hn⟩, fun A hA => ?_⟩
  obtain ⟨hFC, hRA, eC⟩ := tr48 hp (by omega) hA
  obtain ⟨h1, h2, h3, h4, h5⟩ := hA
  refine ⟨⟨by trivial, by unfold isCF; omega, mj_isk_mk _ _⟩, 40, m, R, ⟨by decide, hFC, hRA⟩, fun D hD => ?_⟩
  obtain ⟨d1, d2, d3⟩ := hD
  have nD : nF D 48 = nF I 39 := by rw [(fr_n d3 (f := 48) (by (try dsimp only); omega)).2]; exact h2
  have oD : okF D 48 := fr_okF d3 (by (try dsimp only); omega) h1
  have CD : lv7 (D 27) = lv7 (I 27) := by rw [lv7_fr (fun k => d3 27 k (by (try dsimp only); omega))]; exact eC
  rw [h2, eC, h3, h4] at d1
  unfold flagR at h
  rw [cif_t hok, jn_cl (by omega)] at h
  have hfr : fr Scr I D := fun c k w => by rw [d3 c k (fun z => w (by (try dsimp only at z); unfold Scr; omega)), h5 c k (fun z => w (by (try dsimp only at z); unfold Scr; omega))]
  refine bX11_flag_36 hd (nI k) D J ?_
  have cpy : ∀ (B : Nat → Nat → Int32) (y : Int32), (∀ j, j < 6 → B 29 j = D 27 j) → B 29 6 = y → (∀ c q, ¬ c = 29 → B c q = D c q) → (y = 0 ∨ y = 1) → okF B 48 ∧ nF B 48 = nF I 39 ∧ lineOk (lv7 (B (28 + 1))) ∧ B (28 + 1) 6 = y ∧ (∀ fl, place (nF B 48) (lv7 (B (28 + 1))) fl (VF B 48) k = place (nF I 39) (lv7 (I 27)) fl (gunA (nF I 39) (lv7 (I 27)) R (VF I 39) (I 39 9)) k) := by
    intro B y hB1 hB2 hB3 hy
    obtain ⟨f1, f2, f3, f4⟩ := FF_fr (I := D) (I1 := B) (f := 48) (fun c q y1 y2 => hB3 c q (by omega))
    have hj : ∀ j, j < 6 → lv7 (B (28 + 1)) j = lv7 (I 27) j := fun j hj => by rw [lv7_at (by omega), hB1 j hj, ← CD, lv7_at (by omega)]
    refine ⟨f3 oD, by rw [f1]; exact nD, ?_, hB2, fun fl => ?_⟩
    · obtain ⟨y0, y1, y2, y3, y4, y5, y6⟩ := hF.1
      refine ⟨by rw [hj 0 (by decide)]; exact y0, by rw [hj 1 (by decide)]; exact y1, by rw [hj 2 (by decide)]; exact y2, by rw [hj 3 (by decide)]; exact y3, by rw [hj 4 (by decide)]; exact y4, by rw [hj 5 (by decide)]; exact y5, ?_⟩
      rw [lv7_at (by decide), hB2]
      rcases hy with rfl | rfl <;> decide
    · rw [f1, nD, f2, d1]
      exact place_c (hj 0 (by decide)) (hj 1 (by decide)) (hj 2 (by decide))
  have hB1 : ∀ j, j < 6 → (mj_ui (mj_uc D 29 (va_cpy (D 27) (D 29) 0 0 7)) 29 6 0) 29 j = D 27 j := fun j hj => by
    rw [ui_k (by omega), mj_uc_self]
    simp [va_cpy, show j < 7 by omega]
  have hB3 : ∀ c q, ¬ c = 29 → (mj_ui (mj_uc D 29 (va_cpy (D 27) (D 29) 0 0 7)) 29 6 0) c q = D c q := fun c q hcq => by
    rw [ui_c hcq, mj_uc_ne hcq]
  have hB2 : (mj_ui (mj_uc D 29 (va_cpy (D 27) (D 29) 0 0 7)) 29 6 0) 29 6 = 0 := ui_s
  generalize (mj_ui (mj_uc D 29 (va_cpy (D 27) (D 29) 0 0 7)) 29 6 0) = B at hB1 hB2 hB3 ⊢
  refine bX11_flag_58 hd (nI k) B J ?_
  obtain ⟨p1, p2, p3, p4, p5⟩ := cpy B 0 hB1 hB2 hB3 (Or.inl rfl)
  refine ⟨⟨by unfold isCF; omega, mj_isk_mk _ _⟩, k, rfl, ⟨p1, by omega, p3⟩, ?_⟩
  rw [p4, p5]
  have hE1 : ∀ j, j < 6 → (mj_ui B 29 6 1) 29 j = D 27 j := fun j hj => by rw [ui_k (by omega)]; exact hB1 j hj
  have hE3 : ∀ c q, ¬ c = 29 → (mj_ui B 29 6 1) c q = D c q := fun c q hcq => by rw [ui_c hcq]; exact hB3 c q hcq
  have hE2 : (mj_ui B 29 6 1) 29 6 = 1 := ui_s
  generalize (mj_ui B 29 6 1) = E at hE1 hE2 hE3 ⊢
  refine bX11_flag_82 hd (nI k) _ E J ?_
  obtain ⟨r1, r2, r3, r4, r5⟩ := cpy E 1 hE1 hE2 hE3 (Or.inr rfl)
  refine ⟨⟨by unfold isCF; omega, mj_isk_mk _ _⟩, k, rfl, ⟨r1, by omega, r3⟩, ?_⟩
  rw [r4, r5]
  have b1 := place_b (n := nF I 39) (C := lv7 (I 27)) (fl := 1) (F := gunA (nF I 39) (lv7 (I 27)) R (VF I 39) (I 39 9)) (b := k) hn
  have b0 := place_b (n := nF I 39) (C := lv7 (I 27)) (fl := 0) (F := gunA (nF I 39) (lv7 (I 27)) R (VF I 39) (I 39 9)) (b := k) hn
  have h' := h E (fun c q y => by rw [hE3 c q (fun z => y (by unfold Scr; omega)), hfr c q y])
  by_cases z : place (nF I 39) (lv7 (I 27)) 1 (gunA (nF I 39) (lv7 (I 27)) R (VF I 39) (I 39 9)) k < place (nF I 39) (lv7 (I 27)) 0 (gunA (nF I 39) (lv7 (I 27)) R (VF I 39) (I 39 9)) k
  · rw [if_pos (by rw [jn_lt (by omega) (by omega)]; exact z)]
    rw [b2i_1 z] at h'; exact h'
  · rw [if_neg (by rw [jn_lt (by omega) (by omega)]; exact z)]
    rw [b2i_0 z] at h'; exact h'
theorem sdX11_flag : mj_Sd mX11_flag 6 tX11_flag := by
  intro Ω l d hd as M Φ h
  unfold tX11_flag at h
  split at h
  · rename_i z_this b
    obtain ⟨⟨rfl, hM⟩, m, R, hp, h⟩ := h
    rw [mj_isk_of hM]
    exact mnX11_flag hd b m R _ _ hp (by
      rw [mj_isk_of hM] at h
      exact h)
  · exact h.elim
