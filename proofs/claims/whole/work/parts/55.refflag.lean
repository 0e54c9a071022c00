/-! ===== ahead, flag: the reference (by program, wip/whole/p55.py) ===== -/
theorem FOk_gunE {u : Int} {n : Nat} {C : Nat → Int32} {R : RF} (hn : n ≤ 8) : ∀ (k : Nat) (F : Vw) (s : Int32), s.toInt + k = (C 5).toInt → FOk u n C F s → FOk u n C (gunV n C R k F s) (C 5) := by
  intro k
  induction k with
  | zero => intro F s hs h; rw [show C 5 = s from Int32.toInt_inj.mp (by omega)]; exact h
  | succ k ih =>
    intro F s hs h
    have e := i_add1 (x := s) (by have := Int32.toInt_lt (C 5); omega)
    exact ih _ _ (by omega) (FOk_pass hn h (by omega))
theorem FOk_end {u : Int} {n : Nat} {C : Nat → Int32} {R : RF} {F : Vw} {s : Int32} (hn : n ≤ 8) (h : FOk u n C F s) : FOk u n C (gunA n C R F s) (C 5) := by
  have l5 := h.1.2.2.2.2.2.1
  have hs := h.2.1
  have eL := i_sub (x := C 5) (y := s) (by omega)
  exact FOk_gunE hn _ F s (by rw [Int32.toNatClampNeg, eL]; omega) h
def csX12_ahead : List (Nat × Nat × Nat × mj_PT) := [(214, 1, 3, tX12_in), (283, 0, 3, mj_rcv 12 tX12_of), (292, 0, 3, mj_rcv 12 tX12_statusBy), (306, 0, 2, mj_rcv 12 tX12_isBoat), (312, 0, 2, mj_rcv 12 tX12_scoreOf), (315, 0, 2, mj_rcv 12 tX12_placeOf), (382, 0, 1, mj_rcv 12 tX12_putAside), (385, 0, 1, mj_rcv 12 tX12_toGun), (388, 0, 1, mj_rcv 12 tX12_takeBack)]
theorem csX12_ahead_ok : mj_Cs mX12_ahead 10 csX12_ahead := (mj_CsS (D' := 1) sdX12_in (Nat.le_of_ble_eq_true rfl) fX12_in sX12_in (by decide +kernel) l12_214 (mj_CsV (D' := 1) (ci := 12) (q := (RX12, TX12, 45)) sdX12_of (Nat.le_of_ble_eq_true rfl) fX12_of rfl rfl iX12_of vX12_of (by decide +kernel) l12_283 (mj_CsV (D' := 2) (ci := 12) (q := (RX12, TX12, 45)) sdX12_statusBy (Nat.le_of_ble_eq_true rfl) fX12_statusBy rfl rfl iX12_statusBy vX12_statusBy (by decide +kernel) l12_292 (mj_CsV (D' := 2) (ci := 12) (q := (RX12, TX12, 45)) sdX12_isBoat (Nat.le_of_ble_eq_true rfl) fX12_isBoat rfl rfl iX12_isBoat vX12_isBoat (by decide +kernel) l12_306 (mj_CsV (D' := 4) (ci := 12) (q := (RX12, TX12, 45)) sdX12_scoreOf (Nat.le_of_ble_eq_true rfl) fX12_scoreOf rfl rfl iX12_scoreOf vX12_scoreOf (by decide +kernel) l12_312 (mj_CsV (D' := 5) (ci := 12) (q := (RX12, TX12, 45)) sdX12_placeOf (Nat.le_of_ble_eq_true rfl) fX12_placeOf rfl rfl iX12_placeOf vX12_placeOf (by decide +kernel) l12_315 (mj_CsV (D' := 1) (ci := 12) (q := (RX12, TX12, 45)) sdX12_putAside (Nat.le_of_ble_eq_true rfl) fX12_putAside rfl rfl iX12_putAside vX12_putAside (by decide +kernel) l12_382 (mj_CsV (D' := 9) (ci := 12) (q := (RX12, TX12, 45)) sdX12_toGun (Nat.le_of_ble_eq_true rfl) fX12_toGun rfl rfl iX12_toGun vX12_toGun (by decide +kernel) l12_385 (mj_CsV (D' := 1) (ci := 12) (q := (RX12, TX12, 45)) sdX12_takeBack (Nat.le_of_ble_eq_true rfl) fX12_takeBack rfl rfl iX12_takeBack vX12_takeBack (by decide +kernel) l12_388 mj_Cs0)))))))))
def cutX12_ahead : List (Nat × List Bool) := [(29, [true, true, true, false]), (82, [true, true, true, true])]
set_option maxRecDepth 100000 in
set_option maxHeartbeats 4000000 in
theorem inX12_ahead {Ω : mj_Om} {l : Launch} {d : Nat} {Φ : Option Value → mj_M → Prop} (hd : 10 ≤ d) (b : Int32) (w : Int32) (I : Nat → Nat → Int32) (J : Nat → Nat → Int64)
    (h : ((if b < (0 : Int32) then (Φ (some (.int (-1000000 : Int32))) (mk I J)) else (if ((I 91 22) - (1 : Int32)) < b then (Φ (some (.int (-1000000 : Int32))) (mk I J)) else (if w < (0 : Int32) then (Φ (some (.int (-1000000 : Int32))) (mk I J)) else (if (5 : Int32) < w then (Φ (some (.int (-1000000 : Int32))) (mk I J)) else ((91 = 91 ∧ mj_isk (mk I J)) ∧ (∀ I654 : Nat → Nat → Int32, (kpP I 106 111 0 0 49 I654) → ((91 = 91 ∧ mj_isk (mk I654 J)) ∧ (∃ u656 : Int, (∃ m657 : Nat, (∃ R658 : RF, ((u656 ≤ 1000 ∧ FM u656 I654 ∧ RuM I654 m657 R658 ∧ hOk (nM I654) (I654 91 25)) ∧ (∀ I659 : Nat → Nat → Int32, (VM I659 = gunG (nM I654) (lv7 (I654 104)) R658 (I654 91 25) ((lv7 (I654 104)) 5 - (I654 106 48)).toNatClampNeg (I654 91 26) (VM I654) (I654 106 48) ∧ I659 106 48 = (lv7 (I654 104)) 5 ∧ fr (fun c k => c = 100 ∨ c = 101 ∨ (c = 106 ∧ k < 49) ∨ c = 107 ∨ c = 108 ∨ c = 109 ∨ (c = 91 ∧ k = 26)) I654 I659) → (mj_G Ω l false mX12_ahead d 0 0 Φ 0 0 29 ([some (.ref 91), some (.int b), some (.int w), none], [], (mk I659 J))))))))))))))))) :
    mj_Met Ω l false mX12_ahead d 0 0 [.ref 91, .int b, .int w] (mk I J) Φ := mj_entry (by decide) rfl (fun h => (by cases h)) (Nat.le_of_ble_eq_true rfl) (mj_blk (μ := mX12_ahead) (P := pX12_ahead) (cut := cutX12_ahead) (cs := csX12_ahead) dX12_ahead csX12_ahead_ok hd 50 0 _ h)
set_option maxRecDepth 100000 in
set_option maxHeartbeats 4000000 in
theorem bX12_ahead_29 {Ω : mj_Om} {l : Launch} {d : Nat} {Φ : Option Value → mj_M → Prop} (hd : 10 ≤ d) (x1 : Int32) (x2 : Int32) (I : Nat → Nat → Int32) (J : Nat → Nat → Int64)
    (h : ((if x2 < (3 : Int32) then (mj_gd (mj_inB (((6 : Int32) * x1) + x2) 49) (mj_G Ω l false mX12_ahead d 0 0 Φ 0 0 82 ([some (.ref 91), some (.int x1), some (.int x2), some (.int (I 106 ((((6 : Int32) * x1) + x2)).toNatClampNeg))], [], (mk I J)))) else (if x2 = (3 : Int32) then ((91 = 91 ∧ mj_isk (mk I J)) ∧ (∃ b661 : Nat, x1 = nI b661 ∧ ((okM I ∧ b661 < nM I) ∧ (mj_G Ω l false mX12_ahead d 0 0 Φ 0 0 82 ([some (.ref 91), some (.int x1), some (.int x2), some (.int (stat (I 104 6) (VM I) b661))], [], (mk I J)))))) else (if x2 = (4 : Int32) then ((91 = 91 ∧ mj_isk (mk I J)) ∧ (∃ b664 : Nat, x1 = nI b664 ∧ ((okM I ∧ b664 < nM I ∧ lineOk (lv7 (I 104)) ∧ colB (nM I) (VM I)) ∧ (mj_G Ω l false mX12_ahead d 0 0 Φ 0 0 82 ([some (.ref 91), some (.int x1), some (.int x2), some (.int (score (nM I) (lv7 (I 104)) (I 104 6) (VM I) b664))], [], (mk I J)))))) else ((91 = 91 ∧ mj_isk (mk I J)) ∧ (∃ b667 : Nat, x1 = nI b667 ∧ (∃ u668 : Int, ((u668 ≤ 1000 ∧ FM u668 I ∧ b667 < nM I) ∧ (mj_G Ω l false mX12_ahead d 0 0 Φ 0 0 82 ([some (.ref 91), some (.int x1), some (.int x2), some (.int (nI (place (nM I) (lv7 (I 104)) (I 104 6) (VM I) b667)))], [], (mk I J)))))))))))) :
    mj_G Ω l false mX12_ahead d 0 0 Φ 0 0 29 ([some (.ref 91), some (.int x1), some (.int x2), none], [], mk I J) := mj_blk (μ := mX12_ahead) (P := pX12_ahead) (cut := cutX12_ahead) (cs := csX12_ahead) dX12_ahead csX12_ahead_ok hd 50 29 _ h
set_option maxRecDepth 100000 in
set_option maxHeartbeats 4000000 in
theorem bX12_ahead_82 {Ω : mj_Om} {l : Launch} {d : Nat} {Φ : Option Value → mj_M → Prop} (hd : 10 ≤ d) (x1 : Int32) (x2 : Int32) (x3 : Int32) (I : Nat → Nat → Int32) (J : Nat → Nat → Int64)
    (h : (((91 = 91 ∧ mj_isk (mk I J)) ∧ (∀ I671 : Nat → Nat → Int32, ((∀ k, k < 49 → I671 106 k = I 111 k) ∧ I671 91 25 = -1 ∧ I671 91 26 = 0 ∧ fr (fun c k => (c = 106 ∧ k < 49) ∨ (c = 91 ∧ (k = 25 ∨ k = 26))) I I671) → (Φ (some (.int x3)) (mk I671 J)))))) :
    mj_G Ω l false mX12_ahead d 0 0 Φ 0 0 82 ([some (.ref 91), some (.int x1), some (.int x2), some (.int x3)], [], mk I J) := mj_blk (μ := mX12_ahead) (P := pX12_ahead) (cut := cutX12_ahead) (cs := csX12_ahead) dX12_ahead csX12_ahead_ok hd 50 82 _ h
def tX12_ahead : mj_PT := fun as M Φ => match as with
  | [.ref this, .int b, .int w] => ((this = 91 ∧ mj_isk M) ∧ (∃ m : Nat, (∃ R : RF, ((qM M.2.2.1 m R) ∧ (∀ I1 : Nat → Nat → Int32, (fr Scr M.2.2.1 I1) → Φ (some (.int (aheadR (nM M.2.2.1) (lv7 (M.2.2.1 104)) R (VM M.2.2.1) (M.2.2.1 106 48) b w))) (M.1, M.2.1, I1, M.2.2.2))))))
  | _ => False
set_option maxHeartbeats 8000000 in
theorem mnX12_ahead {Ω : mj_Om} {l : Launch} {d : Nat} {Φ : Option Value → mj_M → Prop} (hd : 10 ≤ d) (b : Int32) (w : Int32) (m : Nat) (R : RF) (I : Nat → Nat → Int32) (J : Nat → Nat → Int64) (hp : qM I m R) (h : ∀ I1 : Nat → Nat → Int32, (fr Scr I I1) → Φ (some (.int (aheadR (nM I) (lv7 (I 104)) R (VM I) (I 106 48) b w))) (mk I1 J)) : mj_Met Ω l false mX12_ahead d 0 0 [.ref 91, .int b, .int w] (mk I J) Φ := by
  refine inX12_ahead hd b w I J ?_
  obtain ⟨⟨hc, hn⟩, hR, hFF, h25, h26⟩ := id hp
  have hH : ¬ (okBN (nM I) b ∧ 0 ≤ w ∧ ¬ 5 < w) → Φ (some (.int (-1000000))) (mk I J) := fun q => by
    have := h I fr_rf
    unfold aheadR at this
    rwa [cif_f q] at this
  by_cases hb0 : b < 0
  · rw [if_pos hb0]; exact hH (fun w => ((in_n hn).mpr w.1).1 hb0)
  rw [if_neg hb0, hc]
  by_cases hb1 : nI (nM I) - 1 < b
  · rw [if_pos hb1]; exact hH (fun w => ((in_n hn).mpr w.1).2 hb1)
  rw [if_neg hb1]
  have hok := (in_n hn).mp ⟨hb0, hb1⟩
  obtain ⟨k, hk, rfl⟩ := okB_of hb0 hok.2 hn
  have hF := hFF (by omega)
  by_cases w0 : w < 0
  · rw [if_pos w0]; exact hH (fun z => absurd w0 (Int32.not_lt.mpr z.2.1))
  rw [if_neg w0]
  by_cases w1 : 5 < w
  · rw [if_pos w1]; exact hH (fun z => z.2.2 w1)
  rw [if_neg w1]
  refine ⟨⟨by trivial, mj_isk_mk _ _⟩, fun A hA => ?_⟩
  have ha0 := asd_0 hA
  obtain ⟨q1, q2, q3, q4, q5⟩ := qM_a hp ha0
  refine ⟨⟨by trivial, mj_isk_mk _ _⟩, 19, m, R, ⟨by decide, ⟨q1.1, by rw [q2, q4, q3, q5]; exact hF⟩, q1.2.1, by rw [q1.2.2.2.1]; exact Or.inl rfl⟩, fun D hD => ?_⟩
  obtain ⟨d1, d2, d3⟩ := hD
  rw [q2, q4, q3, q5, q1.2.2.2.1, gunG_V] at d1
  obtain ⟨oD, nD, -⟩ := mM_fr d3 (by (try dsimp only); omega) q1.1
  rw [q2] at nD
  have CD : lv7 (D 104) = lv7 (I 104) := by rw [lv7_fr (fun q => d3 104 q (by (try dsimp only); omega)), q4]
  have e6 : D 104 6 = lv7 (I 104) 6 := by rw [← CD, lv7_at (by decide)]
  obtain ⟨s', hG⟩ := FOk_gunA (R := R) hn hF
  have fin : ∀ E : Nat → Nat → Int32, ((∀ k, k < 49 → E 106 k = D 111 k) ∧ E 91 25 = -1 ∧ E 91 26 = 0 ∧ fr (fun c k => (c = 106 ∧ k < 49) ∨ (c = 91 ∧ (k = 25 ∨ k = 26))) D E) → fr Scr I E := by
    intro E hE
    refine asd_s (asd_back ha0 h25 h26 ⟨fun q hq2 => by rw [hE.1 q hq2, d3 111 q (by (try dsimp only); omega)], hE.2.1, hE.2.2.1, fun c q y1 => ?_⟩)
    try dsimp only at y1
    rw [hE.2.2.2 c q (by (try dsimp only); omega), d3 c q (by (try dsimp only); omega)]
  have eqA : lv7 (A 104) 5 = lv7 (I 104) 5 := by rw [q4]
  unfold aheadR at h
  rw [cif_t ⟨hok, Int32.not_lt.mp w0, w1⟩, jn_cl (by omega)] at h
  have k82 : ∀ x3 : Int32, x3 = atG (nM I) (lv7 (I 104)) (gunA (nM I) (lv7 (I 104)) R (VM I) (I 106 48)) k w → mj_G Ω l false mX12_ahead d 0 0 Φ 0 0 82 ([some (.ref 91), some (.int (nI k)), some (.int w), some (.int x3)], [], mk D J) := by
    intro x3 hx
    refine bX12_ahead_82 hd (nI k) w x3 D J ?_
    refine ⟨⟨by trivial, mj_isk_mk _ _⟩, fun E hE => ?_⟩
    rw [hx]
    exact h E (fin E hE)
  refine bX12_ahead_29 hd (nI k) w D J ?_
  have dG : VM D = gunA (nM I) (lv7 (I 104)) R (VM I) (I 106 48) := d1
  unfold atG at k82
  rw [← dG] at k82 hG
  have hl : lineOk (lv7 (D 104)) := by rw [CD]; exact hF.1
  have v0 := VM_0 (I := D) (b := k) (by omega)
  have v1 := VM_1 (I := D) (b := k) (by omega)
  have v2 := VM_2 (I := D) (b := k) (by omega)
  by_cases q0 : w = 0
  · subst q0
    rw [if_pos (by decide)]
    simp (disch := omega) only [jn_in, jn_cl, gd_dec, n6_0]
    exact k82 _ (by rw [if_pos (by trivial), v0])
  by_cases q1 : w = 1
  · subst q1
    rw [if_pos (by decide)]
    simp (disch := omega) only [jn_in, jn_cl, gd_dec, n6_1]
    exact k82 _ (by rw [if_neg (by decide), if_pos (by trivial), v1])
  by_cases q2 : w = 2
  · subst q2
    rw [if_pos (by decide)]
    simp (disch := omega) only [jn_in, jn_cl, gd_dec, n6_2]
    exact k82 _ (by rw [if_neg (by decide), if_neg (by decide), if_pos (by trivial), v2])
  have hw3 : ¬ w < 3 := by
    rw [Int32.lt_iff_toInt_lt] at w0 ⊢
    rw [← Int32.toInt_inj] at q0 q1 q2
    have i2 : (2 : Int32).toInt = 2 := rfl
    have i3 : (3 : Int32).toInt = 3 := rfl
    rw [i_0] at w0 q0
    rw [i_1] at q1
    omega
  rw [if_neg hw3]
  simp only [if_neg q0, if_neg q1, if_neg q2] at k82
  by_cases q3 : w = 3
  · rw [if_pos q3]
    rw [if_pos q3] at k82
    refine ⟨⟨by trivial, mj_isk_mk _ _⟩, k, rfl, ⟨oD, by omega⟩, ?_⟩
    rw [e6]
    exact k82 _ rfl
  rw [if_neg q3]
  rw [if_neg q3] at k82
  by_cases q4 : w = 4
  · rw [if_pos q4]
    rw [if_pos q4] at k82
    refine ⟨⟨by trivial, mj_isk_mk _ _⟩, k, rfl, ⟨oD, by omega, hl, by rw [nD]; exact FOk_col hG⟩, ?_⟩
    rw [e6, nD, CD]
    exact k82 _ rfl
  rw [if_neg q4]
  rw [if_neg q4] at k82
  refine ⟨⟨by trivial, mj_isk_mk _ _⟩, k, rfl, 19, ⟨by decide, ⟨oD, ?_⟩, by omega⟩, ?_⟩
  · rw [nD, CD, d2]
    have hsx := FOk_end (R := R) hn hF
    rw [← dG] at hsx
    rw [eqA]
    exact hsx
  · rw [e6, nD, CD]
    exact k82 _ rfl
theorem sdX12_ahead : mj_Sd mX12_ahead 10 tX12_ahead := by
  intro Ω l d hd as M Φ h
  unfold tX12_ahead at h
  split at h
  · rename_i z_this b w
    obtain ⟨⟨rfl, hM⟩, m, R, hp, h⟩ := h
    rw [mj_isk_of hM]
    exact mnX12_ahead hd b w m R _ _ hp (by
      rw [mj_isk_of hM] at h
      exact h)
  · exact h.elim
def csX12_flag : List (Nat × Nat × Nat × mj_PT) := [(303, 0, 3, mj_rcv 12 tX12_placeBy), (306, 0, 2, mj_rcv 12 tX12_isBoat), (382, 0, 1, mj_rcv 12 tX12_putAside), (385, 0, 1, mj_rcv 12 tX12_toGun), (388, 0, 1, mj_rcv 12 tX12_takeBack)]
theorem csX12_flag_ok : mj_Cs mX12_flag 10 csX12_flag := (mj_CsV (D' := 4) (ci := 12) (q := (RX12, TX12, 45)) sdX12_placeBy (Nat.le_of_ble_eq_true rfl) fX12_placeBy rfl rfl iX12_placeBy vX12_placeBy (by decide +kernel) l12_303 (mj_CsV (D' := 2) (ci := 12) (q := (RX12, TX12, 45)) sdX12_isBoat (Nat.le_of_ble_eq_true rfl) fX12_isBoat rfl rfl iX12_isBoat vX12_isBoat (by decide +kernel) l12_306 (mj_CsV (D' := 1) (ci := 12) (q := (RX12, TX12, 45)) sdX12_putAside (Nat.le_of_ble_eq_true rfl) fX12_putAside rfl rfl iX12_putAside vX12_putAside (by decide +kernel) l12_382 (mj_CsV (D' := 9) (ci := 12) (q := (RX12, TX12, 45)) sdX12_toGun (Nat.le_of_ble_eq_true rfl) fX12_toGun rfl rfl iX12_toGun vX12_toGun (by decide +kernel) l12_385 (mj_CsV (D' := 1) (ci := 12) (q := (RX12, TX12, 45)) sdX12_takeBack (Nat.le_of_ble_eq_true rfl) fX12_takeBack rfl rfl iX12_takeBack vX12_takeBack (by decide +kernel) l12_388 mj_Cs0)))))
def cutX12_flag : List (Nat × List Bool) := [(18, [true, true, false]), (39, [true, true, true])]
set_option maxRecDepth 100000 in
set_option maxHeartbeats 4000000 in
theorem inX12_flag {Ω : mj_Om} {l : Launch} {d : Nat} {Φ : Option Value → mj_M → Prop} (hd : 10 ≤ d) (b : Int32) (I : Nat → Nat → Int32) (J : Nat → Nat → Int64)
    (h : ((if b < (0 : Int32) then (Φ (some (.int (-1 : Int32))) (mk I J)) else (if ((I 91 22) - (1 : Int32)) < b then (Φ (some (.int (-1 : Int32))) (mk I J)) else ((91 = 91 ∧ mj_isk (mk I J)) ∧ (∀ I690 : Nat → Nat → Int32, (kpP I 106 111 0 0 49 I690) → ((91 = 91 ∧ mj_isk (mk I690 J)) ∧ (∃ u692 : Int, (∃ m693 : Nat, (∃ R694 : RF, ((u692 ≤ 1000 ∧ FM u692 I690 ∧ RuM I690 m693 R694 ∧ hOk (nM I690) (I690 91 25)) ∧ (∀ I695 : Nat → Nat → Int32, (VM I695 = gunG (nM I690) (lv7 (I690 104)) R694 (I690 91 25) ((lv7 (I690 104)) 5 - (I690 106 48)).toNatClampNeg (I690 91 26) (VM I690) (I690 106 48) ∧ I695 106 48 = (lv7 (I690 104)) 5 ∧ fr (fun c k => c = 100 ∨ c = 101 ∨ (c = 106 ∧ k < 49) ∨ c = 107 ∨ c = 108 ∨ c = 109 ∨ (c = 91 ∧ k = 26)) I690 I695) → (mj_G Ω l false mX12_flag d 0 0 Φ 0 0 18 ([some (.ref 91), some (.int b), none], [], (mk I695 J))))))))))))))) :
    mj_Met Ω l false mX12_flag d 0 0 [.ref 91, .int b] (mk I J) Φ := mj_entry (by decide) rfl (fun h => (by cases h)) (Nat.le_of_ble_eq_true rfl) (mj_blk (μ := mX12_flag) (P := pX12_flag) (cut := cutX12_flag) (cs := csX12_flag) dX12_flag csX12_flag_ok hd 28 0 _ h)
set_option maxRecDepth 100000 in
set_option maxHeartbeats 4000000 in
theorem bX12_flag_18 {Ω : mj_Om} {l : Launch} {d : Nat} {Φ : Option Value → mj_M → Prop} (hd : 10 ≤ d) (x1 : Int32) (I : Nat → Nat → Int32) (J : Nat → Nat → Int64)
    (h : (((91 = 91 ∧ mj_isk (mk I J)) ∧ (∃ b697 : Nat, x1 = nI b697 ∧ (∃ u698 : Int, ((u698 ≤ 1000 ∧ FM u698 I ∧ b697 < nM I) ∧ ((91 = 91 ∧ mj_isk (mk I J)) ∧ (∃ b701 : Nat, x1 = nI b701 ∧ (∃ u702 : Int, ((u702 ≤ 1000 ∧ FM u702 I ∧ b701 < nM I) ∧ (if (nI (place (nM I) (lv7 (I 104)) (1 : Int32) (VM I) b697)) < (nI (place (nM I) (lv7 (I 104)) (0 : Int32) (VM I) b701)) then (mj_G Ω l false mX12_flag d 0 0 Φ 0 0 39 ([some (.ref 91), some (.int x1), some (.int (1 : Int32))], [], (mk I J))) else (mj_G Ω l false mX12_flag d 0 0 Φ 0 0 39 ([some (.ref 91), some (.int x1), some (.int (0 : Int32))], [], (mk I J)))))))))))))) :
    mj_G Ω l false mX12_flag d 0 0 Φ 0 0 18 ([some (.ref 91), some (.int x1), none], [], mk I J) := mj_blk (μ := mX12_flag) (P := pX12_flag) (cut := cutX12_flag) (cs := csX12_flag) dX12_flag csX12_flag_ok hd 28 18 _ h
set_option maxRecDepth 100000 in
set_option maxHeartbeats 4000000 in
theorem bX12_flag_39 {Ω : mj_Om} {l : Launch} {d : Nat} {Φ : Option Value → mj_M → Prop} (hd : 10 ≤ d) (x1 : Int32) (x2 : Int32) (I : Nat → Nat → Int32) (J : Nat → Nat → Int64)
    (h : (((91 = 91 ∧ mj_isk (mk I J)) ∧ (∀ I705 : Nat → Nat → Int32, ((∀ k, k < 49 → I705 106 k = I 111 k) ∧ I705 91 25 = -1 ∧ I705 91 26 = 0 ∧ fr (fun c k => (c = 106 ∧ k < 49) ∨ (c = 91 ∧ (k = 25 ∨ k = 26))) I I705) → (Φ (some (.int x2)) (mk I705 J)))))) :
    mj_G Ω l false mX12_flag d 0 0 Φ 0 0 39 ([some (.ref 91), some (.int x1), some (.int x2)], [], mk I J) := mj_blk (μ := mX12_flag) (P := pX12_flag) (cut := cutX12_flag) (cs := csX12_flag) dX12_flag csX12_flag_ok hd 28 39 _ h
def tX12_flag : mj_PT := fun as M Φ => match as with
  | [.ref this, .int b] => ((this = 91 ∧ mj_isk M) ∧ (∃ m : Nat, (∃ R : RF, ((qM M.2.2.1 m R) ∧ (∀ I1 : Nat → Nat → Int32, (fr Scr M.2.2.1 I1) → Φ (some (.int (flagR (nM M.2.2.1) (lv7 (M.2.2.1 104)) R (VM M.2.2.1) (M.2.2.1 106 48) b))) (M.1, M.2.1, I1, M.2.2.2))))))
  | _ => False
set_option maxHeartbeats 8000000 in
theorem mnX12_flag {Ω : mj_Om} {l : Launch} {d : Nat} {Φ : Option Value → mj_M → Prop} (hd : 10 ≤ d) (b : Int32) (m : Nat) (R : RF) (I : Nat → Nat → Int32) (J : Nat → Nat → Int64) (hp : qM I m R) (h : ∀ I1 : Nat → Nat → Int32, (fr Scr I I1) → Φ (some (.int (flagR (nM I) (lv7 (I 104)) R (VM I) (I 106 48) b))) (mk I1 J)) : mj_Met Ω l false mX12_flag d 0 0 [.ref 91, .int b] (mk I J) Φ := by
  refine inX12_flag hd b I J ?_
  obtain ⟨⟨hc, hn⟩, hR, hFF, h25, h26⟩ := id hp
  have hH : ¬ (okBN (nM I) b) → Φ (some (.int (-1))) (mk I J) := fun q => by
    have := h I fr_rf
    unfold flagR at this
    rwa [cif_f q] at this
  by_cases hb0 : b < 0
  · rw [if_pos hb0]; exact hH (fun w => ((in_n hn).mpr w).1 hb0)
  rw [if_neg hb0, hc]
  by_cases hb1 : nI (nM I) - 1 < b
  · rw [if_pos hb1]; exact hH (fun w => ((in_n hn).mpr w).2 hb1)
  rw [if_neg hb1]
  have hok := (in_n hn).mp ⟨hb0, hb1⟩
  obtain ⟨k, hk, rfl⟩ := okB_of hb0 hok.2 hn
  have hF := hFF (by omega)
  refine ⟨⟨by trivial, mj_isk_mk _ _⟩, fun A hA => ?_⟩
  have ha0 := asd_0 hA
  obtain ⟨q1, q2, q3, q4, q5⟩ := qM_a hp ha0
  refine ⟨⟨by trivial, mj_isk_mk _ _⟩, 19, m, R, ⟨by decide, ⟨q1.1, by rw [q2, q4, q3, q5]; exact hF⟩, q1.2.1, by rw [q1.2.2.2.1]; exact Or.inl rfl⟩, fun D hD => ?_⟩
  obtain ⟨d1, d2, d3⟩ := hD
  rw [q2, q4, q3, q5, q1.2.2.2.1, gunG_V] at d1
  obtain ⟨oD, nD, -⟩ := mM_fr d3 (by (try dsimp only); omega) q1.1
  rw [q2] at nD
  have CD : lv7 (D 104) = lv7 (I 104) := by rw [lv7_fr (fun q => d3 104 q (by (try dsimp only); omega)), q4]
  have e6 : D 104 6 = lv7 (I 104) 6 := by rw [← CD, lv7_at (by decide)]
  obtain ⟨s', hG⟩ := FOk_gunA (R := R) hn hF
  have fin : ∀ E : Nat → Nat → Int32, ((∀ k, k < 49 → E 106 k = D 111 k) ∧ E 91 25 = -1 ∧ E 91 26 = 0 ∧ fr (fun c k => (c = 106 ∧ k < 49) ∨ (c = 91 ∧ (k = 25 ∨ k = 26))) D E) → fr Scr I E := by
    intro E hE
    refine asd_s (asd_back ha0 h25 h26 ⟨fun q hq2 => by rw [hE.1 q hq2, d3 111 q (by (try dsimp only); omega)], hE.2.1, hE.2.2.1, fun c q y1 => ?_⟩)
    try dsimp only at y1
    rw [hE.2.2.2 c q (by (try dsimp only); omega), d3 c q (by (try dsimp only); omega)]
  have eqA : lv7 (A 104) 5 = lv7 (I 104) 5 := by rw [q4]
  unfold flagR at h
  rw [cif_t hok, jn_cl (by omega)] at h
  have dG : VM D = gunA (nM I) (lv7 (I 104)) R (VM I) (I 106 48) := d1
  have hsx := FOk_end (R := R) hn hF
  rw [← dG] at hsx h
  have hFM : FM 19 D := ⟨oD, by rw [nD, CD, d2, eqA]; exact hsx⟩
  have b1 := place_b (n := nM I) (C := lv7 (I 104)) (fl := 1) (F := VM D) (b := k) hn
  have b0 := place_b (n := nM I) (C := lv7 (I 104)) (fl := 0) (F := VM D) (b := k) hn
  refine bX12_flag_18 hd (nI k) D J ?_
  refine ⟨⟨by trivial, mj_isk_mk _ _⟩, k, rfl, 19, ⟨by decide, hFM, by omega⟩, ⟨by trivial, mj_isk_mk _ _⟩, k, rfl, 19, ⟨by decide, hFM, by omega⟩, ?_⟩
  rw [nD, CD]
  by_cases z : place (nM I) (lv7 (I 104)) 1 (VM D) k < place (nM I) (lv7 (I 104)) 0 (VM D) k
  · rw [if_pos (by rw [jn_lt (by omega) (by omega)]; exact z)]
    rw [b2i_1 z] at h
    refine bX12_flag_39 hd (nI k) 1 D J ?_
    exact ⟨⟨by trivial, mj_isk_mk _ _⟩, fun E hE => h E (fin E hE)⟩
  · rw [if_neg (by rw [jn_lt (by omega) (by omega)]; exact z)]
    rw [b2i_0 z] at h
    refine bX12_flag_39 hd (nI k) 0 D J ?_
    exact ⟨⟨by trivial, mj_isk_mk _ _⟩, fun E hE => h E (fin E hE)⟩
theorem sdX12_flag : mj_Sd mX12_flag 10 tX12_flag := by
  intro Ω l d hd as M Φ h
  unfold tX12_flag at h
  split at h
  · rename_i z_this b
    obtain ⟨⟨rfl, hM⟩, m, R, hp, h⟩ := h
    rw [mj_isk_of hM]
    exact mnX12_flag hd b m R _ _ hp (by
      rw [mj_isk_of hM] at h
      exact h)
  · exact h.elim
